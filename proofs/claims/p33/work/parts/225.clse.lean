set_option maxHeartbeats 4000000 in
set_option maxRecDepth 100000 in
theorem qX0_judgeRound (l : Launch) (D : va_G) (cy : Nat → ClassId) (a : Nat → Nat) (o : Nat) (S : SX0)  (sz : Nat) (rs : SX0) (h : DX0_judgeRound S = some rs) : Met l yX0_judgeRound wsX0_judgeRound ({ frames := 4, cells := 0, slots := 0, locals := 99 } : Room) (mP D cy sz [.ref (a o)] (wX0 cy a o S)) (va_Qv (fun (u : SX0) => u = rs) (fun u t => mB D sz (wX0 cy a o S) (wX0 cy a o u) t) (va_A (wX0 cy a o S) sz)) 0 0 (va_A (wX0 cy a o S) sz) := by
  refine Met.ofW (cc := cX0_judgeRound) (maxL := 3) (ret := none) (by decide) rfl ?_
  intro p e s m args below meth c s₁ B hml hv
  obtain ⟨rfl, hsz, hP, hG, hD0⟩ := hv
  have hx := B.exec
  have hb := B.bytes
  have hr := B.returns
  have hts := atoms_spec (ws := wsX0_judgeRound) B.pre
  have hown : s.vm.findClass RX0 = some m.cls := findClass_of_methodNamed B.named
  have hlocks := B.notSynchronized
  have hK := hG.1
  subst hsz
  have hD := hD0.self (sz := s.heap.size)
  have hA : ∀ q : Nat, s.heap.size ≤ q → (va_A (wX0 cy a o S) s.heap.size) q := fun q h => Or.inr h
  have hS : va_S (va_A (wX0 cy a o S) s.heap.size) s.heap s.heap [] := va_S.rf
  have hinX0 := (by decide +kernel : ∀ w ∈ wsX00, w ∈ wsX0_judgeRound)
  have hf81 := hts (.fieldLink RX0 81 "PianoRounds$Competition" "cut" "LPianoRounds$Cut;") (by decide +kernel)
  have hf99 := hts (.fieldLink RX0 99 "PianoRounds$Competition" "round" "I") (by decide +kernel)
  have hf37 := hts (.fieldLink RX0 37 "PianoRounds$Competition" "rules" "[[I") (by decide +kernel)
  have hf57 := hts (.fieldLink RX0 57 "PianoRounds$Competition" "stage" "LPianoRounds$Stage;") (by decide +kernel)
  have hinX7 := (by decide +kernel : ∀ w ∈ wsX70, w ∈ wsX0_judgeRound)
  have hf139 := va_Nw.use (A := ([.ref (a o)] : List Value).toArray) (U := s) (w := .fieldLinkNest "PianoRounds$Competition" 139 "PianoRounds$Stage" "players" "I" "PianoRounds") rfl (hG.2.1 _ (by decide +kernel))
  have hl := lv_entry ([.ref (a o)]) (n := 3) (Nat.le_of_ble_eq_true rfl)
  rw [lg_entry_eq]
  generalize (lg_sl ([.ref (a o)]) ++ List.replicate (3 - (lg_sl ([.ref (a o)])).length) Slot.unset).toArray = ls at hl ⊢
  have hl : lv_has ls 3 [(0, .ref (a o))] := hl
  rw [DX0_judgeRound] at h
  refine lv_aload_n hx hb dX0_judgeRound_0 rfl (lv_at hl 0 rfl) ?_
  refine va_get (D := D) (ci := 0) (v := .ref (a (o + 51))) (C := RX0) (T := TX0) (N := 14) hx hb hts hinX0 hown hK hP 0 rfl rfl 13 (by decide) hf81 (fun _ h9 => h9) rfl dX0_judgeRound_1 ?_
  obtain ⟨x1, e2, h⟩ := bd_some h
  refine smVv (As := []) (rest := []) (ws' := (wX0 cy a o (uX0_cut S x1))) (q0 := 0) (qX1_clear l D cy a (o + 51) (gX0_cut S)  (s.heap).size x1 e2) ⟨hx, hb, hml, hown, hts⟩ (cwV 0 hts gX0_judgeRound_X1_clear rfl rfl rfl (by decide +kernel) ⟨Nat.le_of_ble_eq_true rfl, Nat.le_of_ble_eq_true rfl⟩) hG hP hD hS hA (pm1 (X := ((hX0 a o S) ++ ((wX10 cy a (o + 1) (gX0_works S)) ++ ((wX2 cy a (o + 5) (gX0_entrants S)) ++ ((rowsW (cy 2) (cy 0) a (o + 7) 4 6 (gX0_rules S)) ++ ((wX4 cy a (o + 12) (gX0_programs S)) ++ ((wX3 cy a (o + 14) (gX0_jury S)) ++ ((wX7 cy a (o + 23) (gX0_stage S)) ++ ((wX6 cy a (o + 26) (gX0_sheet S)) ++ ((wX9 cy a (o + 35) (gX0_tie S)) ++ (rowsW (cy 2) (cy 0) a (o + 46) 4 12 (gX0_closedScores S)))))))))))) (c := (wX1 cy a (o + 51) (gX0_cut S))) (Y := ([] : va_W)) (show (wX0 cy a o S) = ((hX0 a o S) ++ ((wX10 cy a (o + 1) (gX0_works S)) ++ ((wX2 cy a (o + 5) (gX0_entrants S)) ++ ((rowsW (cy 2) (cy 0) a (o + 7) 4 6 (gX0_rules S)) ++ ((wX4 cy a (o + 12) (gX0_programs S)) ++ ((wX3 cy a (o + 14) (gX0_jury S)) ++ ((wX7 cy a (o + 23) (gX0_stage S)) ++ ((wX6 cy a (o + 26) (gX0_sheet S)) ++ ((wX9 cy a (o + 35) (gX0_tie S)) ++ (rowsW (cy 2) (cy 0) a (o + 46) 4 12 (gX0_closedScores S))))))))))) ++ ((wX1 cy a (o + 51) (gX0_cut S)) ++ ([] : va_W)) from by simp only [wX0, List.append_assoc, List.nil_append, List.append_nil] <;> rfl)) (pm1 (X := ((hX0 a o S) ++ ((wX10 cy a (o + 1) (gX0_works S)) ++ ((wX2 cy a (o + 5) (gX0_entrants S)) ++ ((rowsW (cy 2) (cy 0) a (o + 7) 4 6 (gX0_rules S)) ++ ((wX4 cy a (o + 12) (gX0_programs S)) ++ ((wX3 cy a (o + 14) (gX0_jury S)) ++ ((wX7 cy a (o + 23) (gX0_stage S)) ++ ((wX6 cy a (o + 26) (gX0_sheet S)) ++ ((wX9 cy a (o + 35) (gX0_tie S)) ++ (rowsW (cy 2) (cy 0) a (o + 46) 4 12 (gX0_closedScores S)))))))))))) (c := (wX1 cy a (o + 51) x1)) (Y := ([] : va_W)) (show (wX0 cy a o (uX0_cut S x1)) = ((hX0 a o S) ++ ((wX10 cy a (o + 1) (gX0_works S)) ++ ((wX2 cy a (o + 5) (gX0_entrants S)) ++ ((rowsW (cy 2) (cy 0) a (o + 7) 4 6 (gX0_rules S)) ++ ((wX4 cy a (o + 12) (gX0_programs S)) ++ ((wX3 cy a (o + 14) (gX0_jury S)) ++ ((wX7 cy a (o + 23) (gX0_stage S)) ++ ((wX6 cy a (o + 26) (gX0_sheet S)) ++ ((wX9 cy a (o + 35) (gX0_tie S)) ++ (rowsW (cy 2) (cy 0) a (o + 46) 4 12 (gX0_closedScores S))))))))))) ++ ((wX1 cy a (o + 51) x1) ++ ([] : va_W)) from by simp only [wX0, List.append_assoc, List.nil_append, List.append_nil] <;> rfl)) rfl rfl rfl hl.1 rfl (Nat.le_of_ble_eq_true rfl) dX0_judgeRound_4 ⟨Nat.zero_le _, Nat.zero_le _⟩ (fun H locs hP hD hS => ?_)
  obtain ⟨S3, eS4, h⟩ := lt_elim h
  have hP : va_P D vwCl (wX0 cy a o S3) H := by rw [eS4]; exact hP
  have hD : va_D (va_A (wX0 cy a o S) s.heap.size) (wX0 cy a o S3) := by rw [eS4]; exact hD
  refine lv_iconst (v := (0 : Int32)) hx hb dX0_judgeRound_7 (by decide) ?_
  refine lv_istore_n (lv' := [(1, .int (0 : Int32)), (0, .ref (a o))]) hx hb dX0_judgeRound_8 rfl hl (by decide) rfl (fun ls hl => ?_)
  have L27 : ∀ (k6 : SX0 → Option (SX0)) (hk6 : ∀ (S7 : SX0) (H : Heap) (locs : List Loc) (ls : Array Slot), k6 S7 = some rs → va_P D vwCl (wX0 cy a o S7) H → va_D (va_A (wX0 cy a o S) s.heap.size) (wX0 cy a o S7) → va_S (va_A (wX0 cy a o S) s.heap.size) s.heap H locs → lv_has ls 3 [(0, .ref (a o))] → W p l e (headSpec wsX0_judgeRound ({ frames := 4, cells := 0, slots := 0, locals := 99 } : Room)).room s m ([.ref (a o)] : List Value).toArray below meth c H locs 0 0 (MQ below (va_Qv (fun (u : SX0) => u = rs) (fun u t => mB D s.heap.size (wX0 cy a o S) (wX0 cy a o u) t) (va_A (wX0 cy a o S) s.heap.size)) ([.ref (a o)] : List Value).toArray s 0 0 (va_A (wX0 cy a o S) s.heap.size)) (F0 m 48 ls [])) (f : Nat) (v1_18 : Int32) (S5 : SX0) (H : Heap) (locs : List Loc) (ls : Array Slot), DX0_judgeRound_L9 k6 f v1_18 S5 = some rs → va_P D vwCl (wX0 cy a o S5) H → va_D (va_A (wX0 cy a o S) s.heap.size) (wX0 cy a o S5) → va_S (va_A (wX0 cy a o S) s.heap.size) s.heap H locs → lv_has ls 3 [(0, .ref (a o)), (1, .int v1_18)] → W p l e (headSpec wsX0_judgeRound ({ frames := 4, cells := 0, slots := 0, locals := 99 } : Room)).room s m ([.ref (a o)] : List Value).toArray below meth c H locs 0 0 (MQ below (va_Qv (fun (u : SX0) => u = rs) (fun u t => mB D s.heap.size (wX0 cy a o S) (wX0 cy a o u) t) (va_A (wX0 cy a o S) s.heap.size)) ([.ref (a o)] : List Value).toArray s 0 0 (va_A (wX0 cy a o S) s.heap.size)) (F0 m 9 ls []) := by
    intro k6 hk6 f
    induction f with
    | zero =>
      intro v1_18 S5 H locs ls h hP hD hS hl
      rw [DX0_judgeRound_L9] at h
      cases h
    | succ f ih =>
      intro v1_18 S5 H locs ls h hP hD hS hl
      rw [DX0_judgeRound_L9] at h
      refine lv_iload_n hx hb dX0_judgeRound_9 rfl (lv_at hl 1 rfl) ?_
      refine lv_aload_n hx hb dX0_judgeRound_10 rfl (lv_at hl 0 rfl) ?_
      refine va_get (D := D) (ci := 0) (v := .ref (a (o + 23))) (C := RX0) (T := TX0) (N := 14) hx hb hts hinX0 hown hK hP 0 rfl rfl 9 (by decide) hf57 (fun _ h9 => h9) rfl dX0_judgeRound_11 ?_
      refine va_getN (D := D) (ci := 7) (v := .int (gX7_players (gX0_stage S5))) (C := RX7) (T := TX7) (N := 5) hx hb hts hinX7 hown hK hP 23 rfl rfl 0 (by decide) hf139 (fun _ h9 => h9) rfl dX0_judgeRound_14 ?_
      refine lv_icmp_ge (tgt := 48) hx hb dX0_judgeRound_17 (by decide) (fun cc => ?_) (fun cc => ?_)
      · have h := ite_p cc h
        exact hk6 S5 H locs ls h hP hD hS (lv_sub hl [0] rfl)
      · have h := ite_n cc h
        refine lv_aload_n hx hb dX0_judgeRound_20 rfl (lv_at hl 0 rfl) ?_
        refine va_get (D := D) (ci := 0) (v := .ref (a (o + 23))) (C := RX0) (T := TX0) (N := 14) hx hb hts hinX0 hown hK hP 0 rfl rfl 9 (by decide) hf57 (fun _ h9 => h9) rfl dX0_judgeRound_21 ?_
        refine lv_iload_n hx hb dX0_judgeRound_24 rfl (lv_at hl 1 rfl) ?_
        obtain ⟨x19, e20, h⟩ := bd_some h
        refine pcV (As := [.int v1_18]) (rest := []) (q0 := 0) (qX7_playerAt l D cy a (o + 23) (gX0_stage S5) v1_18 x19 e20) ⟨hx, hb, hml, hown, hts⟩ (cwV 1 hts gX0_judgeRound_X7_playerAt rfl rfl rfl (by decide +kernel) ⟨Nat.le_of_ble_eq_true rfl, Nat.le_of_ble_eq_true rfl⟩) hG (P_seg (X := ((hX0 a o S5) ++ ((wX10 cy a (o + 1) (gX0_works S5)) ++ ((wX2 cy a (o + 5) (gX0_entrants S5)) ++ ((rowsW (cy 2) (cy 0) a (o + 7) 4 6 (gX0_rules S5)) ++ ((wX4 cy a (o + 12) (gX0_programs S5)) ++ (wX3 cy a (o + 14) (gX0_jury S5)))))))) (c := (wX7 cy a (o + 23) (gX0_stage S5))) (Y := ((wX6 cy a (o + 26) (gX0_sheet S5)) ++ ((wX9 cy a (o + 35) (gX0_tie S5)) ++ ((rowsW (cy 2) (cy 0) a (o + 46) 4 12 (gX0_closedScores S5)) ++ (wX1 cy a (o + 51) (gX0_cut S5)))))) hP (by simp only [wX0, List.append_assoc, List.nil_append, List.append_nil] <;> rfl)) rfl rfl rfl hl.1 rfl (Nat.le_of_ble_eq_true rfl) dX0_judgeRound_25 ⟨Nat.zero_le _, Nat.zero_le _⟩ ?_
        refine lv_istore_n (lv' := [(2, .int x19), (0, .ref (a o)), (1, .int v1_18)]) hx hb dX0_judgeRound_28 rfl hl (by decide) rfl (fun ls hl => ?_)
        refine lv_aload_n hx hb dX0_judgeRound_29 rfl (lv_at hl 1 rfl) ?_
        refine va_get (D := D) (ci := 0) (v := .ref (a (o + 51))) (C := RX0) (T := TX0) (N := 14) hx hb hts hinX0 hown hK hP 0 rfl rfl 13 (by decide) hf81 (fun _ h9 => h9) rfl dX0_judgeRound_30 ?_
        refine lv_iload_n hx hb dX0_judgeRound_33 rfl (lv_at hl 0 rfl) ?_
        refine lv_aload_n hx hb dX0_judgeRound_34 rfl (lv_at hl 1 rfl) ?_
        refine lv_iload_n hx hb dX0_judgeRound_35 rfl (lv_at hl 0 rfl) ?_
        obtain ⟨x21, e22, h⟩ := bd_some h
        refine pcV (As := [.int x19]) (rest := [.int x19, .ref (a (o + 51))]) (q0 := 0) (qX0_scoreOf l D cy a o S5 x19 x21 e22) ⟨hx, hb, hml, hown, hts⟩ (cwV 1 hts gX0_judgeRound_X0_scoreOf rfl rfl rfl (by decide +kernel) ⟨Nat.le_of_ble_eq_true rfl, Nat.le_of_ble_eq_true rfl⟩) hG hP rfl rfl rfl hl.1 rfl (Nat.le_of_ble_eq_true rfl) dX0_judgeRound_36 ⟨Nat.zero_le _, Nat.zero_le _⟩ ?_
        obtain ⟨x23, e24, h⟩ := bd_some h
        refine smVv (As := [.int x19, .int x21]) (rest := []) (ws' := (wX0 cy a o (uX0_cut S5 x23))) (q0 := 0) (qX1_put l D cy a (o + 51) (gX0_cut S5) x19 x21 (H).size x23 e24) ⟨hx, hb, hml, hown, hts⟩ (cwV 2 hts gX0_judgeRound_X1_put rfl rfl rfl (by decide +kernel) ⟨Nat.le_of_ble_eq_true rfl, Nat.le_of_ble_eq_true rfl⟩) hG hP hD hS hA (pm1 (X := ((hX0 a o S5) ++ ((wX10 cy a (o + 1) (gX0_works S5)) ++ ((wX2 cy a (o + 5) (gX0_entrants S5)) ++ ((rowsW (cy 2) (cy 0) a (o + 7) 4 6 (gX0_rules S5)) ++ ((wX4 cy a (o + 12) (gX0_programs S5)) ++ ((wX3 cy a (o + 14) (gX0_jury S5)) ++ ((wX7 cy a (o + 23) (gX0_stage S5)) ++ ((wX6 cy a (o + 26) (gX0_sheet S5)) ++ ((wX9 cy a (o + 35) (gX0_tie S5)) ++ (rowsW (cy 2) (cy 0) a (o + 46) 4 12 (gX0_closedScores S5)))))))))))) (c := (wX1 cy a (o + 51) (gX0_cut S5))) (Y := ([] : va_W)) (show (wX0 cy a o S5) = ((hX0 a o S5) ++ ((wX10 cy a (o + 1) (gX0_works S5)) ++ ((wX2 cy a (o + 5) (gX0_entrants S5)) ++ ((rowsW (cy 2) (cy 0) a (o + 7) 4 6 (gX0_rules S5)) ++ ((wX4 cy a (o + 12) (gX0_programs S5)) ++ ((wX3 cy a (o + 14) (gX0_jury S5)) ++ ((wX7 cy a (o + 23) (gX0_stage S5)) ++ ((wX6 cy a (o + 26) (gX0_sheet S5)) ++ ((wX9 cy a (o + 35) (gX0_tie S5)) ++ (rowsW (cy 2) (cy 0) a (o + 46) 4 12 (gX0_closedScores S5))))))))))) ++ ((wX1 cy a (o + 51) (gX0_cut S5)) ++ ([] : va_W)) from by simp only [wX0, List.append_assoc, List.nil_append, List.append_nil] <;> rfl)) (pm1 (X := ((hX0 a o S5) ++ ((wX10 cy a (o + 1) (gX0_works S5)) ++ ((wX2 cy a (o + 5) (gX0_entrants S5)) ++ ((rowsW (cy 2) (cy 0) a (o + 7) 4 6 (gX0_rules S5)) ++ ((wX4 cy a (o + 12) (gX0_programs S5)) ++ ((wX3 cy a (o + 14) (gX0_jury S5)) ++ ((wX7 cy a (o + 23) (gX0_stage S5)) ++ ((wX6 cy a (o + 26) (gX0_sheet S5)) ++ ((wX9 cy a (o + 35) (gX0_tie S5)) ++ (rowsW (cy 2) (cy 0) a (o + 46) 4 12 (gX0_closedScores S5)))))))))))) (c := (wX1 cy a (o + 51) x23)) (Y := ([] : va_W)) (show (wX0 cy a o (uX0_cut S5 x23)) = ((hX0 a o S5) ++ ((wX10 cy a (o + 1) (gX0_works S5)) ++ ((wX2 cy a (o + 5) (gX0_entrants S5)) ++ ((rowsW (cy 2) (cy 0) a (o + 7) 4 6 (gX0_rules S5)) ++ ((wX4 cy a (o + 12) (gX0_programs S5)) ++ ((wX3 cy a (o + 14) (gX0_jury S5)) ++ ((wX7 cy a (o + 23) (gX0_stage S5)) ++ ((wX6 cy a (o + 26) (gX0_sheet S5)) ++ ((wX9 cy a (o + 35) (gX0_tie S5)) ++ (rowsW (cy 2) (cy 0) a (o + 46) 4 12 (gX0_closedScores S5))))))))))) ++ ((wX1 cy a (o + 51) x23) ++ ([] : va_W)) from by simp only [wX0, List.append_assoc, List.nil_append, List.append_nil] <;> rfl)) rfl rfl rfl hl.1 rfl (Nat.le_of_ble_eq_true rfl) dX0_judgeRound_39 ⟨Nat.zero_le _, Nat.zero_le _⟩ (fun H locs hP hD hS => ?_)
        obtain ⟨S25, eS26, h⟩ := lt_elim h
        have hP : va_P D vwCl (wX0 cy a o S25) H := by rw [eS26]; exact hP
        have hD : va_D (va_A (wX0 cy a o S) s.heap.size) (wX0 cy a o S25) := by rw [eS26]; exact hD
        refine lv_iinc (v := (v1_18 + (1 : Int32))) (lv' := [(1, .int (v1_18 + (1 : Int32))), (2, .int x19), (0, .ref (a o))]) hx hb dX0_judgeRound_42 hl (k := 2) rfl (by rfl) (by decide) rfl (fun ls hl => ?_)
        refine lv_goto (tgt := 9) hx hb dX0_judgeRound_45 (by decide) ?_
        exact ih (v1_18 + (1 : Int32)) S25 H locs ls h hP hD hS (lv_sub hl [2, 0] rfl)
  refine L27  _ ?_ fu (0 : Int32) S3 H locs ls h hP hD hS (lv_sub hl [1, 0] rfl)
  intro S8 H locs ls h hP hD hS hl
  refine lv_aload_n hx hb dX0_judgeRound_48 rfl (lv_at hl 0 rfl) ?_
  refine va_get (D := D) (ci := 0) (v := .ref (a (o + 51))) (C := RX0) (T := TX0) (N := 14) hx hb hts hinX0 hown hK hP 0 rfl rfl 13 (by decide) hf81 (fun _ h9 => h9) rfl dX0_judgeRound_49 ?_
  refine lv_aload_n hx hb dX0_judgeRound_52 rfl (lv_at hl 0 rfl) ?_
  refine va_get (D := D) (ci := 0) (v := .int (gX0_round S8)) (C := RX0) (T := TX0) (N := 14) hx hb hts hinX0 hown hK hP 0 rfl rfl 1 (by decide) hf99 (fun _ h9 => h9) rfl dX0_judgeRound_53 ?_
  refine lv_iconst (v := (0 : Int32)) hx hb dX0_judgeRound_56 (by decide) ?_
  refine lv_iconst (v := (3 : Int32)) hx hb dX0_judgeRound_57 (by decide) ?_
  obtain ⟨x9, e10, h⟩ := bd_some h
  refine pcSN (As := [.int (gX0_round S8), .int (0 : Int32), .int (3 : Int32)]) (rest := [.ref (a (o + 51))]) (qX11_isBetween l D cy  (gX0_round S8) (0 : Int32) (3 : Int32) x9 e10) ⟨hx, hb, hml, hown, hts⟩ ⟨va_cnB (y := yX11_isBetween) 3 hts gX0_judgeRound_X11_isBetween_n255 rfl rfl rfl (hG.2.2.1 (.methodLinkNest "PianoRounds$Competition" 255 ⟨"PianoRounds", "isBetween", "(III)Z"⟩ "PianoRounds") (by decide +kernel)) (hts (.initialized RX11) (by decide +kernel)) (by decide +kernel) ⟨Nat.le_of_ble_eq_true rfl, Nat.le_of_ble_eq_true rfl⟩, hts (.static yX11_isBetween) (by decide +kernel), trivial⟩ hG (hP.sub [] rfl) rfl hl.1 rfl (Nat.le_of_ble_eq_true rfl) dX0_judgeRound_58 ⟨Nat.zero_le _, Nat.zero_le _⟩ ?_
  obtain ⟨j12, hj12, h⟩ := jn_elim h
  have Jj12 : ∀ (x11 : Int32) (ls : Array Slot), j12 x11 = some rs → lv_has ls 3 [] → W p l e (headSpec wsX0_judgeRound ({ frames := 4, cells := 0, slots := 0, locals := 99 } : Room)).room s m ([.ref (a o)] : List Value).toArray below meth c H locs 0 0 (MQ below (va_Qv (fun (u : SX0) => u = rs) (fun u t => mB D s.heap.size (wX0 cy a o S) (wX0 cy a o u) t) (va_A (wX0 cy a o S) s.heap.size)) ([.ref (a o)] : List Value).toArray s 0 0 (va_A (wX0 cy a o S) s.heap.size)) (F0 m 80 ls [.int x11, .ref (a (o + 51))]) := by
    intro x11 ls h hl
    rw [hj12] at h
    obtain ⟨x13, e14, h⟩ := bd_some h
    refine smVv (As := [.int x11]) (rest := []) (ws' := (wX0 cy a o (uX0_cut S8 x13))) (q0 := 0) (qX1_draw l D cy a (o + 51) (gX0_cut S8) x11 (H).size x13 e14) ⟨hx, hb, hml, hown, hts⟩ (cwV 1 hts gX0_judgeRound_X1_draw rfl rfl rfl (by decide +kernel) ⟨Nat.le_of_ble_eq_true rfl, Nat.le_of_ble_eq_true rfl⟩) hG hP hD hS hA (pm1 (X := ((hX0 a o S8) ++ ((wX10 cy a (o + 1) (gX0_works S8)) ++ ((wX2 cy a (o + 5) (gX0_entrants S8)) ++ ((rowsW (cy 2) (cy 0) a (o + 7) 4 6 (gX0_rules S8)) ++ ((wX4 cy a (o + 12) (gX0_programs S8)) ++ ((wX3 cy a (o + 14) (gX0_jury S8)) ++ ((wX7 cy a (o + 23) (gX0_stage S8)) ++ ((wX6 cy a (o + 26) (gX0_sheet S8)) ++ ((wX9 cy a (o + 35) (gX0_tie S8)) ++ (rowsW (cy 2) (cy 0) a (o + 46) 4 12 (gX0_closedScores S8)))))))))))) (c := (wX1 cy a (o + 51) (gX0_cut S8))) (Y := ([] : va_W)) (show (wX0 cy a o S8) = ((hX0 a o S8) ++ ((wX10 cy a (o + 1) (gX0_works S8)) ++ ((wX2 cy a (o + 5) (gX0_entrants S8)) ++ ((rowsW (cy 2) (cy 0) a (o + 7) 4 6 (gX0_rules S8)) ++ ((wX4 cy a (o + 12) (gX0_programs S8)) ++ ((wX3 cy a (o + 14) (gX0_jury S8)) ++ ((wX7 cy a (o + 23) (gX0_stage S8)) ++ ((wX6 cy a (o + 26) (gX0_sheet S8)) ++ ((wX9 cy a (o + 35) (gX0_tie S8)) ++ (rowsW (cy 2) (cy 0) a (o + 46) 4 12 (gX0_closedScores S8))))))))))) ++ ((wX1 cy a (o + 51) (gX0_cut S8)) ++ ([] : va_W)) from by simp only [wX0, List.append_assoc, List.nil_append, List.append_nil] <;> rfl)) (pm1 (X := ((hX0 a o S8) ++ ((wX10 cy a (o + 1) (gX0_works S8)) ++ ((wX2 cy a (o + 5) (gX0_entrants S8)) ++ ((rowsW (cy 2) (cy 0) a (o + 7) 4 6 (gX0_rules S8)) ++ ((wX4 cy a (o + 12) (gX0_programs S8)) ++ ((wX3 cy a (o + 14) (gX0_jury S8)) ++ ((wX7 cy a (o + 23) (gX0_stage S8)) ++ ((wX6 cy a (o + 26) (gX0_sheet S8)) ++ ((wX9 cy a (o + 35) (gX0_tie S8)) ++ (rowsW (cy 2) (cy 0) a (o + 46) 4 12 (gX0_closedScores S8)))))))))))) (c := (wX1 cy a (o + 51) x13)) (Y := ([] : va_W)) (show (wX0 cy a o (uX0_cut S8 x13)) = ((hX0 a o S8) ++ ((wX10 cy a (o + 1) (gX0_works S8)) ++ ((wX2 cy a (o + 5) (gX0_entrants S8)) ++ ((rowsW (cy 2) (cy 0) a (o + 7) 4 6 (gX0_rules S8)) ++ ((wX4 cy a (o + 12) (gX0_programs S8)) ++ ((wX3 cy a (o + 14) (gX0_jury S8)) ++ ((wX7 cy a (o + 23) (gX0_stage S8)) ++ ((wX6 cy a (o + 26) (gX0_sheet S8)) ++ ((wX9 cy a (o + 35) (gX0_tie S8)) ++ (rowsW (cy 2) (cy 0) a (o + 46) 4 12 (gX0_closedScores S8))))))))))) ++ ((wX1 cy a (o + 51) x13) ++ ([] : va_W)) from by simp only [wX0, List.append_assoc, List.nil_append, List.append_nil] <;> rfl)) rfl rfl rfl hl.1 rfl (Nat.le_of_ble_eq_true rfl) dX0_judgeRound_80 ⟨Nat.zero_le _, Nat.zero_le _⟩ (fun H locs hP hD hS => ?_)
    obtain ⟨S15, eS16, h⟩ := lt_elim h
    have hP : va_P D vwCl (wX0 cy a o S15) H := by rw [eS16]; exact hP
    have hD : va_D (va_A (wX0 cy a o S) s.heap.size) (wX0 cy a o S15) := by rw [eS16]; exact hD
    exact W.vret hx hb hr (fun t ht hW => ⟨⟨S15, rfl, some_in h, by rw [ht]; exact hP, hD⟩, hS.F ht⟩) hS.2.2 dX0_judgeRound_83
  refine lv_if_eq (tgt := 78) hx hb dX0_judgeRound_61 (by decide) (fun cc => ?_) (fun cc => ?_)
  · have h := ite_p cc h
    refine lv_bipush (v := (12 : Int32)) hx hb dX0_judgeRound_78 (by decide) ?_
    exact Jj12 (12 : Int32) ls h (lv_sub hl [] rfl)
  · have h := ite_n cc h
    refine lv_aload_n hx hb dX0_judgeRound_64 rfl (lv_at hl 0 rfl) ?_
    refine va_get (D := D) (ci := 0) (v := .ref (a (o + 7))) (C := RX0) (T := TX0) (N := 14) hx hb hts hinX0 hown hK hP 0 rfl rfl 6 (by decide) hf37 (fun _ h9 => h9) rfl dX0_judgeRound_65 ?_
    refine lv_aload_n hx hb dX0_judgeRound_68 rfl (lv_at hl 0 rfl) ?_
    refine va_get (D := D) (ci := 0) (v := .int (gX0_round S8)) (C := RX0) (T := TX0) (N := 14) hx hb hts hinX0 hown hK hP 0 rfl rfl 1 (by decide) hf99 (fun _ h9 => h9) rfl dX0_judgeRound_69 ?_
    obtain ⟨g17, h⟩ := gd_some h
    refine r_aldR (n := 4) (o := o + 7) (ad := a) (j := ((gX0_round S8)).toNatClampNeg) hx hb hK hP 7 2 rfl rfl (gIn_in g17) rfl dX0_judgeRound_72 ?_
    refine lv_iconst (v := (5 : Int32)) hx hb dX0_judgeRound_73 (by decide) ?_
    refine r_ald (f := ((gX0_rules S8) (((gX0_round S8)).toNatClampNeg))) (n := 6) (v := (((gX0_rules S8) (((gX0_round S8)).toNatClampNeg)) 5)) hx hb hK hP (7 + 1 + (((gX0_round S8)).toNatClampNeg)) 0 (all4 (P := fun j => (wX0 cy a o S8)[7 + 1 + j]? = some (a (o + 7 + 1 + j), .inl (cy 0, 6, .inl ((gX0_rules S8) j)))) rfl rfl rfl rfl _ (gIn_lt g17)) rfl (vp_in_nI (n := 5) (N := 6) (by decide) (by decide)) (congrArg ((gX0_rules S8) (((gX0_round S8)).toNatClampNeg)) (nI_clamp (n := 5) (by decide))) dX0_judgeRound_74 ?_
    refine lv_goto (tgt := 80) hx hb dX0_judgeRound_75 (by decide) ?_
    exact Jj12 (((gX0_rules S8) (((gX0_round S8)).toNatClampNeg)) 5) ls h (lv_sub hl [] rfl)
set_option maxHeartbeats 4000000 in
set_option maxRecDepth 100000 in
theorem qX0_judgeTieRound (l : Launch) (D : va_G) (cy : Nat → ClassId) (a : Nat → Nat) (o : Nat) (S : SX0)  (sz : Nat) (rs : SX0) (h : DX0_judgeTieRound S = some rs) : Met l yX0_judgeTieRound wsX0_judgeTieRound ({ frames := 3, cells := 0, slots := 0, locals := 76 } : Room) (mP D cy sz [.ref (a o)] (wX0 cy a o S)) (va_Qv (fun (u : SX0) => u = rs) (fun u t => mB D sz (wX0 cy a o S) (wX0 cy a o u) t) (va_A (wX0 cy a o S) sz)) 0 0 (va_A (wX0 cy a o S) sz) := by
  refine Met.ofW (cc := cX0_judgeTieRound) (maxL := 2) (ret := none) (by decide) rfl ?_
  intro p e s m args below meth c s₁ B hml hv
  obtain ⟨rfl, hsz, hP, hG, hD0⟩ := hv
  have hx := B.exec
  have hb := B.bytes
  have hr := B.returns
  have hts := atoms_spec (ws := wsX0_judgeTieRound) B.pre
  have hown : s.vm.findClass RX0 = some m.cls := findClass_of_methodNamed B.named
  have hlocks := B.notSynchronized
  have hK := hG.1
  subst hsz
  have hD := hD0.self (sz := s.heap.size)
  have hA : ∀ q : Nat, s.heap.size ≤ q → (va_A (wX0 cy a o S) s.heap.size) q := fun q h => Or.inr h
  have hS : va_S (va_A (wX0 cy a o S) s.heap.size) s.heap s.heap [] := va_S.rf
  have hinX0 := (by decide +kernel : ∀ w ∈ wsX00, w ∈ wsX0_judgeTieRound)
  have hf81 := hts (.fieldLink RX0 81 "PianoRounds$Competition" "cut" "LPianoRounds$Cut;") (by decide +kernel)
  have hf71 := hts (.fieldLink RX0 71 "PianoRounds$Competition" "tie" "LPianoRounds$Tie;") (by decide +kernel)
  have hinX9 := (by decide +kernel : ∀ w ∈ wsX90, w ∈ wsX0_judgeTieRound)
  have hf147 := va_Nw.use (A := ([.ref (a o)] : List Value).toArray) (U := s) (w := .fieldLinkNest "PianoRounds$Competition" 147 "PianoRounds$Tie" "places" "I" "PianoRounds") rfl (hG.2.1 _ (by decide +kernel))
  have hf31 := hts (.fieldLink RX0 31 "PianoRounds$Competition" "entrants" "LPianoRounds$Entrants;") (by decide +kernel)
  have hinX2 := (by decide +kernel : ∀ w ∈ wsX20, w ∈ wsX0_judgeTieRound)
  have hf134 := va_Nw.use (A := ([.ref (a o)] : List Value).toArray) (U := s) (w := .fieldLinkNest "PianoRounds$Competition" 134 "PianoRounds$Entrants" "count" "I" "PianoRounds") rfl (hG.2.1 _ (by decide +kernel))
  have hf50 := hts (.fieldLink RX0 50 "PianoRounds$Competition" "jury" "LPianoRounds$Jury;") (by decide +kernel)
  have hf176 := va_Nw.use (A := ([.ref (a o)] : List Value).toArray) (U := s) (w := .fieldLinkNest "PianoRounds$Competition" 176 "PianoRounds$Tie" "sheet" "LPianoRounds$Sheet;" "PianoRounds") rfl (hG.2.1 _ (by decide +kernel))
  have hl := lv_entry ([.ref (a o)]) (n := 2) (Nat.le_of_ble_eq_true rfl)
  rw [lg_entry_eq]
  generalize (lg_sl ([.ref (a o)]) ++ List.replicate (2 - (lg_sl ([.ref (a o)])).length) Slot.unset).toArray = ls at hl ⊢
  have hl : lv_has ls 2 [(0, .ref (a o))] := hl
  rw [DX0_judgeTieRound] at h
  refine lv_aload_n hx hb dX0_judgeTieRound_0 rfl (lv_at hl 0 rfl) ?_
  refine va_get (D := D) (ci := 0) (v := .ref (a (o + 51))) (C := RX0) (T := TX0) (N := 14) hx hb hts hinX0 hown hK hP 0 rfl rfl 13 (by decide) hf81 (fun _ h9 => h9) rfl dX0_judgeTieRound_1 ?_
  obtain ⟨x1, e2, h⟩ := bd_some h
  refine smVv (As := []) (rest := []) (ws' := (wX0 cy a o (uX0_cut S x1))) (q0 := 0) (qX1_clear l D cy a (o + 51) (gX0_cut S)  (s.heap).size x1 e2) ⟨hx, hb, hml, hown, hts⟩ (cwV 0 hts gX0_judgeTieRound_X1_clear rfl rfl rfl (by decide +kernel) ⟨Nat.le_of_ble_eq_true rfl, Nat.le_of_ble_eq_true rfl⟩) hG hP hD hS hA (pm1 (X := ((hX0 a o S) ++ ((wX10 cy a (o + 1) (gX0_works S)) ++ ((wX2 cy a (o + 5) (gX0_entrants S)) ++ ((rowsW (cy 2) (cy 0) a (o + 7) 4 6 (gX0_rules S)) ++ ((wX4 cy a (o + 12) (gX0_programs S)) ++ ((wX3 cy a (o + 14) (gX0_jury S)) ++ ((wX7 cy a (o + 23) (gX0_stage S)) ++ ((wX6 cy a (o + 26) (gX0_sheet S)) ++ ((wX9 cy a (o + 35) (gX0_tie S)) ++ (rowsW (cy 2) (cy 0) a (o + 46) 4 12 (gX0_closedScores S)))))))))))) (c := (wX1 cy a (o + 51) (gX0_cut S))) (Y := ([] : va_W)) (show (wX0 cy a o S) = ((hX0 a o S) ++ ((wX10 cy a (o + 1) (gX0_works S)) ++ ((wX2 cy a (o + 5) (gX0_entrants S)) ++ ((rowsW (cy 2) (cy 0) a (o + 7) 4 6 (gX0_rules S)) ++ ((wX4 cy a (o + 12) (gX0_programs S)) ++ ((wX3 cy a (o + 14) (gX0_jury S)) ++ ((wX7 cy a (o + 23) (gX0_stage S)) ++ ((wX6 cy a (o + 26) (gX0_sheet S)) ++ ((wX9 cy a (o + 35) (gX0_tie S)) ++ (rowsW (cy 2) (cy 0) a (o + 46) 4 12 (gX0_closedScores S))))))))))) ++ ((wX1 cy a (o + 51) (gX0_cut S)) ++ ([] : va_W)) from by simp only [wX0, List.append_assoc, List.nil_append, List.append_nil] <;> rfl)) (pm1 (X := ((hX0 a o S) ++ ((wX10 cy a (o + 1) (gX0_works S)) ++ ((wX2 cy a (o + 5) (gX0_entrants S)) ++ ((rowsW (cy 2) (cy 0) a (o + 7) 4 6 (gX0_rules S)) ++ ((wX4 cy a (o + 12) (gX0_programs S)) ++ ((wX3 cy a (o + 14) (gX0_jury S)) ++ ((wX7 cy a (o + 23) (gX0_stage S)) ++ ((wX6 cy a (o + 26) (gX0_sheet S)) ++ ((wX9 cy a (o + 35) (gX0_tie S)) ++ (rowsW (cy 2) (cy 0) a (o + 46) 4 12 (gX0_closedScores S)))))))))))) (c := (wX1 cy a (o + 51) x1)) (Y := ([] : va_W)) (show (wX0 cy a o (uX0_cut S x1)) = ((hX0 a o S) ++ ((wX10 cy a (o + 1) (gX0_works S)) ++ ((wX2 cy a (o + 5) (gX0_entrants S)) ++ ((rowsW (cy 2) (cy 0) a (o + 7) 4 6 (gX0_rules S)) ++ ((wX4 cy a (o + 12) (gX0_programs S)) ++ ((wX3 cy a (o + 14) (gX0_jury S)) ++ ((wX7 cy a (o + 23) (gX0_stage S)) ++ ((wX6 cy a (o + 26) (gX0_sheet S)) ++ ((wX9 cy a (o + 35) (gX0_tie S)) ++ (rowsW (cy 2) (cy 0) a (o + 46) 4 12 (gX0_closedScores S))))))))))) ++ ((wX1 cy a (o + 51) x1) ++ ([] : va_W)) from by simp only [wX0, List.append_assoc, List.nil_append, List.append_nil] <;> rfl)) rfl rfl rfl hl.1 rfl (Nat.le_of_ble_eq_true rfl) dX0_judgeTieRound_4 ⟨Nat.zero_le _, Nat.zero_le _⟩ (fun H locs hP hD hS => ?_)
  obtain ⟨S3, eS4, h⟩ := lt_elim h
  have hP : va_P D vwCl (wX0 cy a o S3) H := by rw [eS4]; exact hP
  have hD : va_D (va_A (wX0 cy a o S) s.heap.size) (wX0 cy a o S3) := by rw [eS4]; exact hD
  refine lv_iconst (v := (0 : Int32)) hx hb dX0_judgeTieRound_7 (by decide) ?_
  refine lv_istore_n (lv' := [(1, .int (0 : Int32)), (0, .ref (a o))]) hx hb dX0_judgeTieRound_8 rfl hl (by decide) rfl (fun ls hl => ?_)
  have L24 : ∀ (k6 : SX0 → Option (SX0)) (hk6 : ∀ (S7 : SX0) (H : Heap) (locs : List Loc) (ls : Array Slot), k6 S7 = some rs → va_P D vwCl (wX0 cy a o S7) H → va_D (va_A (wX0 cy a o S) s.heap.size) (wX0 cy a o S7) → va_S (va_A (wX0 cy a o S) s.heap.size) s.heap H locs → lv_has ls 2 [(0, .ref (a o))] → W p l e (headSpec wsX0_judgeTieRound ({ frames := 3, cells := 0, slots := 0, locals := 76 } : Room)).room s m ([.ref (a o)] : List Value).toArray below meth c H locs 0 0 (MQ below (va_Qv (fun (u : SX0) => u = rs) (fun u t => mB D s.heap.size (wX0 cy a o S) (wX0 cy a o u) t) (va_A (wX0 cy a o S) s.heap.size)) ([.ref (a o)] : List Value).toArray s 0 0 (va_A (wX0 cy a o S) s.heap.size)) (F0 m 60 ls [])) (f : Nat) (v1_13 : Int32) (S5 : SX0) (H : Heap) (locs : List Loc) (ls : Array Slot), DX0_judgeTieRound_L9 k6 f v1_13 S5 = some rs → va_P D vwCl (wX0 cy a o S5) H → va_D (va_A (wX0 cy a o S) s.heap.size) (wX0 cy a o S5) → va_S (va_A (wX0 cy a o S) s.heap.size) s.heap H locs → lv_has ls 2 [(0, .ref (a o)), (1, .int v1_13)] → W p l e (headSpec wsX0_judgeTieRound ({ frames := 3, cells := 0, slots := 0, locals := 76 } : Room)).room s m ([.ref (a o)] : List Value).toArray below meth c H locs 0 0 (MQ below (va_Qv (fun (u : SX0) => u = rs) (fun u t => mB D s.heap.size (wX0 cy a o S) (wX0 cy a o u) t) (va_A (wX0 cy a o S) s.heap.size)) ([.ref (a o)] : List Value).toArray s 0 0 (va_A (wX0 cy a o S) s.heap.size)) (F0 m 9 ls []) := by
    intro k6 hk6 f
    induction f with
    | zero =>
      intro v1_13 S5 H locs ls h hP hD hS hl
      rw [DX0_judgeTieRound_L9] at h
      cases h
    | succ f ih =>
      intro v1_13 S5 H locs ls h hP hD hS hl
      rw [DX0_judgeTieRound_L9] at h
      refine lv_iload_n hx hb dX0_judgeTieRound_9 rfl (lv_at hl 1 rfl) ?_
      refine lv_aload_n hx hb dX0_judgeTieRound_10 rfl (lv_at hl 0 rfl) ?_
      refine va_get (D := D) (ci := 0) (v := .ref (a (o + 5))) (C := RX0) (T := TX0) (N := 14) hx hb hts hinX0 hown hK hP 0 rfl rfl 5 (by decide) hf31 (fun _ h9 => h9) rfl dX0_judgeTieRound_11 ?_
      refine va_getN (D := D) (ci := 2) (v := .int (gX2_count (gX0_entrants S5))) (C := RX2) (T := TX2) (N := 2) hx hb hts hinX2 hown hK hP 5 rfl rfl 0 (by decide) hf134 (fun _ h9 => h9) rfl dX0_judgeTieRound_14 ?_
      refine lv_icmp_ge (tgt := 60) hx hb dX0_judgeTieRound_17 (by decide) (fun cc => ?_) (fun cc => ?_)
      · have h := ite_p cc h
        exact hk6 S5 H locs ls h hP hD hS (lv_sub hl [0] rfl)
      · have h := ite_n cc h
        refine lv_aload_n hx hb dX0_judgeTieRound_20 rfl (lv_at hl 0 rfl) ?_
        refine va_get (D := D) (ci := 0) (v := .ref (a (o + 35))) (C := RX0) (T := TX0) (N := 14) hx hb hts hinX0 hown hK hP 0 rfl rfl 11 (by decide) hf71 (fun _ h9 => h9) rfl dX0_judgeTieRound_21 ?_
        refine lv_iload_n hx hb dX0_judgeTieRound_24 rfl (lv_at hl 1 rfl) ?_
        obtain ⟨x14, e15, h⟩ := bd_some h
        refine pcV (As := [.int v1_13]) (rest := []) (q0 := 0) (qX9_has l D cy a (o + 35) (gX0_tie S5) v1_13 x14 e15) ⟨hx, hb, hml, hown, hts⟩ (cwV 1 hts gX0_judgeTieRound_X9_has rfl rfl rfl (by decide +kernel) ⟨Nat.le_of_ble_eq_true rfl, Nat.le_of_ble_eq_true rfl⟩) hG (P_seg (X := ((hX0 a o S5) ++ ((wX10 cy a (o + 1) (gX0_works S5)) ++ ((wX2 cy a (o + 5) (gX0_entrants S5)) ++ ((rowsW (cy 2) (cy 0) a (o + 7) 4 6 (gX0_rules S5)) ++ ((wX4 cy a (o + 12) (gX0_programs S5)) ++ ((wX3 cy a (o + 14) (gX0_jury S5)) ++ ((wX7 cy a (o + 23) (gX0_stage S5)) ++ (wX6 cy a (o + 26) (gX0_sheet S5)))))))))) (c := (wX9 cy a (o + 35) (gX0_tie S5))) (Y := ((rowsW (cy 2) (cy 0) a (o + 46) 4 12 (gX0_closedScores S5)) ++ (wX1 cy a (o + 51) (gX0_cut S5)))) hP (by simp only [wX0, List.append_assoc, List.nil_append, List.append_nil] <;> rfl)) rfl rfl rfl hl.1 rfl (Nat.le_of_ble_eq_true rfl) dX0_judgeTieRound_25 ⟨Nat.zero_le _, Nat.zero_le _⟩ ?_
        obtain ⟨j17, hj17, h⟩ := jn_elim h
        have Jj17 : ∀ (S16 : SX0) (H : Heap) (locs : List Loc) (ls : Array Slot), j17 S16 = some rs → va_P D vwCl (wX0 cy a o S16) H → va_D (va_A (wX0 cy a o S) s.heap.size) (wX0 cy a o S16) → va_S (va_A (wX0 cy a o S) s.heap.size) s.heap H locs → lv_has ls 2 [(0, .ref (a o)), (1, .int v1_13)] → W p l e (headSpec wsX0_judgeTieRound ({ frames := 3, cells := 0, slots := 0, locals := 76 } : Room)).room s m ([.ref (a o)] : List Value).toArray below meth c H locs 0 0 (MQ below (va_Qv (fun (u : SX0) => u = rs) (fun u t => mB D s.heap.size (wX0 cy a o S) (wX0 cy a o u) t) (va_A (wX0 cy a o S) s.heap.size)) ([.ref (a o)] : List Value).toArray s 0 0 (va_A (wX0 cy a o S) s.heap.size)) (F0 m 54 ls []) := by
          intro S16 H locs ls h hP hD hS hl
          rw [hj17] at h
          refine lv_iinc (v := (v1_13 + (1 : Int32))) (lv' := [(1, .int (v1_13 + (1 : Int32))), (0, .ref (a o))]) hx hb dX0_judgeTieRound_54 hl (k := 1) rfl (by rfl) (by decide) rfl (fun ls hl => ?_)
          refine lv_goto (tgt := 9) hx hb dX0_judgeTieRound_57 (by decide) ?_
          exact ih (v1_13 + (1 : Int32)) S16 H locs ls h hP hD hS (lv_sub hl [1, 0] rfl)
        refine lv_if_eq (tgt := 54) hx hb dX0_judgeTieRound_28 (by decide) (fun cc => ?_) (fun cc => ?_)
        · have h := ite_p cc h
          exact Jj17 S5 H locs ls h hP hD hS (lv_sub hl [0, 1] rfl)
        · have h := ite_n cc h
          refine lv_aload_n hx hb dX0_judgeTieRound_31 rfl (lv_at hl 0 rfl) ?_
          refine va_get (D := D) (ci := 0) (v := .ref (a (o + 51))) (C := RX0) (T := TX0) (N := 14) hx hb hts hinX0 hown hK hP 0 rfl rfl 13 (by decide) hf81 (fun _ h9 => h9) rfl dX0_judgeTieRound_32 ?_
          refine lv_iload_n hx hb dX0_judgeTieRound_35 rfl (lv_at hl 1 rfl) ?_
          refine lv_aload_n hx hb dX0_judgeTieRound_36 rfl (lv_at hl 0 rfl) ?_
          refine va_get (D := D) (ci := 0) (v := .ref (a (o + 14))) (C := RX0) (T := TX0) (N := 14) hx hb hts hinX0 hown hK hP 0 rfl rfl 8 (by decide) hf50 (fun _ h9 => h9) rfl dX0_judgeTieRound_37 ?_
          refine lv_aload_n hx hb dX0_judgeTieRound_40 rfl (lv_at hl 0 rfl) ?_
          refine va_get (D := D) (ci := 0) (v := .ref (a (o + 35))) (C := RX0) (T := TX0) (N := 14) hx hb hts hinX0 hown hK hP 0 rfl rfl 11 (by decide) hf71 (fun _ h9 => h9) rfl dX0_judgeTieRound_41 ?_
          refine va_getN (D := D) (ci := 9) (v := .ref (a (o + 35 + 2))) (C := RX9) (T := TX9) (N := 4) hx hb hts hinX9 hown hK hP 35 rfl rfl 3 (by decide) hf176 (fun _ h9 => h9) rfl dX0_judgeTieRound_44 ?_
          refine lv_iload_n hx hb dX0_judgeTieRound_47 rfl (lv_at hl 1 rfl) ?_
          obtain ⟨x18, e19, h⟩ := bd_some h
          refine pcV (As := [.ref (a (o + 35 + 2)), .int v1_13]) (rest := [.int v1_13, .ref (a (o + 51))]) (q0 := 0) (qX3_meanOf l D cy a (o + 14) a (o + 35 + 2) (gX0_jury S5) (gX9_sheet (gX0_tie S5)) v1_13 x18 e19) ⟨hx, hb, hml, hown, hts⟩ (cwV 2 hts gX0_judgeTieRound_X3_meanOf rfl rfl rfl (by decide +kernel) ⟨Nat.le_of_ble_eq_true rfl, Nat.le_of_ble_eq_true rfl⟩) hG (va_P.app (P_seg (X := ((hX0 a o S5) ++ ((wX10 cy a (o + 1) (gX0_works S5)) ++ ((wX2 cy a (o + 5) (gX0_entrants S5)) ++ ((rowsW (cy 2) (cy 0) a (o + 7) 4 6 (gX0_rules S5)) ++ (wX4 cy a (o + 12) (gX0_programs S5))))))) (c := (wX3 cy a (o + 14) (gX0_jury S5))) (Y := ((wX7 cy a (o + 23) (gX0_stage S5)) ++ ((wX6 cy a (o + 26) (gX0_sheet S5)) ++ ((wX9 cy a (o + 35) (gX0_tie S5)) ++ ((rowsW (cy 2) (cy 0) a (o + 46) 4 12 (gX0_closedScores S5)) ++ (wX1 cy a (o + 51) (gX0_cut S5))))))) hP (by simp only [wX0, List.append_assoc, List.nil_append, List.append_nil] <;> rfl)) (P_seg (X := ((hX0 a o S5) ++ ((wX10 cy a (o + 1) (gX0_works S5)) ++ ((wX2 cy a (o + 5) (gX0_entrants S5)) ++ ((rowsW (cy 2) (cy 0) a (o + 7) 4 6 (gX0_rules S5)) ++ ((wX4 cy a (o + 12) (gX0_programs S5)) ++ ((wX3 cy a (o + 14) (gX0_jury S5)) ++ ((wX7 cy a (o + 23) (gX0_stage S5)) ++ ((wX6 cy a (o + 26) (gX0_sheet S5)) ++ ((hX9 a (o + 35) (gX0_tie S5)) ++ (aW cy a (o + 35 + 1) 12 (gX9_tied (gX0_tie S5))))))))))))) (c := (wX6 cy a (o + 35 + 2) (gX9_sheet (gX0_tie S5)))) (Y := ((rowsW (cy 2) (cy 0) a (o + 46) 4 12 (gX0_closedScores S5)) ++ (wX1 cy a (o + 51) (gX0_cut S5)))) hP (by simp only [wX0, wX9, List.append_assoc, List.nil_append, List.append_nil] <;> rfl))) rfl rfl rfl hl.1 rfl (Nat.le_of_ble_eq_true rfl) dX0_judgeTieRound_48 ⟨Nat.zero_le _, Nat.zero_le _⟩ ?_
          obtain ⟨x20, e21, h⟩ := bd_some h
          refine smVv (As := [.int v1_13, .int x18]) (rest := []) (ws' := (wX0 cy a o (uX0_cut S5 x20))) (q0 := 0) (qX1_put l D cy a (o + 51) (gX0_cut S5) v1_13 x18 (H).size x20 e21) ⟨hx, hb, hml, hown, hts⟩ (cwV 2 hts gX0_judgeTieRound_X1_put rfl rfl rfl (by decide +kernel) ⟨Nat.le_of_ble_eq_true rfl, Nat.le_of_ble_eq_true rfl⟩) hG hP hD hS hA (pm1 (X := ((hX0 a o S5) ++ ((wX10 cy a (o + 1) (gX0_works S5)) ++ ((wX2 cy a (o + 5) (gX0_entrants S5)) ++ ((rowsW (cy 2) (cy 0) a (o + 7) 4 6 (gX0_rules S5)) ++ ((wX4 cy a (o + 12) (gX0_programs S5)) ++ ((wX3 cy a (o + 14) (gX0_jury S5)) ++ ((wX7 cy a (o + 23) (gX0_stage S5)) ++ ((wX6 cy a (o + 26) (gX0_sheet S5)) ++ ((wX9 cy a (o + 35) (gX0_tie S5)) ++ (rowsW (cy 2) (cy 0) a (o + 46) 4 12 (gX0_closedScores S5)))))))))))) (c := (wX1 cy a (o + 51) (gX0_cut S5))) (Y := ([] : va_W)) (show (wX0 cy a o S5) = ((hX0 a o S5) ++ ((wX10 cy a (o + 1) (gX0_works S5)) ++ ((wX2 cy a (o + 5) (gX0_entrants S5)) ++ ((rowsW (cy 2) (cy 0) a (o + 7) 4 6 (gX0_rules S5)) ++ ((wX4 cy a (o + 12) (gX0_programs S5)) ++ ((wX3 cy a (o + 14) (gX0_jury S5)) ++ ((wX7 cy a (o + 23) (gX0_stage S5)) ++ ((wX6 cy a (o + 26) (gX0_sheet S5)) ++ ((wX9 cy a (o + 35) (gX0_tie S5)) ++ (rowsW (cy 2) (cy 0) a (o + 46) 4 12 (gX0_closedScores S5))))))))))) ++ ((wX1 cy a (o + 51) (gX0_cut S5)) ++ ([] : va_W)) from by simp only [wX0, List.append_assoc, List.nil_append, List.append_nil] <;> rfl)) (pm1 (X := ((hX0 a o S5) ++ ((wX10 cy a (o + 1) (gX0_works S5)) ++ ((wX2 cy a (o + 5) (gX0_entrants S5)) ++ ((rowsW (cy 2) (cy 0) a (o + 7) 4 6 (gX0_rules S5)) ++ ((wX4 cy a (o + 12) (gX0_programs S5)) ++ ((wX3 cy a (o + 14) (gX0_jury S5)) ++ ((wX7 cy a (o + 23) (gX0_stage S5)) ++ ((wX6 cy a (o + 26) (gX0_sheet S5)) ++ ((wX9 cy a (o + 35) (gX0_tie S5)) ++ (rowsW (cy 2) (cy 0) a (o + 46) 4 12 (gX0_closedScores S5)))))))))))) (c := (wX1 cy a (o + 51) x20)) (Y := ([] : va_W)) (show (wX0 cy a o (uX0_cut S5 x20)) = ((hX0 a o S5) ++ ((wX10 cy a (o + 1) (gX0_works S5)) ++ ((wX2 cy a (o + 5) (gX0_entrants S5)) ++ ((rowsW (cy 2) (cy 0) a (o + 7) 4 6 (gX0_rules S5)) ++ ((wX4 cy a (o + 12) (gX0_programs S5)) ++ ((wX3 cy a (o + 14) (gX0_jury S5)) ++ ((wX7 cy a (o + 23) (gX0_stage S5)) ++ ((wX6 cy a (o + 26) (gX0_sheet S5)) ++ ((wX9 cy a (o + 35) (gX0_tie S5)) ++ (rowsW (cy 2) (cy 0) a (o + 46) 4 12 (gX0_closedScores S5))))))))))) ++ ((wX1 cy a (o + 51) x20) ++ ([] : va_W)) from by simp only [wX0, List.append_assoc, List.nil_append, List.append_nil] <;> rfl)) rfl rfl rfl hl.1 rfl (Nat.le_of_ble_eq_true rfl) dX0_judgeTieRound_51 ⟨Nat.zero_le _, Nat.zero_le _⟩ (fun H locs hP hD hS => ?_)
          obtain ⟨S22, eS23, h⟩ := lt_elim h
          have hP : va_P D vwCl (wX0 cy a o S22) H := by rw [eS23]; exact hP
          have hD : va_D (va_A (wX0 cy a o S) s.heap.size) (wX0 cy a o S22) := by rw [eS23]; exact hD
          exact Jj17 S22 H locs ls h hP hD hS (lv_sub hl [0, 1] rfl)
  refine L24  _ ?_ fu (0 : Int32) S3 H locs ls h hP hD hS (lv_sub hl [1, 0] rfl)
  intro S8 H locs ls h hP hD hS hl
  refine lv_aload_n hx hb dX0_judgeTieRound_60 rfl (lv_at hl 0 rfl) ?_
  refine va_get (D := D) (ci := 0) (v := .ref (a (o + 51))) (C := RX0) (T := TX0) (N := 14) hx hb hts hinX0 hown hK hP 0 rfl rfl 13 (by decide) hf81 (fun _ h9 => h9) rfl dX0_judgeTieRound_61 ?_
  refine lv_aload_n hx hb dX0_judgeTieRound_64 rfl (lv_at hl 0 rfl) ?_
  refine va_get (D := D) (ci := 0) (v := .ref (a (o + 35))) (C := RX0) (T := TX0) (N := 14) hx hb hts hinX0 hown hK hP 0 rfl rfl 11 (by decide) hf71 (fun _ h9 => h9) rfl dX0_judgeTieRound_65 ?_
  refine va_getN (D := D) (ci := 9) (v := .int (gX9_places (gX0_tie S8))) (C := RX9) (T := TX9) (N := 4) hx hb hts hinX9 hown hK hP 35 rfl rfl 1 (by decide) hf147 (fun _ h9 => h9) rfl dX0_judgeTieRound_68 ?_
  obtain ⟨x9, e10, h⟩ := bd_some h
  refine smVv (As := [.int (gX9_places (gX0_tie S8))]) (rest := []) (ws' := (wX0 cy a o (uX0_cut S8 x9))) (q0 := 0) (qX1_draw l D cy a (o + 51) (gX0_cut S8) (gX9_places (gX0_tie S8)) (H).size x9 e10) ⟨hx, hb, hml, hown, hts⟩ (cwV 1 hts gX0_judgeTieRound_X1_draw rfl rfl rfl (by decide +kernel) ⟨Nat.le_of_ble_eq_true rfl, Nat.le_of_ble_eq_true rfl⟩) hG hP hD hS hA (pm1 (X := ((hX0 a o S8) ++ ((wX10 cy a (o + 1) (gX0_works S8)) ++ ((wX2 cy a (o + 5) (gX0_entrants S8)) ++ ((rowsW (cy 2) (cy 0) a (o + 7) 4 6 (gX0_rules S8)) ++ ((wX4 cy a (o + 12) (gX0_programs S8)) ++ ((wX3 cy a (o + 14) (gX0_jury S8)) ++ ((wX7 cy a (o + 23) (gX0_stage S8)) ++ ((wX6 cy a (o + 26) (gX0_sheet S8)) ++ ((wX9 cy a (o + 35) (gX0_tie S8)) ++ (rowsW (cy 2) (cy 0) a (o + 46) 4 12 (gX0_closedScores S8)))))))))))) (c := (wX1 cy a (o + 51) (gX0_cut S8))) (Y := ([] : va_W)) (show (wX0 cy a o S8) = ((hX0 a o S8) ++ ((wX10 cy a (o + 1) (gX0_works S8)) ++ ((wX2 cy a (o + 5) (gX0_entrants S8)) ++ ((rowsW (cy 2) (cy 0) a (o + 7) 4 6 (gX0_rules S8)) ++ ((wX4 cy a (o + 12) (gX0_programs S8)) ++ ((wX3 cy a (o + 14) (gX0_jury S8)) ++ ((wX7 cy a (o + 23) (gX0_stage S8)) ++ ((wX6 cy a (o + 26) (gX0_sheet S8)) ++ ((wX9 cy a (o + 35) (gX0_tie S8)) ++ (rowsW (cy 2) (cy 0) a (o + 46) 4 12 (gX0_closedScores S8))))))))))) ++ ((wX1 cy a (o + 51) (gX0_cut S8)) ++ ([] : va_W)) from by simp only [wX0, List.append_assoc, List.nil_append, List.append_nil] <;> rfl)) (pm1 (X := ((hX0 a o S8) ++ ((wX10 cy a (o + 1) (gX0_works S8)) ++ ((wX2 cy a (o + 5) (gX0_entrants S8)) ++ ((rowsW (cy 2) (cy 0) a (o + 7) 4 6 (gX0_rules S8)) ++ ((wX4 cy a (o + 12) (gX0_programs S8)) ++ ((wX3 cy a (o + 14) (gX0_jury S8)) ++ ((wX7 cy a (o + 23) (gX0_stage S8)) ++ ((wX6 cy a (o + 26) (gX0_sheet S8)) ++ ((wX9 cy a (o + 35) (gX0_tie S8)) ++ (rowsW (cy 2) (cy 0) a (o + 46) 4 12 (gX0_closedScores S8)))))))))))) (c := (wX1 cy a (o + 51) x9)) (Y := ([] : va_W)) (show (wX0 cy a o (uX0_cut S8 x9)) = ((hX0 a o S8) ++ ((wX10 cy a (o + 1) (gX0_works S8)) ++ ((wX2 cy a (o + 5) (gX0_entrants S8)) ++ ((rowsW (cy 2) (cy 0) a (o + 7) 4 6 (gX0_rules S8)) ++ ((wX4 cy a (o + 12) (gX0_programs S8)) ++ ((wX3 cy a (o + 14) (gX0_jury S8)) ++ ((wX7 cy a (o + 23) (gX0_stage S8)) ++ ((wX6 cy a (o + 26) (gX0_sheet S8)) ++ ((wX9 cy a (o + 35) (gX0_tie S8)) ++ (rowsW (cy 2) (cy 0) a (o + 46) 4 12 (gX0_closedScores S8))))))))))) ++ ((wX1 cy a (o + 51) x9) ++ ([] : va_W)) from by simp only [wX0, List.append_assoc, List.nil_append, List.append_nil] <;> rfl)) rfl rfl rfl hl.1 rfl (Nat.le_of_ble_eq_true rfl) dX0_judgeTieRound_71 ⟨Nat.zero_le _, Nat.zero_le _⟩ (fun H locs hP hD hS => ?_)
  obtain ⟨S11, eS12, h⟩ := lt_elim h
  have hP : va_P D vwCl (wX0 cy a o S11) H := by rw [eS12]; exact hP
  have hD : va_D (va_A (wX0 cy a o S) s.heap.size) (wX0 cy a o S11) := by rw [eS12]; exact hD
  exact W.vret hx hb hr (fun t ht hW => ⟨⟨S11, rfl, some_in h, by rw [ht]; exact hP, hD⟩, hS.F ht⟩) hS.2.2 dX0_judgeTieRound_74
set_option maxHeartbeats 4000000 in
set_option maxRecDepth 100000 in
theorem qX1_scoreOf (l : Launch) (D : va_G) (cy : Nat → ClassId) (a : Nat → Nat) (o : Nat) (S : SX1) (p1 : Int32) (rs : Int32) (h : DX1_scoreOf S p1 = some rs) : Met l yX1_scoreOf wsX1_scoreOf ({ frames := 1, cells := 0, slots := 0, locals := 22 } : Room) (va_Pc [.ref (a o), .int p1] (fun U => va_P D vwCl (wX1 cy a o S) U.heap ∧ gK D cy U)) (vp_Si (fun z => z = rs)) 0 0 (fun _ => False) := by
  refine Met.ofW (cc := cX1_scoreOf) (maxL := 2) (ret := (some .int)) (by decide) rfl ?_
  intro p e s m args below meth c s₁ B hml hv
  obtain ⟨rfl, hP, hG⟩ := hv
  have hx := B.exec
  have hb := B.bytes
  have hr := B.returns
  have hts := atoms_spec (ws := wsX1_scoreOf) B.pre
  have hown : s.vm.findClass RX1 = some m.cls := findClass_of_methodNamed B.named
  have hlocks := B.notSynchronized
  have hK := hG.1
  have hinX1 := (by decide +kernel : ∀ w ∈ wsX10, w ∈ wsX1_scoreOf)
  have hf9 := hts (.fieldLink RX1 9 "PianoRounds$Cut" "scores" "[I") (by decide +kernel)
  have hl := lv_entry ([.ref (a o), .int p1]) (n := 2) (Nat.le_of_ble_eq_true rfl)
  rw [lg_entry_eq]
  generalize (lg_sl ([.ref (a o), .int p1]) ++ List.replicate (2 - (lg_sl ([.ref (a o), .int p1])).length) Slot.unset).toArray = ls at hl ⊢
  have hl : lv_has ls 2 [(0, .ref (a o)), (1, .int p1)] := hl
  rw [DX1_scoreOf] at h
  refine lv_iload_n hx hb dX1_scoreOf_0 rfl (lv_at hl 1 rfl) ?_
  refine lv_iconst (v := (0 : Int32)) hx hb dX1_scoreOf_1 (by decide) ?_
  refine lv_bipush (v := (11 : Int32)) hx hb dX1_scoreOf_2 (by decide) ?_
  obtain ⟨x1, e2, h⟩ := bd_some h
  refine pcSN (As := [.int p1, .int (0 : Int32), .int (11 : Int32)]) (rest := []) (qX11_isBetween l D cy  p1 (0 : Int32) (11 : Int32) x1 e2) ⟨hx, hb, hml, hown, hts⟩ ⟨va_cnB (y := yX11_isBetween) 3 hts gX1_scoreOf_X11_isBetween_n21 rfl rfl rfl (hG.2.2.1 (.methodLinkNest "PianoRounds$Cut" 21 ⟨"PianoRounds", "isBetween", "(III)Z"⟩ "PianoRounds") (by decide +kernel)) (hts (.initialized RX11) (by decide +kernel)) (by decide +kernel) ⟨Nat.le_of_ble_eq_true rfl, Nat.le_of_ble_eq_true rfl⟩, hts (.static yX11_isBetween) (by decide +kernel), trivial⟩ hG (hP.sub [] rfl) rfl hl.1 rfl (Nat.le_of_ble_eq_true rfl) dX1_scoreOf_4 ⟨Nat.zero_le _, Nat.zero_le _⟩ ?_
  obtain ⟨j4, hj4, h⟩ := jn_elim h
  have Jj4 : ∀ (x3 : Int32) (ls : Array Slot), j4 x3 = some rs → lv_has ls 2 [] → W p l e (headSpec wsX1_scoreOf ({ frames := 1, cells := 0, slots := 0, locals := 22 } : Room)).room s m ([.ref (a o), .int p1] : List Value).toArray below meth c s.heap [] 0 0 (MQ below (vp_Si (fun z => z = rs)) ([.ref (a o), .int p1] : List Value).toArray s 0 0 (fun _ => False)) (F0 m 20 ls [.int x3]) := by
    intro x3 ls h hl
    rw [hj4] at h
    exact W.iret (v := x3) hx hb hr (fun t ht hW => ⟨x3, rfl, some_in h, ht⟩) (fun q hq => nomatch hq) dX1_scoreOf_20
  refine lv_if_eq (tgt := 19) hx hb dX1_scoreOf_7 (by decide) (fun cc => ?_) (fun cc => ?_)
  · have h := ite_p cc h
    refine lv_iconst (v := (-1 : Int32)) hx hb dX1_scoreOf_19 (by decide) ?_
    exact Jj4 (-1 : Int32) ls h (lv_sub hl [] rfl)
  · have h := ite_n cc h
    refine lv_aload_n hx hb dX1_scoreOf_10 rfl (lv_at hl 0 rfl) ?_
    refine va_get (D := D) (ci := 1) (v := .ref (a (o + 1))) (C := RX1) (T := TX1) (N := 6) hx hb hts hinX1 hown hK hP 0 rfl rfl 5 (by decide) hf9 (fun _ h9 => h9) rfl dX1_scoreOf_11 ?_
    refine lv_iload_n hx hb dX1_scoreOf_14 rfl (lv_at hl 1 rfl) ?_
    obtain ⟨g5, h⟩ := gd_some h
    refine r_ald (f := (gX1_scores S)) (n := 12) (v := ((gX1_scores S) ((p1).toNatClampNeg))) hx hb hK hP 1 0 rfl rfl (gIn_in g5) rfl dX1_scoreOf_15 ?_
    refine lv_goto (tgt := 20) hx hb dX1_scoreOf_16 (by decide) ?_
    exact Jj4 ((gX1_scores S) ((p1).toNatClampNeg)) ls h (lv_sub hl [] rfl)
set_option maxHeartbeats 4000000 in
set_option maxRecDepth 100000 in
theorem qX1_isOut (l : Launch) (D : va_G) (cy : Nat → ClassId) (a : Nat → Nat) (o : Nat) (S : SX1) (p1 : Int32) (rs : Int32) (h : DX1_isOut S p1 = some rs) : Met l yX1_isOut wsX1_isOut ({ frames := 2, cells := 0, slots := 0, locals := 43 } : Room) (va_Pc [.ref (a o), .int p1] (fun U => va_P D vwCl (wX1 cy a o S) U.heap ∧ gK D cy U)) (vp_Si (fun z => z = rs)) 0 0 (fun _ => False) := by
  refine Met.ofW (cc := cX1_isOut) (maxL := 2) (ret := (some .boolean)) (by decide) rfl ?_
  intro p e s m args below meth c s₁ B hml hv
  obtain ⟨rfl, hP, hG⟩ := hv
  have hx := B.exec
  have hb := B.bytes
  have hr := B.returns
  have hts := atoms_spec (ws := wsX1_isOut) B.pre
  have hown : s.vm.findClass RX1 = some m.cls := findClass_of_methodNamed B.named
  have hlocks := B.notSynchronized
  have hK := hG.1
  have hinX1 := (by decide +kernel : ∀ w ∈ wsX10, w ∈ wsX1_isOut)
  have hf33 := hts (.fieldLink RX1 33 "PianoRounds$Cut" "line" "I") (by decide +kernel)
  have hl := lv_entry ([.ref (a o), .int p1]) (n := 2) (Nat.le_of_ble_eq_true rfl)
  rw [lg_entry_eq]
  generalize (lg_sl ([.ref (a o), .int p1]) ++ List.replicate (2 - (lg_sl ([.ref (a o), .int p1])).length) Slot.unset).toArray = ls at hl ⊢
  have hl : lv_has ls 2 [(0, .ref (a o)), (1, .int p1)] := hl
  rw [DX1_isOut] at h
  refine lv_aload_n hx hb dX1_isOut_0 rfl (lv_at hl 0 rfl) ?_
  refine lv_iload_n hx hb dX1_isOut_1 rfl (lv_at hl 1 rfl) ?_
  obtain ⟨x1, e2, h⟩ := bd_some h
  refine pcV (As := [.int p1]) (rest := []) (q0 := 0) (qX1_scoreOf l D cy a o S p1 x1 e2) ⟨hx, hb, hml, hown, hts⟩ (cwV 1 hts gX1_isOut_X1_scoreOf rfl rfl rfl (by decide +kernel) ⟨Nat.le_of_ble_eq_true rfl, Nat.le_of_ble_eq_true rfl⟩) hG hP rfl rfl rfl hl.1 rfl (Nat.le_of_ble_eq_true rfl) dX1_isOut_2 ⟨Nat.zero_le _, Nat.zero_le _⟩ ?_
  refine lv_iconst (v := (-1 : Int32)) hx hb dX1_isOut_5 (by decide) ?_
  obtain ⟨j4, hj4, h⟩ := jn_elim h
  have Jj4 : ∀ (x3 : Int32) (ls : Array Slot), j4 x3 = some rs → lv_has ls 2 [] → W p l e (headSpec wsX1_isOut ({ frames := 2, cells := 0, slots := 0, locals := 43 } : Room)).room s m ([.ref (a o), .int p1] : List Value).toArray below meth c s.heap [] 0 0 (MQ below (vp_Si (fun z => z = rs)) ([.ref (a o), .int p1] : List Value).toArray s 0 0 (fun _ => False)) (F0 m 26 ls [.int x3]) := by
    intro x3 ls h hl
    rw [hj4] at h
    obtain ⟨g5, h⟩ := gd_some h
    exact W.zret (v := x3) hx hb hr (zN g5) (fun t ht hW => ⟨x3, rfl, some_in h, ht⟩) (fun q hq => nomatch hq) dX1_isOut_26
  obtain ⟨j6, hj6, h⟩ := jn_elim h
  have Jj6 : ∀ (ls : Array Slot), j6 () = some rs → lv_has ls 2 [] → W p l e (headSpec wsX1_isOut ({ frames := 2, cells := 0, slots := 0, locals := 43 } : Room)).room s m ([.ref (a o), .int p1] : List Value).toArray below meth c s.heap [] 0 0 (MQ below (vp_Si (fun z => z = rs)) ([.ref (a o), .int p1] : List Value).toArray s 0 0 (fun _ => False)) (F0 m 25 ls []) := by
    intro ls h hl
    rw [hj6] at h
    refine lv_iconst (v := (0 : Int32)) hx hb dX1_isOut_25 (by decide) ?_
    exact Jj4 (0 : Int32) ls h (lv_sub hl [] rfl)
  refine lv_icmp_eq (tgt := 25) hx hb dX1_isOut_6 (by decide) (fun cc => ?_) (fun cc => ?_)
  · have h := ite_p cc h
    exact Jj6  ls h (lv_sub hl [] rfl)
  · have h := ite_n cc h
    refine lv_aload_n hx hb dX1_isOut_9 rfl (lv_at hl 0 rfl) ?_
    refine lv_iload_n hx hb dX1_isOut_10 rfl (lv_at hl 1 rfl) ?_
    obtain ⟨x7, e8, h⟩ := bd_some h
    refine pcV (As := [.int p1]) (rest := []) (q0 := 0) (qX1_scoreOf l D cy a o S p1 x7 e8) ⟨hx, hb, hml, hown, hts⟩ (cwV 1 hts gX1_isOut_X1_scoreOf rfl rfl rfl (by decide +kernel) ⟨Nat.le_of_ble_eq_true rfl, Nat.le_of_ble_eq_true rfl⟩) hG hP rfl rfl rfl hl.1 rfl (Nat.le_of_ble_eq_true rfl) dX1_isOut_11 ⟨Nat.zero_le _, Nat.zero_le _⟩ ?_
    refine lv_aload_n hx hb dX1_isOut_14 rfl (lv_at hl 0 rfl) ?_
    refine va_get (D := D) (ci := 1) (v := .int (gX1_line S)) (C := RX1) (T := TX1) (N := 6) hx hb hts hinX1 hown hK hP 0 rfl rfl 1 (by decide) hf33 (fun _ h9 => h9) rfl dX1_isOut_15 ?_
    refine lv_icmp_ge (tgt := 25) hx hb dX1_isOut_18 (by decide) (fun cc => ?_) (fun cc => ?_)
    · have h := ite_p cc h
      exact Jj6  ls h (lv_sub hl [] rfl)
    · have h := ite_n cc h
      refine lv_iconst (v := (1 : Int32)) hx hb dX1_isOut_21 (by decide) ?_
      refine lv_goto (tgt := 26) hx hb dX1_isOut_22 (by decide) ?_
      exact Jj4 (1 : Int32) ls h (lv_sub hl [] rfl)
set_option maxHeartbeats 4000000 in
set_option maxRecDepth 100000 in
theorem qX0_putOutThoseBelow (l : Launch) (D : va_G) (cy : Nat → ClassId) (a : Nat → Nat) (o : Nat) (S : SX0)  (sz : Nat) (rs : SX0) (h : DX0_putOutThoseBelow S = some rs) : Met l yX0_putOutThoseBelow wsX0_putOutThoseBelow ({ frames := 3, cells := 0, slots := 0, locals := 64 } : Room) (mP D cy sz [.ref (a o)] (wX0 cy a o S)) (va_Qv (fun (u : SX0) => u = rs) (fun u t => mB D sz (wX0 cy a o S) (wX0 cy a o u) t) (va_A (wX0 cy a o S) sz)) 0 0 (va_A (wX0 cy a o S) sz) := by
  refine Met.ofW (cc := cX0_putOutThoseBelow) (maxL := 2) (ret := none) (by decide) rfl ?_
  intro p e s m args below meth c s₁ B hml hv
  obtain ⟨rfl, hsz, hP, hG, hD0⟩ := hv
  have hx := B.exec
  have hb := B.bytes
  have hr := B.returns
  have hts := atoms_spec (ws := wsX0_putOutThoseBelow) B.pre
  have hown : s.vm.findClass RX0 = some m.cls := findClass_of_methodNamed B.named
  have hlocks := B.notSynchronized
  have hK := hG.1
  subst hsz
  have hD := hD0.self (sz := s.heap.size)
  have hA : ∀ q : Nat, s.heap.size ≤ q → (va_A (wX0 cy a o S) s.heap.size) q := fun q h => Or.inr h
  have hS : va_S (va_A (wX0 cy a o S) s.heap.size) s.heap s.heap [] := va_S.rf
  have hinX0 := (by decide +kernel : ∀ w ∈ wsX00, w ∈ wsX0_putOutThoseBelow)
  have hf31 := hts (.fieldLink RX0 31 "PianoRounds$Competition" "entrants" "LPianoRounds$Entrants;") (by decide +kernel)
  have hinX2 := (by decide +kernel : ∀ w ∈ wsX20, w ∈ wsX0_putOutThoseBelow)
  have hf134 := va_Nw.use (A := ([.ref (a o)] : List Value).toArray) (U := s) (w := .fieldLinkNest "PianoRounds$Competition" 134 "PianoRounds$Entrants" "count" "I" "PianoRounds") rfl (hG.2.1 _ (by decide +kernel))
  have hf81 := hts (.fieldLink RX0 81 "PianoRounds$Competition" "cut" "LPianoRounds$Cut;") (by decide +kernel)
  have hl := lv_entry ([.ref (a o)]) (n := 2) (Nat.le_of_ble_eq_true rfl)
  rw [lg_entry_eq]
  generalize (lg_sl ([.ref (a o)]) ++ List.replicate (2 - (lg_sl ([.ref (a o)])).length) Slot.unset).toArray = ls at hl ⊢
  have hl : lv_has ls 2 [(0, .ref (a o))] := hl
  rw [DX0_putOutThoseBelow] at h
  refine lv_iconst (v := (0 : Int32)) hx hb dX0_putOutThoseBelow_0 (by decide) ?_
  refine lv_istore_n (lv' := [(1, .int (0 : Int32)), (0, .ref (a o))]) hx hb dX0_putOutThoseBelow_1 rfl hl (by decide) rfl (fun ls hl => ?_)
  have L14 : ∀ (k2 : SX0 → Option (SX0)) (hk2 : ∀ (S3 : SX0) (H : Heap) (locs : List Loc) (ls : Array Slot), k2 S3 = some rs → va_P D vwCl (wX0 cy a o S3) H → va_D (va_A (wX0 cy a o S) s.heap.size) (wX0 cy a o S3) → va_S (va_A (wX0 cy a o S) s.heap.size) s.heap H locs → lv_has ls 2 [] → W p l e (headSpec wsX0_putOutThoseBelow ({ frames := 3, cells := 0, slots := 0, locals := 64 } : Room)).room s m ([.ref (a o)] : List Value).toArray below meth c H locs 0 0 (MQ below (va_Qv (fun (u : SX0) => u = rs) (fun u t => mB D s.heap.size (wX0 cy a o S) (wX0 cy a o u) t) (va_A (wX0 cy a o S) s.heap.size)) ([.ref (a o)] : List Value).toArray s 0 0 (va_A (wX0 cy a o S) s.heap.size)) (F0 m 38 ls [])) (f : Nat) (v1_5 : Int32) (S1 : SX0) (H : Heap) (locs : List Loc) (ls : Array Slot), DX0_putOutThoseBelow_L2 k2 f v1_5 S1 = some rs → va_P D vwCl (wX0 cy a o S1) H → va_D (va_A (wX0 cy a o S) s.heap.size) (wX0 cy a o S1) → va_S (va_A (wX0 cy a o S) s.heap.size) s.heap H locs → lv_has ls 2 [(0, .ref (a o)), (1, .int v1_5)] → W p l e (headSpec wsX0_putOutThoseBelow ({ frames := 3, cells := 0, slots := 0, locals := 64 } : Room)).room s m ([.ref (a o)] : List Value).toArray below meth c H locs 0 0 (MQ below (va_Qv (fun (u : SX0) => u = rs) (fun u t => mB D s.heap.size (wX0 cy a o S) (wX0 cy a o u) t) (va_A (wX0 cy a o S) s.heap.size)) ([.ref (a o)] : List Value).toArray s 0 0 (va_A (wX0 cy a o S) s.heap.size)) (F0 m 2 ls []) := by
    intro k2 hk2 f
    induction f with
    | zero =>
      intro v1_5 S1 H locs ls h hP hD hS hl
      rw [DX0_putOutThoseBelow_L2] at h
      cases h
    | succ f ih =>
      intro v1_5 S1 H locs ls h hP hD hS hl
      rw [DX0_putOutThoseBelow_L2] at h
      refine lv_iload_n hx hb dX0_putOutThoseBelow_2 rfl (lv_at hl 1 rfl) ?_
      refine lv_aload_n hx hb dX0_putOutThoseBelow_3 rfl (lv_at hl 0 rfl) ?_
      refine va_get (D := D) (ci := 0) (v := .ref (a (o + 5))) (C := RX0) (T := TX0) (N := 14) hx hb hts hinX0 hown hK hP 0 rfl rfl 5 (by decide) hf31 (fun _ h9 => h9) rfl dX0_putOutThoseBelow_4 ?_
      refine va_getN (D := D) (ci := 2) (v := .int (gX2_count (gX0_entrants S1))) (C := RX2) (T := TX2) (N := 2) hx hb hts hinX2 hown hK hP 5 rfl rfl 0 (by decide) hf134 (fun _ h9 => h9) rfl dX0_putOutThoseBelow_7 ?_
      refine lv_icmp_ge (tgt := 38) hx hb dX0_putOutThoseBelow_10 (by decide) (fun cc => ?_) (fun cc => ?_)
      · have h := ite_p cc h
        exact hk2 S1 H locs ls h hP hD hS (lv_sub hl [] rfl)
      · have h := ite_n cc h
        refine lv_aload_n hx hb dX0_putOutThoseBelow_13 rfl (lv_at hl 0 rfl) ?_
        refine va_get (D := D) (ci := 0) (v := .ref (a (o + 51))) (C := RX0) (T := TX0) (N := 14) hx hb hts hinX0 hown hK hP 0 rfl rfl 13 (by decide) hf81 (fun _ h9 => h9) rfl dX0_putOutThoseBelow_14 ?_
        refine lv_iload_n hx hb dX0_putOutThoseBelow_17 rfl (lv_at hl 1 rfl) ?_
        obtain ⟨x6, e7, h⟩ := bd_some h
        refine pcV (As := [.int v1_5]) (rest := []) (q0 := 0) (qX1_isOut l D cy a (o + 51) (gX0_cut S1) v1_5 x6 e7) ⟨hx, hb, hml, hown, hts⟩ (cwV 1 hts gX0_putOutThoseBelow_X1_isOut rfl rfl rfl (by decide +kernel) ⟨Nat.le_of_ble_eq_true rfl, Nat.le_of_ble_eq_true rfl⟩) hG (P_seg (X := ((hX0 a o S1) ++ ((wX10 cy a (o + 1) (gX0_works S1)) ++ ((wX2 cy a (o + 5) (gX0_entrants S1)) ++ ((rowsW (cy 2) (cy 0) a (o + 7) 4 6 (gX0_rules S1)) ++ ((wX4 cy a (o + 12) (gX0_programs S1)) ++ ((wX3 cy a (o + 14) (gX0_jury S1)) ++ ((wX7 cy a (o + 23) (gX0_stage S1)) ++ ((wX6 cy a (o + 26) (gX0_sheet S1)) ++ ((wX9 cy a (o + 35) (gX0_tie S1)) ++ (rowsW (cy 2) (cy 0) a (o + 46) 4 12 (gX0_closedScores S1)))))))))))) (c := (wX1 cy a (o + 51) (gX0_cut S1))) (Y := ([] : va_W)) hP (by simp only [wX0, List.append_assoc, List.nil_append, List.append_nil] <;> rfl)) rfl rfl rfl hl.1 rfl (Nat.le_of_ble_eq_true rfl) dX0_putOutThoseBelow_18 ⟨Nat.zero_le _, Nat.zero_le _⟩ ?_
        obtain ⟨j9, hj9, h⟩ := jn_elim h
        have Jj9 : ∀ (S8 : SX0) (H : Heap) (locs : List Loc) (ls : Array Slot), j9 S8 = some rs → va_P D vwCl (wX0 cy a o S8) H → va_D (va_A (wX0 cy a o S) s.heap.size) (wX0 cy a o S8) → va_S (va_A (wX0 cy a o S) s.heap.size) s.heap H locs → lv_has ls 2 [(0, .ref (a o)), (1, .int v1_5)] → W p l e (headSpec wsX0_putOutThoseBelow ({ frames := 3, cells := 0, slots := 0, locals := 64 } : Room)).room s m ([.ref (a o)] : List Value).toArray below meth c H locs 0 0 (MQ below (va_Qv (fun (u : SX0) => u = rs) (fun u t => mB D s.heap.size (wX0 cy a o S) (wX0 cy a o u) t) (va_A (wX0 cy a o S) s.heap.size)) ([.ref (a o)] : List Value).toArray s 0 0 (va_A (wX0 cy a o S) s.heap.size)) (F0 m 32 ls []) := by
          intro S8 H locs ls h hP hD hS hl
          rw [hj9] at h
          refine lv_iinc (v := (v1_5 + (1 : Int32))) (lv' := [(1, .int (v1_5 + (1 : Int32))), (0, .ref (a o))]) hx hb dX0_putOutThoseBelow_32 hl (k := 1) rfl (by rfl) (by decide) rfl (fun ls hl => ?_)
          refine lv_goto (tgt := 2) hx hb dX0_putOutThoseBelow_35 (by decide) ?_
          exact ih (v1_5 + (1 : Int32)) S8 H locs ls h hP hD hS (lv_sub hl [1, 0] rfl)
        refine lv_if_eq (tgt := 32) hx hb dX0_putOutThoseBelow_21 (by decide) (fun cc => ?_) (fun cc => ?_)
        · have h := ite_p cc h
          exact Jj9 S1 H locs ls h hP hD hS (lv_sub hl [0, 1] rfl)
        · have h := ite_n cc h
          refine lv_aload_n hx hb dX0_putOutThoseBelow_24 rfl (lv_at hl 0 rfl) ?_
          refine va_get (D := D) (ci := 0) (v := .ref (a (o + 5))) (C := RX0) (T := TX0) (N := 14) hx hb hts hinX0 hown hK hP 0 rfl rfl 5 (by decide) hf31 (fun _ h9 => h9) rfl dX0_putOutThoseBelow_25 ?_
          refine lv_iload_n hx hb dX0_putOutThoseBelow_28 rfl (lv_at hl 1 rfl) ?_
          obtain ⟨x10, e11, h⟩ := bd_some h
          refine smVv (As := [.int v1_5]) (rest := []) (ws' := (wX0 cy a o (uX0_entrants S1 x10))) (q0 := 0) (qX2_putOut l D cy a (o + 5) (gX0_entrants S1) v1_5 (H).size x10 e11) ⟨hx, hb, hml, hown, hts⟩ (cwV 1 hts gX0_putOutThoseBelow_X2_putOut rfl rfl rfl (by decide +kernel) ⟨Nat.le_of_ble_eq_true rfl, Nat.le_of_ble_eq_true rfl⟩) hG hP hD hS hA (pm1 (X := ((hX0 a o S1) ++ (wX10 cy a (o + 1) (gX0_works S1)))) (c := (wX2 cy a (o + 5) (gX0_entrants S1))) (Y := ((rowsW (cy 2) (cy 0) a (o + 7) 4 6 (gX0_rules S1)) ++ ((wX4 cy a (o + 12) (gX0_programs S1)) ++ ((wX3 cy a (o + 14) (gX0_jury S1)) ++ ((wX7 cy a (o + 23) (gX0_stage S1)) ++ ((wX6 cy a (o + 26) (gX0_sheet S1)) ++ ((wX9 cy a (o + 35) (gX0_tie S1)) ++ ((rowsW (cy 2) (cy 0) a (o + 46) 4 12 (gX0_closedScores S1)) ++ (wX1 cy a (o + 51) (gX0_cut S1)))))))))) (show (wX0 cy a o S1) = ((hX0 a o S1) ++ (wX10 cy a (o + 1) (gX0_works S1))) ++ ((wX2 cy a (o + 5) (gX0_entrants S1)) ++ ((rowsW (cy 2) (cy 0) a (o + 7) 4 6 (gX0_rules S1)) ++ ((wX4 cy a (o + 12) (gX0_programs S1)) ++ ((wX3 cy a (o + 14) (gX0_jury S1)) ++ ((wX7 cy a (o + 23) (gX0_stage S1)) ++ ((wX6 cy a (o + 26) (gX0_sheet S1)) ++ ((wX9 cy a (o + 35) (gX0_tie S1)) ++ ((rowsW (cy 2) (cy 0) a (o + 46) 4 12 (gX0_closedScores S1)) ++ (wX1 cy a (o + 51) (gX0_cut S1)))))))))) from by simp only [wX0, List.append_assoc, List.nil_append, List.append_nil] <;> rfl)) (pm1 (X := ((hX0 a o S1) ++ (wX10 cy a (o + 1) (gX0_works S1)))) (c := (wX2 cy a (o + 5) x10)) (Y := ((rowsW (cy 2) (cy 0) a (o + 7) 4 6 (gX0_rules S1)) ++ ((wX4 cy a (o + 12) (gX0_programs S1)) ++ ((wX3 cy a (o + 14) (gX0_jury S1)) ++ ((wX7 cy a (o + 23) (gX0_stage S1)) ++ ((wX6 cy a (o + 26) (gX0_sheet S1)) ++ ((wX9 cy a (o + 35) (gX0_tie S1)) ++ ((rowsW (cy 2) (cy 0) a (o + 46) 4 12 (gX0_closedScores S1)) ++ (wX1 cy a (o + 51) (gX0_cut S1)))))))))) (show (wX0 cy a o (uX0_entrants S1 x10)) = ((hX0 a o S1) ++ (wX10 cy a (o + 1) (gX0_works S1))) ++ ((wX2 cy a (o + 5) x10) ++ ((rowsW (cy 2) (cy 0) a (o + 7) 4 6 (gX0_rules S1)) ++ ((wX4 cy a (o + 12) (gX0_programs S1)) ++ ((wX3 cy a (o + 14) (gX0_jury S1)) ++ ((wX7 cy a (o + 23) (gX0_stage S1)) ++ ((wX6 cy a (o + 26) (gX0_sheet S1)) ++ ((wX9 cy a (o + 35) (gX0_tie S1)) ++ ((rowsW (cy 2) (cy 0) a (o + 46) 4 12 (gX0_closedScores S1)) ++ (wX1 cy a (o + 51) (gX0_cut S1)))))))))) from by simp only [wX0, List.append_assoc, List.nil_append, List.append_nil] <;> rfl)) rfl rfl rfl hl.1 rfl (Nat.le_of_ble_eq_true rfl) dX0_putOutThoseBelow_29 ⟨Nat.zero_le _, Nat.zero_le _⟩ (fun H locs hP hD hS => ?_)
          obtain ⟨S12, eS13, h⟩ := lt_elim h
          have hP : va_P D vwCl (wX0 cy a o S12) H := by rw [eS13]; exact hP
          have hD : va_D (va_A (wX0 cy a o S) s.heap.size) (wX0 cy a o S12) := by rw [eS13]; exact hD
          exact Jj9 S12 H locs ls h hP hD hS (lv_sub hl [0, 1] rfl)
  refine L14  _ ?_ fu (0 : Int32) S s.heap [] ls h hP hD hS (lv_sub hl [1, 0] rfl)
  intro S4 H locs ls h hP hD hS hl
  exact W.vret hx hb hr (fun t ht hW => ⟨⟨S4, rfl, some_in h, by rw [ht]; exact hP, hD⟩, hS.F ht⟩) hS.2.2 dX0_putOutThoseBelow_38
set_option maxHeartbeats 4000000 in
set_option maxRecDepth 100000 in
theorem qX1_leavesTie (l : Launch) (D : va_G) (cy : Nat → ClassId) (a : Nat → Nat) (o : Nat) (S : SX1)  (rs : Int32) (h : DX1_leavesTie S = some rs) : Met l yX1_leavesTie wsX1_leavesTie ({ frames := 0, cells := 0, slots := 0, locals := 0 } : Room) (va_Pc [.ref (a o)] (fun U => va_P D vwCl (wX1 cy a o S) U.heap ∧ gK D cy U)) (vp_Si (fun z => z = rs)) 0 0 (fun _ => False) := by
  refine Met.ofW (cc := cX1_leavesTie) (maxL := 1) (ret := (some .boolean)) (by decide) rfl ?_
  intro p e s m args below meth c s₁ B hml hv
  obtain ⟨rfl, hP, hG⟩ := hv
  have hx := B.exec
  have hb := B.bytes
  have hr := B.returns
  have hts := atoms_spec (ws := wsX1_leavesTie) B.pre
  have hown : s.vm.findClass RX1 = some m.cls := findClass_of_methodNamed B.named
  have hlocks := B.notSynchronized
  have hK := hG.1
  have hinX1 := (by decide +kernel : ∀ w ∈ wsX10, w ∈ wsX1_leavesTie)
  have hf36 := hts (.fieldLink RX1 36 "PianoRounds$Cut" "above" "I") (by decide +kernel)
  have hf39 := hts (.fieldLink RX1 39 "PianoRounds$Cut" "level" "I") (by decide +kernel)
  have hf25 := hts (.fieldLink RX1 25 "PianoRounds$Cut" "places" "I") (by decide +kernel)
  have hl := lv_entry ([.ref (a o)]) (n := 1) (Nat.le_of_ble_eq_true rfl)
  rw [lg_entry_eq]
  generalize (lg_sl ([.ref (a o)]) ++ List.replicate (1 - (lg_sl ([.ref (a o)])).length) Slot.unset).toArray = ls at hl ⊢
  have hl : lv_has ls 1 [(0, .ref (a o))] := hl
  rw [DX1_leavesTie] at h
  refine lv_aload_n hx hb dX1_leavesTie_0 rfl (lv_at hl 0 rfl) ?_
  refine va_get (D := D) (ci := 1) (v := .int (gX1_above S)) (C := RX1) (T := TX1) (N := 6) hx hb hts hinX1 hown hK hP 0 rfl rfl 2 (by decide) hf36 (fun _ h9 => h9) rfl dX1_leavesTie_1 ?_
  refine lv_aload_n hx hb dX1_leavesTie_4 rfl (lv_at hl 0 rfl) ?_
  refine va_get (D := D) (ci := 1) (v := .int (gX1_level S)) (C := RX1) (T := TX1) (N := 6) hx hb hts hinX1 hown hK hP 0 rfl rfl 3 (by decide) hf39 (fun _ h9 => h9) rfl dX1_leavesTie_5 ?_
  refine lv_iadd hx hb dX1_leavesTie_8 ?_
  refine lv_aload_n hx hb dX1_leavesTie_9 rfl (lv_at hl 0 rfl) ?_
  refine va_get (D := D) (ci := 1) (v := .int (gX1_places S)) (C := RX1) (T := TX1) (N := 6) hx hb hts hinX1 hown hK hP 0 rfl rfl 0 (by decide) hf25 (fun _ h9 => h9) rfl dX1_leavesTie_10 ?_
  obtain ⟨j2, hj2, h⟩ := jn_elim h
  have Jj2 : ∀ (x1 : Int32) (ls : Array Slot), j2 x1 = some rs → lv_has ls 1 [] → W p l e (headSpec wsX1_leavesTie ({ frames := 0, cells := 0, slots := 0, locals := 0 } : Room)).room s m ([.ref (a o)] : List Value).toArray below meth c s.heap [] 0 0 (MQ below (vp_Si (fun z => z = rs)) ([.ref (a o)] : List Value).toArray s 0 0 (fun _ => False)) (F0 m 21 ls [.int x1]) := by
    intro x1 ls h hl
    rw [hj2] at h
    obtain ⟨g3, h⟩ := gd_some h
    exact W.zret (v := x1) hx hb hr (zN g3) (fun t ht hW => ⟨x1, rfl, some_in h, ht⟩) (fun q hq => nomatch hq) dX1_leavesTie_21
  refine lv_icmp_le (tgt := 20) hx hb dX1_leavesTie_13 (by decide) (fun cc => ?_) (fun cc => ?_)
  · have h := ite_p cc h
    refine lv_iconst (v := (0 : Int32)) hx hb dX1_leavesTie_20 (by decide) ?_
    exact Jj2 (0 : Int32) ls h (lv_sub hl [] rfl)
  · have h := ite_n cc h
    refine lv_iconst (v := (1 : Int32)) hx hb dX1_leavesTie_16 (by decide) ?_
    refine lv_goto (tgt := 21) hx hb dX1_leavesTie_17 (by decide) ?_
    exact Jj2 (1 : Int32) ls h (lv_sub hl [] rfl)
set_option maxHeartbeats 4000000 in
set_option maxRecDepth 100000 in
theorem qX1_placesLeft (l : Launch) (D : va_G) (cy : Nat → ClassId) (a : Nat → Nat) (o : Nat) (S : SX1)  (rs : Int32) (h : DX1_placesLeft S = some rs) : Met l yX1_placesLeft wsX1_placesLeft ({ frames := 0, cells := 0, slots := 0, locals := 0 } : Room) (va_Pc [.ref (a o)] (fun U => va_P D vwCl (wX1 cy a o S) U.heap ∧ gK D cy U)) (vp_Si (fun z => z = rs)) 0 0 (fun _ => False) := by
  refine Met.ofW (cc := cX1_placesLeft) (maxL := 1) (ret := (some .int)) (by decide) rfl ?_
  intro p e s m args below meth c s₁ B hml hv
  obtain ⟨rfl, hP, hG⟩ := hv
  have hx := B.exec
  have hb := B.bytes
  have hr := B.returns
  have hts := atoms_spec (ws := wsX1_placesLeft) B.pre
  have hown : s.vm.findClass RX1 = some m.cls := findClass_of_methodNamed B.named
  have hlocks := B.notSynchronized
  have hK := hG.1
  have hinX1 := (by decide +kernel : ∀ w ∈ wsX10, w ∈ wsX1_placesLeft)
  have hf25 := hts (.fieldLink RX1 25 "PianoRounds$Cut" "places" "I") (by decide +kernel)
  have hf36 := hts (.fieldLink RX1 36 "PianoRounds$Cut" "above" "I") (by decide +kernel)
  have hl := lv_entry ([.ref (a o)]) (n := 1) (Nat.le_of_ble_eq_true rfl)
  rw [lg_entry_eq]
  generalize (lg_sl ([.ref (a o)]) ++ List.replicate (1 - (lg_sl ([.ref (a o)])).length) Slot.unset).toArray = ls at hl ⊢
  have hl : lv_has ls 1 [(0, .ref (a o))] := hl
  rw [DX1_placesLeft] at h
  refine lv_aload_n hx hb dX1_placesLeft_0 rfl (lv_at hl 0 rfl) ?_
  refine va_get (D := D) (ci := 1) (v := .int (gX1_places S)) (C := RX1) (T := TX1) (N := 6) hx hb hts hinX1 hown hK hP 0 rfl rfl 0 (by decide) hf25 (fun _ h9 => h9) rfl dX1_placesLeft_1 ?_
  refine lv_aload_n hx hb dX1_placesLeft_4 rfl (lv_at hl 0 rfl) ?_
  refine va_get (D := D) (ci := 1) (v := .int (gX1_above S)) (C := RX1) (T := TX1) (N := 6) hx hb hts hinX1 hown hK hP 0 rfl rfl 2 (by decide) hf36 (fun _ h9 => h9) rfl dX1_placesLeft_5 ?_
  refine lv_isub hx hb dX1_placesLeft_8 ?_
  exact W.iret (v := ((gX1_places S) - (gX1_above S))) hx hb hr (fun t ht hW => ⟨((gX1_places S) - (gX1_above S)), rfl, some_in h, ht⟩) (fun q hq => nomatch hq) dX1_placesLeft_9
set_option maxHeartbeats 4000000 in
set_option maxRecDepth 100000 in
theorem qX1_isTied (l : Launch) (D : va_G) (cy : Nat → ClassId) (a : Nat → Nat) (o : Nat) (S : SX1) (p1 : Int32) (rs : Int32) (h : DX1_isTied S p1 = some rs) : Met l yX1_isTied wsX1_isTied ({ frames := 2, cells := 0, slots := 0, locals := 43 } : Room) (va_Pc [.ref (a o), .int p1] (fun U => va_P D vwCl (wX1 cy a o S) U.heap ∧ gK D cy U)) (vp_Si (fun z => z = rs)) 0 0 (fun _ => False) := by
  refine Met.ofW (cc := cX1_isTied) (maxL := 2) (ret := (some .boolean)) (by decide) rfl ?_
  intro p e s m args below meth c s₁ B hml hv
  obtain ⟨rfl, hP, hG⟩ := hv
  have hx := B.exec
  have hb := B.bytes
  have hr := B.returns
  have hts := atoms_spec (ws := wsX1_isTied) B.pre
  have hown : s.vm.findClass RX1 = some m.cls := findClass_of_methodNamed B.named
  have hlocks := B.notSynchronized
  have hK := hG.1
  have hinX1 := (by decide +kernel : ∀ w ∈ wsX10, w ∈ wsX1_isTied)
  have hf33 := hts (.fieldLink RX1 33 "PianoRounds$Cut" "line" "I") (by decide +kernel)
  have hl := lv_entry ([.ref (a o), .int p1]) (n := 2) (Nat.le_of_ble_eq_true rfl)
  rw [lg_entry_eq]
  generalize (lg_sl ([.ref (a o), .int p1]) ++ List.replicate (2 - (lg_sl ([.ref (a o), .int p1])).length) Slot.unset).toArray = ls at hl ⊢
  have hl : lv_has ls 2 [(0, .ref (a o)), (1, .int p1)] := hl
  rw [DX1_isTied] at h
  refine lv_aload_n hx hb dX1_isTied_0 rfl (lv_at hl 0 rfl) ?_
  obtain ⟨x1, e2, h⟩ := bd_some h
  refine pcV (As := []) (rest := []) (q0 := 0) (qX1_leavesTie l D cy a o S  x1 e2) ⟨hx, hb, hml, hown, hts⟩ (cwV 0 hts gX1_isTied_X1_leavesTie rfl rfl rfl (by decide +kernel) ⟨Nat.le_of_ble_eq_true rfl, Nat.le_of_ble_eq_true rfl⟩) hG hP rfl rfl rfl hl.1 rfl (Nat.le_of_ble_eq_true rfl) dX1_isTied_1 ⟨Nat.zero_le _, Nat.zero_le _⟩ ?_
  obtain ⟨j4, hj4, h⟩ := jn_elim h
  have Jj4 : ∀ (x3 : Int32) (ls : Array Slot), j4 x3 = some rs → lv_has ls 2 [] → W p l e (headSpec wsX1_isTied ({ frames := 2, cells := 0, slots := 0, locals := 43 } : Room)).room s m ([.ref (a o), .int p1] : List Value).toArray below meth c s.heap [] 0 0 (MQ below (vp_Si (fun z => z = rs)) ([.ref (a o), .int p1] : List Value).toArray s 0 0 (fun _ => False)) (F0 m 33 ls [.int x3]) := by
    intro x3 ls h hl
    rw [hj4] at h
    obtain ⟨g5, h⟩ := gd_some h
    exact W.zret (v := x3) hx hb hr (zN g5) (fun t ht hW => ⟨x3, rfl, some_in h, ht⟩) (fun q hq => nomatch hq) dX1_isTied_33
  obtain ⟨j6, hj6, h⟩ := jn_elim h
  have Jj6 : ∀ (ls : Array Slot), j6 () = some rs → lv_has ls 2 [] → W p l e (headSpec wsX1_isTied ({ frames := 2, cells := 0, slots := 0, locals := 43 } : Room)).room s m ([.ref (a o), .int p1] : List Value).toArray below meth c s.heap [] 0 0 (MQ below (vp_Si (fun z => z = rs)) ([.ref (a o), .int p1] : List Value).toArray s 0 0 (fun _ => False)) (F0 m 32 ls []) := by
    intro ls h hl
    rw [hj6] at h
    refine lv_iconst (v := (0 : Int32)) hx hb dX1_isTied_32 (by decide) ?_
    exact Jj4 (0 : Int32) ls h (lv_sub hl [] rfl)
  refine lv_if_eq (tgt := 32) hx hb dX1_isTied_4 (by decide) (fun cc => ?_) (fun cc => ?_)
  · have h := ite_p cc h
    exact Jj6  ls h (lv_sub hl [] rfl)
  · have h := ite_n cc h
    refine lv_aload_n hx hb dX1_isTied_7 rfl (lv_at hl 0 rfl) ?_
    refine lv_iload_n hx hb dX1_isTied_8 rfl (lv_at hl 1 rfl) ?_
    obtain ⟨x7, e8, h⟩ := bd_some h
    refine pcV (As := [.int p1]) (rest := []) (q0 := 0) (qX1_scoreOf l D cy a o S p1 x7 e8) ⟨hx, hb, hml, hown, hts⟩ (cwV 1 hts gX1_isTied_X1_scoreOf rfl rfl rfl (by decide +kernel) ⟨Nat.le_of_ble_eq_true rfl, Nat.le_of_ble_eq_true rfl⟩) hG hP rfl rfl rfl hl.1 rfl (Nat.le_of_ble_eq_true rfl) dX1_isTied_9 ⟨Nat.zero_le _, Nat.zero_le _⟩ ?_
    refine lv_iconst (v := (-1 : Int32)) hx hb dX1_isTied_12 (by decide) ?_
    refine lv_icmp_eq (tgt := 32) hx hb dX1_isTied_13 (by decide) (fun cc => ?_) (fun cc => ?_)
    · have h := ite_p cc h
      exact Jj6  ls h (lv_sub hl [] rfl)
    · have h := ite_n cc h
      refine lv_aload_n hx hb dX1_isTied_16 rfl (lv_at hl 0 rfl) ?_
      refine lv_iload_n hx hb dX1_isTied_17 rfl (lv_at hl 1 rfl) ?_
      obtain ⟨x9, e10, h⟩ := bd_some h
      refine pcV (As := [.int p1]) (rest := []) (q0 := 0) (qX1_scoreOf l D cy a o S p1 x9 e10) ⟨hx, hb, hml, hown, hts⟩ (cwV 1 hts gX1_isTied_X1_scoreOf rfl rfl rfl (by decide +kernel) ⟨Nat.le_of_ble_eq_true rfl, Nat.le_of_ble_eq_true rfl⟩) hG hP rfl rfl rfl hl.1 rfl (Nat.le_of_ble_eq_true rfl) dX1_isTied_18 ⟨Nat.zero_le _, Nat.zero_le _⟩ ?_
      refine lv_aload_n hx hb dX1_isTied_21 rfl (lv_at hl 0 rfl) ?_
      refine va_get (D := D) (ci := 1) (v := .int (gX1_line S)) (C := RX1) (T := TX1) (N := 6) hx hb hts hinX1 hown hK hP 0 rfl rfl 1 (by decide) hf33 (fun _ h9 => h9) rfl dX1_isTied_22 ?_
      refine lv_icmp_ne (tgt := 32) hx hb dX1_isTied_25 (by decide) (fun cc => ?_) (fun cc => ?_)
      · have h := ite_n cc h
        exact Jj6  ls h (lv_sub hl [] rfl)
      · have h := ite_p cc h
        refine lv_iconst (v := (1 : Int32)) hx hb dX1_isTied_28 (by decide) ?_
        refine lv_goto (tgt := 33) hx hb dX1_isTied_29 (by decide) ?_
        exact Jj4 (1 : Int32) ls h (lv_sub hl [] rfl)
set_option maxHeartbeats 4000000 in
set_option maxRecDepth 100000 in
theorem qX9_startNext (l : Launch) (D : va_G) (cy : Nat → ClassId) (a : Nat → Nat) (o : Nat) (b1 : Nat → Nat) (z1 : Nat) (S : SX9) (T1 : SX1)  (sz : Nat) (rs : SX9) (h : DX9_startNext S T1 = some rs) : Met l yX9_startNext wsX9_startNext ({ frames := 3, cells := 0, slots := 0, locals := 64 } : Room) (mP D cy sz [.ref (a o), .ref (b1 z1)] ((wX9 cy a o S) ++ (wX1 cy b1 z1 T1))) (va_Qv (fun (u : SX9) => u = rs) (fun u t => mB D sz ((wX9 cy a o S) ++ (wX1 cy b1 z1 T1)) ((wX9 cy a o u) ++ (wX1 cy b1 z1 T1)) t) (va_A ((wX9 cy a o S) ++ (wX1 cy b1 z1 T1)) sz)) 0 0 (va_A ((wX9 cy a o S) ++ (wX1 cy b1 z1 T1)) sz) := by
  refine Met.ofW (cc := cX9_startNext) (maxL := 3) (ret := none) (by decide) rfl ?_
  intro p e s m args below meth c s₁ B hml hv
  obtain ⟨rfl, hsz, hP, hG, hD0⟩ := hv
  have hx := B.exec
  have hb := B.bytes
  have hr := B.returns
  have hts := atoms_spec (ws := wsX9_startNext) B.pre
  have hown : s.vm.findClass RX9 = some m.cls := findClass_of_methodNamed B.named
  have hlocks := B.notSynchronized
  have hK := hG.1
  subst hsz
  have hD := hD0.self (sz := s.heap.size)
  have hA : ∀ q : Nat, s.heap.size ≤ q → (va_A ((wX9 cy a o S) ++ (wX1 cy b1 z1 T1)) s.heap.size) q := fun q h => Or.inr h
  have hS : va_S (va_A ((wX9 cy a o S) ++ (wX1 cy b1 z1 T1)) s.heap.size) s.heap s.heap [] := va_S.rf
  have hinX9 := (by decide +kernel : ∀ w ∈ wsX90, w ∈ wsX9_startNext)
  have hf22 := hts (.fieldLink RX9 22 "PianoRounds$Tie" "number" "I") (by decide +kernel)
  have hf26 := hts (.fieldLink RX9 26 "PianoRounds$Tie" "places" "I") (by decide +kernel)
  have hf18 := hts (.fieldLink RX9 18 "PianoRounds$Tie" "sheet" "LPianoRounds$Sheet;") (by decide +kernel)
  have hf9 := hts (.fieldLink RX9 9 "PianoRounds$Tie" "tied" "[I") (by decide +kernel)
  have hl := lv_entry ([.ref (a o), .ref (b1 z1)]) (n := 3) (Nat.le_of_ble_eq_true rfl)
  rw [lg_entry_eq]
  generalize (lg_sl ([.ref (a o), .ref (b1 z1)]) ++ List.replicate (3 - (lg_sl ([.ref (a o), .ref (b1 z1)])).length) Slot.unset).toArray = ls at hl ⊢
  have hl : lv_has ls 3 [(0, .ref (a o)), (1, .ref (b1 z1))] := hl
  rw [DX9_startNext] at h
  refine lv_aload_n hx hb dX9_startNext_0 rfl (lv_at hl 0 rfl) ?_
  refine lv_dup hx hb dX9_startNext_1 rfl ?_
  refine va_get (D := D) (ci := 9) (v := .int (gX9_number S)) (C := RX9) (T := TX9) (N := 4) hx hb hts hinX9 hown hK hP 0 rfl rfl 0 (by decide) hf22 (fun _ h9 => h9) rfl dX9_startNext_2 ?_
  refine lv_iconst (v := (1 : Int32)) hx hb dX9_startNext_5 (by decide) ?_
  refine lv_iadd hx hb dX9_startNext_6 ?_
  refine va_put (D := D) (ci := 9) (v := .int ((gX9_number S) + (1 : Int32))) (ty := .int) (C := RX9) (T := TX9) (N := 4) hx hb hts hinX9 tyX9 tyX9_ok nmX9 hown hK hP hD hS 0 rfl rfl 0 (by decide) hf22 (fun _ h9 => h9) rfl (by decide +kernel) rfl rfl (Nat.le_of_ble_eq_true rfl) dX9_startNext_7 (fun H locs hP hD hS => ?_)
  have hP : va_P D vwCl ((wX9 cy a o (uX9_number S ((gX9_number S) + (1 : Int32)))) ++ (wX1 cy b1 z1 T1)) H := hP
  have hD : va_D (va_A ((wX9 cy a o S) ++ (wX1 cy b1 z1 T1)) s.heap.size) ((wX9 cy a o (uX9_number S ((gX9_number S) + (1 : Int32)))) ++ (wX1 cy b1 z1 T1)) := hD
  obtain ⟨S1, eS2, h⟩ := lt_elim h
  have hP : va_P D vwCl ((wX9 cy a o S1) ++ (wX1 cy b1 z1 T1)) H := by rw [eS2]; exact hP
  have hD : va_D (va_A ((wX9 cy a o S) ++ (wX1 cy b1 z1 T1)) s.heap.size) ((wX9 cy a o S1) ++ (wX1 cy b1 z1 T1)) := by rw [eS2]; exact hD
  refine lv_aload_n hx hb dX9_startNext_10 rfl (lv_at hl 0 rfl) ?_
  refine lv_aload_n hx hb dX9_startNext_11 rfl (lv_at hl 1 rfl) ?_
  obtain ⟨x3, e4, h⟩ := bd_some h
  refine pcV (As := []) (rest := [.ref (a o)]) (q0 := 0) (qX1_placesLeft l D cy b1 z1 T1  x3 e4) ⟨hx, hb, hml, hown, hts⟩ (cwV 0 hts gX9_startNext_X1_placesLeft rfl rfl rfl (by decide +kernel) ⟨Nat.le_of_ble_eq_true rfl, Nat.le_of_ble_eq_true rfl⟩) hG (P_seg (X := (wX9 cy a o S1)) (c := (wX1 cy b1 z1 T1)) (Y := ([] : va_W)) hP (by simp only [List.append_assoc, List.nil_append, List.append_nil] <;> rfl)) rfl rfl rfl hl.1 rfl (Nat.le_of_ble_eq_true rfl) dX9_startNext_12 ⟨Nat.zero_le _, Nat.zero_le _⟩ ?_
  refine va_put (D := D) (ci := 9) (v := .int x3) (ty := .int) (C := RX9) (T := TX9) (N := 4) hx hb hts hinX9 tyX9 tyX9_ok nmX9 hown hK hP hD hS 0 rfl rfl 1 (by decide) hf26 (fun _ h9 => h9) rfl (by decide +kernel) rfl rfl (Nat.le_of_ble_eq_true rfl) dX9_startNext_15 (fun H locs hP hD hS => ?_)
  have hP : va_P D vwCl ((wX9 cy a o (uX9_places S1 x3)) ++ (wX1 cy b1 z1 T1)) H := hP
  have hD : va_D (va_A ((wX9 cy a o S) ++ (wX1 cy b1 z1 T1)) s.heap.size) ((wX9 cy a o (uX9_places S1 x3)) ++ (wX1 cy b1 z1 T1)) := hD
  obtain ⟨S5, eS6, h⟩ := lt_elim h
  have hP : va_P D vwCl ((wX9 cy a o S5) ++ (wX1 cy b1 z1 T1)) H := by rw [eS6]; exact hP
  have hD : va_D (va_A ((wX9 cy a o S) ++ (wX1 cy b1 z1 T1)) s.heap.size) ((wX9 cy a o S5) ++ (wX1 cy b1 z1 T1)) := by rw [eS6]; exact hD
  refine lv_iconst (v := (0 : Int32)) hx hb dX9_startNext_18 (by decide) ?_
  refine lv_istore_n (lv' := [(2, .int (0 : Int32)), (0, .ref (a o)), (1, .ref (b1 z1))]) hx hb dX9_startNext_19 rfl hl (by decide) rfl (fun ls hl => ?_)
  have L23 : ∀ (k8 : SX9 → Option (SX9)) (hk8 : ∀ (S9 : SX9) (H : Heap) (locs : List Loc) (ls : Array Slot), k8 S9 = some rs → va_P D vwCl ((wX9 cy a o S9) ++ (wX1 cy b1 z1 T1)) H → va_D (va_A ((wX9 cy a o S) ++ (wX1 cy b1 z1 T1)) s.heap.size) ((wX9 cy a o S9) ++ (wX1 cy b1 z1 T1)) → va_S (va_A ((wX9 cy a o S) ++ (wX1 cy b1 z1 T1)) s.heap.size) s.heap H locs → lv_has ls 3 [(0, .ref (a o))] → W p l e (headSpec wsX9_startNext ({ frames := 3, cells := 0, slots := 0, locals := 64 } : Room)).room s m ([.ref (a o), .ref (b1 z1)] : List Value).toArray below meth c H locs 0 0 (MQ below (va_Qv (fun (u : SX9) => u = rs) (fun u t => mB D s.heap.size ((wX9 cy a o S) ++ (wX1 cy b1 z1 T1)) ((wX9 cy a o u) ++ (wX1 cy b1 z1 T1)) t) (va_A ((wX9 cy a o S) ++ (wX1 cy b1 z1 T1)) s.heap.size)) ([.ref (a o), .ref (b1 z1)] : List Value).toArray s 0 0 (va_A ((wX9 cy a o S) ++ (wX1 cy b1 z1 T1)) s.heap.size)) (F0 m 51 ls [])) (f : Nat) (v2_15 : Int32) (S7 : SX9) (H : Heap) (locs : List Loc) (ls : Array Slot), DX9_startNext_L20 T1 k8 f v2_15 S7 = some rs → va_P D vwCl ((wX9 cy a o S7) ++ (wX1 cy b1 z1 T1)) H → va_D (va_A ((wX9 cy a o S) ++ (wX1 cy b1 z1 T1)) s.heap.size) ((wX9 cy a o S7) ++ (wX1 cy b1 z1 T1)) → va_S (va_A ((wX9 cy a o S) ++ (wX1 cy b1 z1 T1)) s.heap.size) s.heap H locs → lv_has ls 3 [(0, .ref (a o)), (1, .ref (b1 z1)), (2, .int v2_15)] → W p l e (headSpec wsX9_startNext ({ frames := 3, cells := 0, slots := 0, locals := 64 } : Room)).room s m ([.ref (a o), .ref (b1 z1)] : List Value).toArray below meth c H locs 0 0 (MQ below (va_Qv (fun (u : SX9) => u = rs) (fun u t => mB D s.heap.size ((wX9 cy a o S) ++ (wX1 cy b1 z1 T1)) ((wX9 cy a o u) ++ (wX1 cy b1 z1 T1)) t) (va_A ((wX9 cy a o S) ++ (wX1 cy b1 z1 T1)) s.heap.size)) ([.ref (a o), .ref (b1 z1)] : List Value).toArray s 0 0 (va_A ((wX9 cy a o S) ++ (wX1 cy b1 z1 T1)) s.heap.size)) (F0 m 20 ls []) := by
    intro k8 hk8 f
    induction f with
    | zero =>
      intro v2_15 S7 H locs ls h hP hD hS hl
      rw [DX9_startNext_L20] at h
      cases h
    | succ f ih =>
      intro v2_15 S7 H locs ls h hP hD hS hl
      rw [DX9_startNext_L20] at h
      refine lv_iload_n hx hb dX9_startNext_20 rfl (lv_at hl 2 rfl) ?_
      refine lv_bipush (v := (12 : Int32)) hx hb dX9_startNext_21 (by decide) ?_
      refine lv_icmp_ge (tgt := 51) hx hb dX9_startNext_23 (by decide) (fun cc => ?_) (fun cc => ?_)
      · have h := ite_p cc h
        exact hk8 S7 H locs ls h hP hD hS (lv_sub hl [0] rfl)
      · have h := ite_n cc h
        refine lv_aload_n hx hb dX9_startNext_26 rfl (lv_at hl 0 rfl) ?_
        refine va_get (D := D) (ci := 9) (v := .ref (a (o + 1))) (C := RX9) (T := TX9) (N := 4) hx hb hts hinX9 hown hK hP 0 rfl rfl 2 (by decide) hf9 (fun _ h9 => h9) rfl dX9_startNext_27 ?_
        refine lv_iload_n hx hb dX9_startNext_30 rfl (lv_at hl 2 rfl) ?_
        refine lv_aload_n hx hb dX9_startNext_31 rfl (lv_at hl 1 rfl) ?_
        refine lv_iload_n hx hb dX9_startNext_32 rfl (lv_at hl 2 rfl) ?_
        obtain ⟨x16, e17, h⟩ := bd_some h
        refine pcV (As := [.int v2_15]) (rest := [.int v2_15, .ref (a (o + 1))]) (q0 := 0) (qX1_isTied l D cy b1 z1 T1 v2_15 x16 e17) ⟨hx, hb, hml, hown, hts⟩ (cwV 1 hts gX9_startNext_X1_isTied rfl rfl rfl (by decide +kernel) ⟨Nat.le_of_ble_eq_true rfl, Nat.le_of_ble_eq_true rfl⟩) hG (P_seg (X := (wX9 cy a o S7)) (c := (wX1 cy b1 z1 T1)) (Y := ([] : va_W)) hP (by simp only [List.append_assoc, List.nil_append, List.append_nil] <;> rfl)) rfl rfl rfl hl.1 rfl (Nat.le_of_ble_eq_true rfl) dX9_startNext_33 ⟨Nat.zero_le _, Nat.zero_le _⟩ ?_
        obtain ⟨j19, hj19, h⟩ := jn_elim h
        have Jj19 : ∀ (x18 : Int32) (ls : Array Slot), j19 x18 = some rs → lv_has ls 3 [(0, .ref (a o)), (1, .ref (b1 z1)), (2, .int v2_15)] → W p l e (headSpec wsX9_startNext ({ frames := 3, cells := 0, slots := 0, locals := 64 } : Room)).room s m ([.ref (a o), .ref (b1 z1)] : List Value).toArray below meth c H locs 0 0 (MQ below (va_Qv (fun (u : SX9) => u = rs) (fun u t => mB D s.heap.size ((wX9 cy a o S) ++ (wX1 cy b1 z1 T1)) ((wX9 cy a o u) ++ (wX1 cy b1 z1 T1)) t) (va_A ((wX9 cy a o S) ++ (wX1 cy b1 z1 T1)) s.heap.size)) ([.ref (a o), .ref (b1 z1)] : List Value).toArray s 0 0 (va_A ((wX9 cy a o S) ++ (wX1 cy b1 z1 T1)) s.heap.size)) (F0 m 44 ls [.int x18, .int v2_15, .ref (a (o + 1))]) := by
          intro x18 ls h hl
          rw [hj19] at h
          obtain ⟨g20, h⟩ := gd_some h
          refine r_ast (f := (gX9_tied S7)) (f' := (upd (gX9_tied S7) ((v2_15).toNatClampNeg) x18)) (n := 12) (ws' := ((wX9 cy a o (uX9_tied S7 (upd (gX9_tied S7) ((v2_15).toNatClampNeg) x18))) ++ (wX1 cy b1 z1 T1))) hx hb hK hP hD hS 1 0 rfl rfl (gIn_in g20) rfl rfl dX9_startNext_44 (fun H locs hP hD hS => ?_)
          obtain ⟨S21, eS22, h⟩ := lt_elim h
          have hP : va_P D vwCl ((wX9 cy a o S21) ++ (wX1 cy b1 z1 T1)) H := by rw [eS22]; exact hP
          have hD : va_D (va_A ((wX9 cy a o S) ++ (wX1 cy b1 z1 T1)) s.heap.size) ((wX9 cy a o S21) ++ (wX1 cy b1 z1 T1)) := by rw [eS22]; exact hD
          refine lv_iinc (v := (v2_15 + (1 : Int32))) (lv' := [(2, .int (v2_15 + (1 : Int32))), (0, .ref (a o)), (1, .ref (b1 z1))]) hx hb dX9_startNext_45 hl (k := 2) rfl (by rfl) (by decide) rfl (fun ls hl => ?_)
          refine lv_goto (tgt := 20) hx hb dX9_startNext_48 (by decide) ?_
          exact ih (v2_15 + (1 : Int32)) S21 H locs ls h hP hD hS (lv_sub hl [1, 2, 0] rfl)
        refine lv_if_eq (tgt := 43) hx hb dX9_startNext_36 (by decide) (fun cc => ?_) (fun cc => ?_)
        · have h := ite_p cc h
          refine lv_iconst (v := (0 : Int32)) hx hb dX9_startNext_43 (by decide) ?_
          exact Jj19 (0 : Int32) ls h (lv_sub hl [0, 1, 2] rfl)
        · have h := ite_n cc h
          refine lv_iconst (v := (1 : Int32)) hx hb dX9_startNext_39 (by decide) ?_
          refine lv_goto (tgt := 44) hx hb dX9_startNext_40 (by decide) ?_
          exact Jj19 (1 : Int32) ls h (lv_sub hl [0, 1, 2] rfl)
  refine L23  _ ?_ fu (0 : Int32) S5 H locs ls h hP hD hS (lv_sub hl [1, 2, 0] rfl)
  intro S10 H locs ls h hP hD hS hl
  refine lv_aload_n hx hb dX9_startNext_51 rfl (lv_at hl 0 rfl) ?_
  refine va_get (D := D) (ci := 9) (v := .ref (a (o + 2))) (C := RX9) (T := TX9) (N := 4) hx hb hts hinX9 hown hK hP 0 rfl rfl 3 (by decide) hf18 (fun _ h9 => h9) rfl dX9_startNext_52 ?_
  obtain ⟨x11, e12, h⟩ := bd_some h
  refine smVv (As := []) (rest := []) (ws' := ((wX9 cy a o (uX9_sheet S10 x11)) ++ (wX1 cy b1 z1 T1))) (q0 := 0) (qX6_wipe l D cy a (o + 2) (gX9_sheet S10)  (H).size x11 e12) ⟨hx, hb, hml, hown, hts⟩ (cwV 0 hts gX9_startNext_X6_wipe rfl rfl rfl (by decide +kernel) ⟨Nat.le_of_ble_eq_true rfl, Nat.le_of_ble_eq_true rfl⟩) hG hP hD hS hA (pm1 (X := ((hX9 a o S10) ++ (aW cy a (o + 1) 12 (gX9_tied S10)))) (c := (wX6 cy a (o + 2) (gX9_sheet S10))) (Y := (wX1 cy b1 z1 T1)) (show ((wX9 cy a o S10) ++ (wX1 cy b1 z1 T1)) = ((hX9 a o S10) ++ (aW cy a (o + 1) 12 (gX9_tied S10))) ++ ((wX6 cy a (o + 2) (gX9_sheet S10)) ++ (wX1 cy b1 z1 T1)) from by simp only [wX9, List.append_assoc, List.nil_append, List.append_nil] <;> rfl)) (pm1 (X := ((hX9 a o S10) ++ (aW cy a (o + 1) 12 (gX9_tied S10)))) (c := (wX6 cy a (o + 2) x11)) (Y := (wX1 cy b1 z1 T1)) (show ((wX9 cy a o (uX9_sheet S10 x11)) ++ (wX1 cy b1 z1 T1)) = ((hX9 a o S10) ++ (aW cy a (o + 1) 12 (gX9_tied S10))) ++ ((wX6 cy a (o + 2) x11) ++ (wX1 cy b1 z1 T1)) from by simp only [wX9, List.append_assoc, List.nil_append, List.append_nil] <;> rfl)) rfl rfl rfl hl.1 rfl (Nat.le_of_ble_eq_true rfl) dX9_startNext_55 ⟨Nat.zero_le _, Nat.zero_le _⟩ (fun H locs hP hD hS => ?_)
  obtain ⟨S13, eS14, h⟩ := lt_elim h
  have hP : va_P D vwCl ((wX9 cy a o S13) ++ (wX1 cy b1 z1 T1)) H := by rw [eS14]; exact hP
  have hD : va_D (va_A ((wX9 cy a o S) ++ (wX1 cy b1 z1 T1)) s.heap.size) ((wX9 cy a o S13) ++ (wX1 cy b1 z1 T1)) := by rw [eS14]; exact hD
  exact W.vret hx hb hr (fun t ht hW => ⟨⟨S13, rfl, some_in h, by rw [ht]; exact hP, hD⟩, hS.F ht⟩) hS.2.2 dX9_startNext_58
set_option maxHeartbeats 4000000 in
set_option maxRecDepth 100000 in
theorem qX0_applyCut (l : Launch) (D : va_G) (cy : Nat → ClassId) (a : Nat → Nat) (o : Nat) (S : SX0)  (sz : Nat) (rs : Int32 × SX0) (h : DX0_applyCut S = some rs) : Met l yX0_applyCut wsX0_applyCut ({ frames := 4, cells := 0, slots := 0, locals := 86 } : Room) (mP D cy sz [.ref (a o)] (wX0 cy a o S)) (va_Qi (fun r (u : SX0) => (r, u) = rs) (fun u t => mB D sz (wX0 cy a o S) (wX0 cy a o u) t) (va_A (wX0 cy a o S) sz)) 0 0 (va_A (wX0 cy a o S) sz) := by
  refine Met.ofW (cc := cX0_applyCut) (maxL := 1) (ret := (some .boolean)) (by decide) rfl ?_
  intro p e s m args below meth c s₁ B hml hv
  obtain ⟨rfl, hsz, hP, hG, hD0⟩ := hv
  have hx := B.exec
  have hb := B.bytes
  have hr := B.returns
  have hts := atoms_spec (ws := wsX0_applyCut) B.pre
  have hown : s.vm.findClass RX0 = some m.cls := findClass_of_methodNamed B.named
  have hlocks := B.notSynchronized
  have hK := hG.1
  subst hsz
  have hD := hD0.self (sz := s.heap.size)
  have hA : ∀ q : Nat, s.heap.size ≤ q → (va_A (wX0 cy a o S) s.heap.size) q := fun q h => Or.inr h
  have hS : va_S (va_A (wX0 cy a o S) s.heap.size) s.heap s.heap [] := va_S.rf
  have hinX0 := (by decide +kernel : ∀ w ∈ wsX00, w ∈ wsX0_applyCut)
  have hf81 := hts (.fieldLink RX0 81 "PianoRounds$Competition" "cut" "LPianoRounds$Cut;") (by decide +kernel)
  have hf71 := hts (.fieldLink RX0 71 "PianoRounds$Competition" "tie" "LPianoRounds$Tie;") (by decide +kernel)
  have hf9 := hts (.fieldLink RX0 9 "PianoRounds$Competition" "state" "I") (by decide +kernel)
  have hl := lv_entry ([.ref (a o)]) (n := 1) (Nat.le_of_ble_eq_true rfl)
  rw [lg_entry_eq]
  generalize (lg_sl ([.ref (a o)]) ++ List.replicate (1 - (lg_sl ([.ref (a o)])).length) Slot.unset).toArray = ls at hl ⊢
  have hl : lv_has ls 1 [(0, .ref (a o))] := hl
  rw [DX0_applyCut] at h
  refine lv_aload_n hx hb dX0_applyCut_0 rfl (lv_at hl 0 rfl) ?_
  obtain ⟨x1, e2, h⟩ := bd_some h
  refine smVv (As := []) (rest := []) (ws' := (wX0 cy a o x1)) (q0 := 0) (qX0_putOutThoseBelow l D cy a o S  (s.heap).size x1 e2) ⟨hx, hb, hml, hown, hts⟩ (cwV 0 hts gX0_applyCut_X0_putOutThoseBelow rfl rfl rfl (by decide +kernel) ⟨Nat.le_of_ble_eq_true rfl, Nat.le_of_ble_eq_true rfl⟩) hG hP hD hS hA (pm1 (X := ([] : va_W)) (c := (wX0 cy a o S)) (Y := ([] : va_W)) (show (wX0 cy a o S) = ([] : va_W) ++ ((wX0 cy a o S) ++ ([] : va_W)) from by simp only [List.append_assoc, List.nil_append, List.append_nil] <;> rfl)) (pm1 (X := ([] : va_W)) (c := (wX0 cy a o x1)) (Y := ([] : va_W)) (show (wX0 cy a o x1) = ([] : va_W) ++ ((wX0 cy a o x1) ++ ([] : va_W)) from by simp only [List.append_assoc, List.nil_append, List.append_nil] <;> rfl)) rfl rfl rfl hl.1 rfl (Nat.le_of_ble_eq_true rfl) dX0_applyCut_1 ⟨Nat.zero_le _, Nat.zero_le _⟩ (fun H locs hP hD hS => ?_)
  refine lv_aload_n hx hb dX0_applyCut_4 rfl (lv_at hl 0 rfl) ?_
  refine va_get (D := D) (ci := 0) (v := .ref (a (o + 51))) (C := RX0) (T := TX0) (N := 14) hx hb hts hinX0 hown hK hP 0 rfl rfl 13 (by decide) hf81 (fun _ h9 => h9) rfl dX0_applyCut_5 ?_
  obtain ⟨x3, e4, h⟩ := bd_some h
  refine pcV (As := []) (rest := []) (q0 := 0) (qX1_leavesTie l D cy a (o + 51) (gX0_cut x1)  x3 e4) ⟨hx, hb, hml, hown, hts⟩ (cwV 0 hts gX0_applyCut_X1_leavesTie rfl rfl rfl (by decide +kernel) ⟨Nat.le_of_ble_eq_true rfl, Nat.le_of_ble_eq_true rfl⟩) hG (P_seg (X := ((hX0 a o x1) ++ ((wX10 cy a (o + 1) (gX0_works x1)) ++ ((wX2 cy a (o + 5) (gX0_entrants x1)) ++ ((rowsW (cy 2) (cy 0) a (o + 7) 4 6 (gX0_rules x1)) ++ ((wX4 cy a (o + 12) (gX0_programs x1)) ++ ((wX3 cy a (o + 14) (gX0_jury x1)) ++ ((wX7 cy a (o + 23) (gX0_stage x1)) ++ ((wX6 cy a (o + 26) (gX0_sheet x1)) ++ ((wX9 cy a (o + 35) (gX0_tie x1)) ++ (rowsW (cy 2) (cy 0) a (o + 46) 4 12 (gX0_closedScores x1)))))))))))) (c := (wX1 cy a (o + 51) (gX0_cut x1))) (Y := ([] : va_W)) hP (by simp only [wX0, List.append_assoc, List.nil_append, List.append_nil] <;> rfl)) rfl rfl rfl hl.1 rfl (Nat.le_of_ble_eq_true rfl) dX0_applyCut_8 ⟨Nat.zero_le _, Nat.zero_le _⟩ ?_
  refine lv_if_ne (tgt := 16) hx hb dX0_applyCut_11 (by decide) (fun cc => ?_) (fun cc => ?_)
  · have h := ite_n cc h
    refine lv_aload_n hx hb dX0_applyCut_16 rfl (lv_at hl 0 rfl) ?_
    refine va_get (D := D) (ci := 0) (v := .ref (a (o + 35))) (C := RX0) (T := TX0) (N := 14) hx hb hts hinX0 hown hK hP 0 rfl rfl 11 (by decide) hf71 (fun _ h9 => h9) rfl dX0_applyCut_17 ?_
    refine lv_aload_n hx hb dX0_applyCut_20 rfl (lv_at hl 0 rfl) ?_
    refine va_get (D := D) (ci := 0) (v := .ref (a (o + 51))) (C := RX0) (T := TX0) (N := 14) hx hb hts hinX0 hown hK hP 0 rfl rfl 13 (by decide) hf81 (fun _ h9 => h9) rfl dX0_applyCut_21 ?_
    obtain ⟨x5, e6, h⟩ := bd_some h
    refine smVv (As := [.ref (a (o + 51))]) (rest := []) (ws' := (wX0 cy a o (uX0_tie x1 x5))) (q0 := 0) (qX9_startNext l D cy a (o + 35) a (o + 51) (gX0_tie x1) (gX0_cut x1)  (H).size x5 e6) ⟨hx, hb, hml, hown, hts⟩ (cwV 1 hts gX0_applyCut_X9_startNext rfl rfl rfl (by decide +kernel) ⟨Nat.le_of_ble_eq_true rfl, Nat.le_of_ble_eq_true rfl⟩) hG hP hD hS hA (pm2 (X := ((hX0 a o x1) ++ ((wX10 cy a (o + 1) (gX0_works x1)) ++ ((wX2 cy a (o + 5) (gX0_entrants x1)) ++ ((rowsW (cy 2) (cy 0) a (o + 7) 4 6 (gX0_rules x1)) ++ ((wX4 cy a (o + 12) (gX0_programs x1)) ++ ((wX3 cy a (o + 14) (gX0_jury x1)) ++ ((wX7 cy a (o + 23) (gX0_stage x1)) ++ (wX6 cy a (o + 26) (gX0_sheet x1)))))))))) (c1 := (wX9 cy a (o + 35) (gX0_tie x1))) (Y := (rowsW (cy 2) (cy 0) a (o + 46) 4 12 (gX0_closedScores x1))) (c2 := (wX1 cy a (o + 51) (gX0_cut x1))) (Z := ([] : va_W)) (show (wX0 cy a o x1) = ((hX0 a o x1) ++ ((wX10 cy a (o + 1) (gX0_works x1)) ++ ((wX2 cy a (o + 5) (gX0_entrants x1)) ++ ((rowsW (cy 2) (cy 0) a (o + 7) 4 6 (gX0_rules x1)) ++ ((wX4 cy a (o + 12) (gX0_programs x1)) ++ ((wX3 cy a (o + 14) (gX0_jury x1)) ++ ((wX7 cy a (o + 23) (gX0_stage x1)) ++ (wX6 cy a (o + 26) (gX0_sheet x1))))))))) ++ ((wX9 cy a (o + 35) (gX0_tie x1)) ++ ((rowsW (cy 2) (cy 0) a (o + 46) 4 12 (gX0_closedScores x1)) ++ ((wX1 cy a (o + 51) (gX0_cut x1)) ++ ([] : va_W)))) from by simp only [wX0, List.append_assoc, List.nil_append, List.append_nil] <;> rfl)) (pm2 (X := ((hX0 a o x1) ++ ((wX10 cy a (o + 1) (gX0_works x1)) ++ ((wX2 cy a (o + 5) (gX0_entrants x1)) ++ ((rowsW (cy 2) (cy 0) a (o + 7) 4 6 (gX0_rules x1)) ++ ((wX4 cy a (o + 12) (gX0_programs x1)) ++ ((wX3 cy a (o + 14) (gX0_jury x1)) ++ ((wX7 cy a (o + 23) (gX0_stage x1)) ++ (wX6 cy a (o + 26) (gX0_sheet x1)))))))))) (c1 := (wX9 cy a (o + 35) x5)) (Y := (rowsW (cy 2) (cy 0) a (o + 46) 4 12 (gX0_closedScores x1))) (c2 := (wX1 cy a (o + 51) (gX0_cut x1))) (Z := ([] : va_W)) (show (wX0 cy a o (uX0_tie x1 x5)) = ((hX0 a o x1) ++ ((wX10 cy a (o + 1) (gX0_works x1)) ++ ((wX2 cy a (o + 5) (gX0_entrants x1)) ++ ((rowsW (cy 2) (cy 0) a (o + 7) 4 6 (gX0_rules x1)) ++ ((wX4 cy a (o + 12) (gX0_programs x1)) ++ ((wX3 cy a (o + 14) (gX0_jury x1)) ++ ((wX7 cy a (o + 23) (gX0_stage x1)) ++ (wX6 cy a (o + 26) (gX0_sheet x1))))))))) ++ ((wX9 cy a (o + 35) x5) ++ ((rowsW (cy 2) (cy 0) a (o + 46) 4 12 (gX0_closedScores x1)) ++ ((wX1 cy a (o + 51) (gX0_cut x1)) ++ ([] : va_W)))) from by simp only [wX0, List.append_assoc, List.nil_append, List.append_nil] <;> rfl)) rfl rfl rfl hl.1 rfl (Nat.le_of_ble_eq_true rfl) dX0_applyCut_24 ⟨Nat.zero_le _, Nat.zero_le _⟩ (fun H locs hP hD hS => ?_)
    obtain ⟨S7, eS8, h⟩ := lt_elim h
    have hP : va_P D vwCl (wX0 cy a o S7) H := by rw [eS8]; exact hP
    have hD : va_D (va_A (wX0 cy a o S) s.heap.size) (wX0 cy a o S7) := by rw [eS8]; exact hD
    refine lv_aload_n hx hb dX0_applyCut_27 rfl (lv_at hl 0 rfl) ?_
    refine lv_iconst (v := (2 : Int32)) hx hb dX0_applyCut_28 (by decide) ?_
    refine va_put (D := D) (ci := 0) (v := .int (2 : Int32)) (ty := .int) (C := RX0) (T := TX0) (N := 14) hx hb hts hinX0 tyX0 tyX0_ok nmX0 hown hK hP hD hS 0 rfl rfl 0 (by decide) hf9 (fun _ h9 => h9) rfl (by decide +kernel) rfl rfl (Nat.le_of_ble_eq_true rfl) dX0_applyCut_29 (fun H locs hP hD hS => ?_)
    have hP : va_P D vwCl (wX0 cy a o (uX0_state S7 (2 : Int32))) H := hP
    have hD : va_D (va_A (wX0 cy a o S) s.heap.size) (wX0 cy a o (uX0_state S7 (2 : Int32))) := hD
    obtain ⟨S9, eS10, h⟩ := lt_elim h
    have hP : va_P D vwCl (wX0 cy a o S9) H := by rw [eS10]; exact hP
    have hD : va_D (va_A (wX0 cy a o S) s.heap.size) (wX0 cy a o S9) := by rw [eS10]; exact hD
    refine lv_iconst (v := (0 : Int32)) hx hb dX0_applyCut_32 (by decide) ?_
    exact W.zret (v := (0 : Int32)) hx hb hr rfl (fun t ht hW => ⟨⟨(0 : Int32), S9, rfl, some_in h, by rw [ht]; exact hP, hD⟩, hS.F ht⟩) hS.2.2 dX0_applyCut_33
  · have h := ite_p cc h
    refine lv_iconst (v := (1 : Int32)) hx hb dX0_applyCut_14 (by decide) ?_
    exact W.zret (v := (1 : Int32)) hx hb hr rfl (fun t ht hW => ⟨⟨(1 : Int32), x1, rfl, some_in h, by rw [ht]; exact hP, hD⟩, hS.F ht⟩) hS.2.2 dX0_applyCut_15
set_option maxHeartbeats 4000000 in
set_option maxRecDepth 100000 in
theorem qX0_decideRound (l : Launch) (D : va_G) (cy : Nat → ClassId) (a : Nat → Nat) (o : Nat) (S : SX0)  (sz : Nat) (rs : Int32 × SX0) (h : DX0_decideRound S = some rs) : Met l yX0_decideRound wsX0_decideRound ({ frames := 5, cells := 0, slots := 0, locals := 121 } : Room) (mP D cy sz [.ref (a o)] (wX0 cy a o S)) (va_Qi (fun r (u : SX0) => (r, u) = rs) (fun u t => mB D sz (wX0 cy a o S) (wX0 cy a o u) t) (va_A (wX0 cy a o S) sz)) 0 0 (va_A (wX0 cy a o S) sz) := by
  refine Met.ofW (cc := cX0_decideRound) (maxL := 1) (ret := (some .boolean)) (by decide) rfl ?_
  intro p e s m args below meth c s₁ B hml hv
  obtain ⟨rfl, hsz, hP, hG, hD0⟩ := hv
  have hx := B.exec
  have hb := B.bytes
  have hr := B.returns
  have hts := atoms_spec (ws := wsX0_decideRound) B.pre
  have hown : s.vm.findClass RX0 = some m.cls := findClass_of_methodNamed B.named
  have hlocks := B.notSynchronized
  have hK := hG.1
  subst hsz
  have hD := hD0.self (sz := s.heap.size)
  have hA : ∀ q : Nat, s.heap.size ≤ q → (va_A (wX0 cy a o S) s.heap.size) q := fun q h => Or.inr h
  have hS : va_S (va_A (wX0 cy a o S) s.heap.size) s.heap s.heap [] := va_S.rf
  have hinX0 := (by decide +kernel : ∀ w ∈ wsX00, w ∈ wsX0_decideRound)
  have hf99 := hts (.fieldLink RX0 99 "PianoRounds$Competition" "round" "I") (by decide +kernel)
  have hf81 := hts (.fieldLink RX0 81 "PianoRounds$Competition" "cut" "LPianoRounds$Cut;") (by decide +kernel)
  have hinX1 := (by decide +kernel : ∀ w ∈ wsX10, w ∈ wsX0_decideRound)
  have hf265 := va_Nw.use (A := ([.ref (a o)] : List Value).toArray) (U := s) (w := .fieldLinkNest "PianoRounds$Competition" 265 "PianoRounds$Cut" "scores" "[I" "PianoRounds") rfl (hG.2.1 _ (by decide +kernel))
  have hf75 := hts (.fieldLink RX0 75 "PianoRounds$Competition" "closedScores" "[[I") (by decide +kernel)
  have hl := lv_entry ([.ref (a o)]) (n := 1) (Nat.le_of_ble_eq_true rfl)
  rw [lg_entry_eq]
  generalize (lg_sl ([.ref (a o)]) ++ List.replicate (1 - (lg_sl ([.ref (a o)])).length) Slot.unset).toArray = ls at hl ⊢
  have hl : lv_has ls 1 [(0, .ref (a o))] := hl
  rw [DX0_decideRound] at h
  refine lv_aload_n hx hb dX0_decideRound_0 rfl (lv_at hl 0 rfl) ?_
  obtain ⟨x1, e2, h⟩ := bd_some h
  refine smVv (As := []) (rest := []) (ws' := (wX0 cy a o x1)) (q0 := 0) (qX0_judgeRound l D cy a o S  (s.heap).size x1 e2) ⟨hx, hb, hml, hown, hts⟩ (cwV 0 hts gX0_decideRound_X0_judgeRound rfl rfl rfl (by decide +kernel) ⟨Nat.le_of_ble_eq_true rfl, Nat.le_of_ble_eq_true rfl⟩) hG hP hD hS hA (pm1 (X := ([] : va_W)) (c := (wX0 cy a o S)) (Y := ([] : va_W)) (show (wX0 cy a o S) = ([] : va_W) ++ ((wX0 cy a o S) ++ ([] : va_W)) from by simp only [List.append_assoc, List.nil_append, List.append_nil] <;> rfl)) (pm1 (X := ([] : va_W)) (c := (wX0 cy a o x1)) (Y := ([] : va_W)) (show (wX0 cy a o x1) = ([] : va_W) ++ ((wX0 cy a o x1) ++ ([] : va_W)) from by simp only [List.append_assoc, List.nil_append, List.append_nil] <;> rfl)) rfl rfl rfl hl.1 rfl (Nat.le_of_ble_eq_true rfl) dX0_decideRound_1 ⟨Nat.zero_le _, Nat.zero_le _⟩ (fun H locs hP hD hS => ?_)
  refine lv_aload_n hx hb dX0_decideRound_4 rfl (lv_at hl 0 rfl) ?_
  refine va_get (D := D) (ci := 0) (v := .int (gX0_round x1)) (C := RX0) (T := TX0) (N := 14) hx hb hts hinX0 hown hK hP 0 rfl rfl 1 (by decide) hf99 (fun _ h9 => h9) rfl dX0_decideRound_5 ?_
  refine lv_iconst (v := (0 : Int32)) hx hb dX0_decideRound_8 (by decide) ?_
  refine lv_iconst (v := (3 : Int32)) hx hb dX0_decideRound_9 (by decide) ?_
  obtain ⟨x3, e4, h⟩ := bd_some h
  refine pcSN (As := [.int (gX0_round x1), .int (0 : Int32), .int (3 : Int32)]) (rest := []) (qX11_isBetween l D cy  (gX0_round x1) (0 : Int32) (3 : Int32) x3 e4) ⟨hx, hb, hml, hown, hts⟩ ⟨va_cnB (y := yX11_isBetween) 3 hts gX0_decideRound_X11_isBetween_n255 rfl rfl rfl (hG.2.2.1 (.methodLinkNest "PianoRounds$Competition" 255 ⟨"PianoRounds", "isBetween", "(III)Z"⟩ "PianoRounds") (by decide +kernel)) (hts (.initialized RX11) (by decide +kernel)) (by decide +kernel) ⟨Nat.le_of_ble_eq_true rfl, Nat.le_of_ble_eq_true rfl⟩, hts (.static yX11_isBetween) (by decide +kernel), trivial⟩ hG (hP.sub [] rfl) rfl hl.1 rfl (Nat.le_of_ble_eq_true rfl) dX0_decideRound_10 ⟨Nat.zero_le _, Nat.zero_le _⟩ ?_
  obtain ⟨j6, hj6, h⟩ := jn_elim h
  have Jj6 : ∀ (S5 : SX0) (H : Heap) (locs : List Loc) (ls : Array Slot), j6 S5 = some rs → va_P D vwCl (wX0 cy a o S5) H → va_D (va_A (wX0 cy a o S) s.heap.size) (wX0 cy a o S5) → va_S (va_A (wX0 cy a o S) s.heap.size) s.heap H locs → lv_has ls 1 [(0, .ref (a o))] → W p l e (headSpec wsX0_decideRound ({ frames := 5, cells := 0, slots := 0, locals := 121 } : Room)).room s m ([.ref (a o)] : List Value).toArray below meth c H locs 0 0 (MQ below (va_Qi (fun r (u : SX0) => (r, u) = rs) (fun u t => mB D s.heap.size (wX0 cy a o S) (wX0 cy a o u) t) (va_A (wX0 cy a o S) s.heap.size)) ([.ref (a o)] : List Value).toArray s 0 0 (va_A (wX0 cy a o S) s.heap.size)) (F0 m 35 ls []) := by
    intro S5 H locs ls h hP hD hS hl
    rw [hj6] at h
    refine lv_aload_n hx hb dX0_decideRound_35 rfl (lv_at hl 0 rfl) ?_
    obtain ⟨x7, e8, h⟩ := bd_some h
    refine smVi (As := []) (rest := []) (ws' := (wX0 cy a o x7.2)) (q0 := 0) (qX0_applyCut l D cy a o S5  (H).size x7 e8) ⟨hx, hb, hml, hown, hts⟩ (cwV 0 hts gX0_decideRound_X0_applyCut rfl rfl rfl (by decide +kernel) ⟨Nat.le_of_ble_eq_true rfl, Nat.le_of_ble_eq_true rfl⟩) hG hP hD hS hA (pm1 (X := ([] : va_W)) (c := (wX0 cy a o S5)) (Y := ([] : va_W)) (show (wX0 cy a o S5) = ([] : va_W) ++ ((wX0 cy a o S5) ++ ([] : va_W)) from by simp only [List.append_assoc, List.nil_append, List.append_nil] <;> rfl)) (pm1 (X := ([] : va_W)) (c := (wX0 cy a o x7.2)) (Y := ([] : va_W)) (show (wX0 cy a o x7.2) = ([] : va_W) ++ ((wX0 cy a o x7.2) ++ ([] : va_W)) from by simp only [List.append_assoc, List.nil_append, List.append_nil] <;> rfl)) rfl rfl rfl hl.1 rfl (Nat.le_of_ble_eq_true rfl) dX0_decideRound_36 ⟨Nat.zero_le _, Nat.zero_le _⟩ (fun H locs hP hD hS => ?_)
    obtain ⟨g9, h⟩ := gd_some h
    exact W.zret (v := x7.1) hx hb hr (zN g9) (fun t ht hW => ⟨⟨x7.1, x7.2, rfl, some_in h, by rw [ht]; exact hP, hD⟩, hS.F ht⟩) hS.2.2 dX0_decideRound_39
  refine lv_if_eq (tgt := 35) hx hb dX0_decideRound_13 (by decide) (fun cc => ?_) (fun cc => ?_)
  · have h := ite_p cc h
    exact Jj6 x1 H locs ls h hP hD hS (lv_sub hl [0] rfl)
  · have h := ite_n cc h
    refine lv_aload_n hx hb dX0_decideRound_16 rfl (lv_at hl 0 rfl) ?_
    refine va_get (D := D) (ci := 0) (v := .ref (a (o + 51))) (C := RX0) (T := TX0) (N := 14) hx hb hts hinX0 hown hK hP 0 rfl rfl 13 (by decide) hf81 (fun _ h9 => h9) rfl dX0_decideRound_17 ?_
    refine va_getN (D := D) (ci := 1) (v := .ref (a (o + 51 + 1))) (C := RX1) (T := TX1) (N := 6) hx hb hts hinX1 hown hK hP 51 rfl rfl 5 (by decide) hf265 (fun _ h9 => h9) rfl dX0_decideRound_20 ?_
    refine lv_aload_n hx hb dX0_decideRound_23 rfl (lv_at hl 0 rfl) ?_
    refine va_get (D := D) (ci := 0) (v := .ref (a (o + 46))) (C := RX0) (T := TX0) (N := 14) hx hb hts hinX0 hown hK hP 0 rfl rfl 12 (by decide) hf75 (fun _ h9 => h9) rfl dX0_decideRound_24 ?_
    refine lv_aload_n hx hb dX0_decideRound_27 rfl (lv_at hl 0 rfl) ?_
    refine va_get (D := D) (ci := 0) (v := .int (gX0_round x1)) (C := RX0) (T := TX0) (N := 14) hx hb hts hinX0 hown hK hP 0 rfl rfl 1 (by decide) hf99 (fun _ h9 => h9) rfl dX0_decideRound_28 ?_
    obtain ⟨g10, h⟩ := gd_some h
    refine r_aldR (n := 4) (o := o + 46) (ad := a) (j := ((gX0_round x1)).toNatClampNeg) hx hb hK hP 46 2 rfl rfl (gIn_in g10) rfl dX0_decideRound_31 ?_
    refine mcC2 (x0 := ((a (o + 51 + 1)), .inl (cy 0, 12, .inl (gX1_scores (gX0_cut x1))))) (b := (a (o + 46 + 1 + (((gX0_round x1)).toNatClampNeg)))) (e0 := .inl (cy 0, 12, .inl ((gX0_closedScores x1) (((gX0_round x1)).toNatClampNeg)))) (e1 := .inl (cy 0, 12, .inl (gX1_scores (gX0_cut x1)))) (ws' := (wX0 cy a o (uX0_closedScores x1 (upd2 (gX0_closedScores x1) (((gX0_round x1)).toNatClampNeg) (gX1_scores (gX0_cut x1)))))) (fun hp => va_runSN (As := [.ref (a (o + 51 + 1)), .ref (a (o + 46 + 1 + (((gX0_round x1)).toNatClampNeg)))]) (rest := []) ⟨hx, hb, hml, hown, hts⟩ (qX11_copyRow l D cy (a (o + 51 + 1)) (a (o + 46 + 1 + (((gX0_round x1)).toNatClampNeg))) 12 (by decide) (gX1_scores (gX0_cut x1)) ((gX0_closedScores x1) (((gX0_round x1)).toNatClampNeg)) (H).size) ⟨va_cnB (y := yX11_copyRow) 2 hts gX0_decideRound_X11_copyRow_n89 rfl rfl rfl (hG.2.2.1 (.methodLinkNest "PianoRounds$Competition" 89 ⟨"PianoRounds", "copyRow", "([I[I)V"⟩ "PianoRounds") (by decide +kernel)) (hts (.initialized RX11) (by decide +kernel)) (by decide +kernel) ⟨Nat.le_of_ble_eq_true rfl, Nat.le_of_ble_eq_true rfl⟩, hts (.static yX11_copyRow) (by decide +kernel), trivial⟩ hp rfl rfl hl.1 rfl (lv_room (Nat.le_of_ble_eq_true rfl)) dX0_decideRound_32 ⟨Nat.zero_le _, Nat.zero_le _⟩) hG hP hD hS hA 52 (46 + 1 + (((gX0_round x1)).toNatClampNeg)) rfl (all4 (P := fun j => (wX0 cy a o x1)[46 + 1 + j]? = some (a (o + 46 + 1 + j), .inl (cy 0, 12, .inl ((gX0_closedScores x1) j)))) rfl rfl rfl rfl _ (gIn_lt g10)) (by have h91 := (gIn_lt g10); omega) (all4 (P := fun j => (wX0 cy a o x1).set (46 + 1 + j) (a (o + 46 + 1 + j), .inl (cy 0, 12, .inl (gX1_scores (gX0_cut x1)))) = (wX0 cy a o (uX0_closedScores x1 (upd2 (gX0_closedScores x1) j (gX1_scores (gX0_cut x1)))))) rfl rfl rfl rfl _ (gIn_lt g10)) (fun H locs hP hD hS => ?_)
    obtain ⟨S11, eS12, h⟩ := lt_elim h
    have hP : va_P D vwCl (wX0 cy a o S11) H := by rw [eS12]; exact hP
    have hD : va_D (va_A (wX0 cy a o S) s.heap.size) (wX0 cy a o S11) := by rw [eS12]; exact hD
    exact Jj6 S11 H locs ls h hP hD hS (lv_sub hl [0] rfl)
set_option maxHeartbeats 4000000 in
set_option maxRecDepth 100000 in
theorem qX0_breakTieByStageOrder (l : Launch) (D : va_G) (cy : Nat → ClassId) (a : Nat → Nat) (o : Nat) (S : SX0)  (sz : Nat) (rs : SX0) (h : DX0_breakTieByStageOrder S = some rs) : Met l yX0_breakTieByStageOrder wsX0_breakTieByStageOrder ({ frames := 3, cells := 0, slots := 0, locals := 64 } : Room) (mP D cy sz [.ref (a o)] (wX0 cy a o S)) (va_Qv (fun (u : SX0) => u = rs) (fun u t => mB D sz (wX0 cy a o S) (wX0 cy a o u) t) (va_A (wX0 cy a o S) sz)) 0 0 (va_A (wX0 cy a o S) sz) := by
  refine Met.ofW (cc := cX0_breakTieByStageOrder) (maxL := 4) (ret := none) (by decide) rfl ?_
  intro p e s m args below meth c s₁ B hml hv
  obtain ⟨rfl, hsz, hP, hG, hD0⟩ := hv
  have hx := B.exec
  have hb := B.bytes
  have hr := B.returns
  have hts := atoms_spec (ws := wsX0_breakTieByStageOrder) B.pre
  have hown : s.vm.findClass RX0 = some m.cls := findClass_of_methodNamed B.named
  have hlocks := B.notSynchronized
  have hK := hG.1
  subst hsz
  have hD := hD0.self (sz := s.heap.size)
  have hA : ∀ q : Nat, s.heap.size ≤ q → (va_A (wX0 cy a o S) s.heap.size) q := fun q h => Or.inr h
  have hS : va_S (va_A (wX0 cy a o S) s.heap.size) s.heap s.heap [] := va_S.rf
  have hinX0 := (by decide +kernel : ∀ w ∈ wsX00, w ∈ wsX0_breakTieByStageOrder)
  have hf81 := hts (.fieldLink RX0 81 "PianoRounds$Competition" "cut" "LPianoRounds$Cut;") (by decide +kernel)
  have hf57 := hts (.fieldLink RX0 57 "PianoRounds$Competition" "stage" "LPianoRounds$Stage;") (by decide +kernel)
  have hinX7 := (by decide +kernel : ∀ w ∈ wsX70, w ∈ wsX0_breakTieByStageOrder)
  have hf139 := va_Nw.use (A := ([.ref (a o)] : List Value).toArray) (U := s) (w := .fieldLinkNest "PianoRounds$Competition" 139 "PianoRounds$Stage" "players" "I" "PianoRounds") rfl (hG.2.1 _ (by decide +kernel))
  have hf31 := hts (.fieldLink RX0 31 "PianoRounds$Competition" "entrants" "LPianoRounds$Entrants;") (by decide +kernel)
  have hl := lv_entry ([.ref (a o)]) (n := 4) (Nat.le_of_ble_eq_true rfl)
  rw [lg_entry_eq]
  generalize (lg_sl ([.ref (a o)]) ++ List.replicate (4 - (lg_sl ([.ref (a o)])).length) Slot.unset).toArray = ls at hl ⊢
  have hl : lv_has ls 4 [(0, .ref (a o))] := hl
  rw [DX0_breakTieByStageOrder] at h
  refine lv_aload_n hx hb dX0_breakTieByStageOrder_0 rfl (lv_at hl 0 rfl) ?_
  refine va_get (D := D) (ci := 0) (v := .ref (a (o + 51))) (C := RX0) (T := TX0) (N := 14) hx hb hts hinX0 hown hK hP 0 rfl rfl 13 (by decide) hf81 (fun _ h9 => h9) rfl dX0_breakTieByStageOrder_1 ?_
  obtain ⟨x1, e2, h⟩ := bd_some h
  refine pcV (As := []) (rest := []) (q0 := 0) (qX1_placesLeft l D cy a (o + 51) (gX0_cut S)  x1 e2) ⟨hx, hb, hml, hown, hts⟩ (cwV 0 hts gX0_breakTieByStageOrder_X1_placesLeft rfl rfl rfl (by decide +kernel) ⟨Nat.le_of_ble_eq_true rfl, Nat.le_of_ble_eq_true rfl⟩) hG (P_seg (X := ((hX0 a o S) ++ ((wX10 cy a (o + 1) (gX0_works S)) ++ ((wX2 cy a (o + 5) (gX0_entrants S)) ++ ((rowsW (cy 2) (cy 0) a (o + 7) 4 6 (gX0_rules S)) ++ ((wX4 cy a (o + 12) (gX0_programs S)) ++ ((wX3 cy a (o + 14) (gX0_jury S)) ++ ((wX7 cy a (o + 23) (gX0_stage S)) ++ ((wX6 cy a (o + 26) (gX0_sheet S)) ++ ((wX9 cy a (o + 35) (gX0_tie S)) ++ (rowsW (cy 2) (cy 0) a (o + 46) 4 12 (gX0_closedScores S)))))))))))) (c := (wX1 cy a (o + 51) (gX0_cut S))) (Y := ([] : va_W)) hP (by simp only [wX0, List.append_assoc, List.nil_append, List.append_nil] <;> rfl)) rfl rfl rfl hl.1 rfl (Nat.le_of_ble_eq_true rfl) dX0_breakTieByStageOrder_4 ⟨Nat.zero_le _, Nat.zero_le _⟩ ?_
  refine lv_istore_n (lv' := [(1, .int x1), (0, .ref (a o))]) hx hb dX0_breakTieByStageOrder_7 rfl hl (by decide) rfl (fun ls hl => ?_)
  refine lv_iconst (v := (0 : Int32)) hx hb dX0_breakTieByStageOrder_8 (by decide) ?_
  refine lv_istore_n (lv' := [(2, .int (0 : Int32)), (1, .int x1), (0, .ref (a o))]) hx hb dX0_breakTieByStageOrder_9 rfl hl (by decide) rfl (fun ls hl => ?_)
  have L20 : ∀ (k4 : SX0 → Option (SX0)) (hk4 : ∀ (S5 : SX0) (H : Heap) (locs : List Loc) (ls : Array Slot), k4 S5 = some rs → va_P D vwCl (wX0 cy a o S5) H → va_D (va_A (wX0 cy a o S) s.heap.size) (wX0 cy a o S5) → va_S (va_A (wX0 cy a o S) s.heap.size) s.heap H locs → lv_has ls 4 [] → W p l e (headSpec wsX0_breakTieByStageOrder ({ frames := 3, cells := 0, slots := 0, locals := 64 } : Room)).room s m ([.ref (a o)] : List Value).toArray below meth c H locs 0 0 (MQ below (va_Qv (fun (u : SX0) => u = rs) (fun u t => mB D s.heap.size (wX0 cy a o S) (wX0 cy a o u) t) (va_A (wX0 cy a o S) s.heap.size)) ([.ref (a o)] : List Value).toArray s 0 0 (va_A (wX0 cy a o S) s.heap.size)) (F0 m 62 ls [])) (f : Nat) (v1_7 : Int32) (v2_8 : Int32) (S3 : SX0) (H : Heap) (locs : List Loc) (ls : Array Slot), DX0_breakTieByStageOrder_L10 k4 f v1_7 v2_8 S3 = some rs → va_P D vwCl (wX0 cy a o S3) H → va_D (va_A (wX0 cy a o S) s.heap.size) (wX0 cy a o S3) → va_S (va_A (wX0 cy a o S) s.heap.size) s.heap H locs → lv_has ls 4 [(0, .ref (a o)), (1, .int v1_7), (2, .int v2_8)] → W p l e (headSpec wsX0_breakTieByStageOrder ({ frames := 3, cells := 0, slots := 0, locals := 64 } : Room)).room s m ([.ref (a o)] : List Value).toArray below meth c H locs 0 0 (MQ below (va_Qv (fun (u : SX0) => u = rs) (fun u t => mB D s.heap.size (wX0 cy a o S) (wX0 cy a o u) t) (va_A (wX0 cy a o S) s.heap.size)) ([.ref (a o)] : List Value).toArray s 0 0 (va_A (wX0 cy a o S) s.heap.size)) (F0 m 10 ls []) := by
    intro k4 hk4 f
    induction f with
    | zero =>
      intro v1_7 v2_8 S3 H locs ls h hP hD hS hl
      rw [DX0_breakTieByStageOrder_L10] at h
      cases h
    | succ f ih =>
      intro v1_7 v2_8 S3 H locs ls h hP hD hS hl
      rw [DX0_breakTieByStageOrder_L10] at h
      refine lv_iload_n hx hb dX0_breakTieByStageOrder_10 rfl (lv_at hl 2 rfl) ?_
      refine lv_aload_n hx hb dX0_breakTieByStageOrder_11 rfl (lv_at hl 0 rfl) ?_
      refine va_get (D := D) (ci := 0) (v := .ref (a (o + 23))) (C := RX0) (T := TX0) (N := 14) hx hb hts hinX0 hown hK hP 0 rfl rfl 9 (by decide) hf57 (fun _ h9 => h9) rfl dX0_breakTieByStageOrder_12 ?_
      refine va_getN (D := D) (ci := 7) (v := .int (gX7_players (gX0_stage S3))) (C := RX7) (T := TX7) (N := 5) hx hb hts hinX7 hown hK hP 23 rfl rfl 0 (by decide) hf139 (fun _ h9 => h9) rfl dX0_breakTieByStageOrder_15 ?_
      refine lv_icmp_ge (tgt := 62) hx hb dX0_breakTieByStageOrder_18 (by decide) (fun cc => ?_) (fun cc => ?_)
      · have h := ite_p cc h
        exact hk4 S3 H locs ls h hP hD hS (lv_sub hl [] rfl)
      · have h := ite_n cc h
        refine lv_aload_n hx hb dX0_breakTieByStageOrder_21 rfl (lv_at hl 0 rfl) ?_
        refine va_get (D := D) (ci := 0) (v := .ref (a (o + 23))) (C := RX0) (T := TX0) (N := 14) hx hb hts hinX0 hown hK hP 0 rfl rfl 9 (by decide) hf57 (fun _ h9 => h9) rfl dX0_breakTieByStageOrder_22 ?_
        refine lv_iload_n hx hb dX0_breakTieByStageOrder_25 rfl (lv_at hl 2 rfl) ?_
        obtain ⟨x9, e10, h⟩ := bd_some h
        refine pcV (As := [.int v2_8]) (rest := []) (q0 := 0) (qX7_playerAt l D cy a (o + 23) (gX0_stage S3) v2_8 x9 e10) ⟨hx, hb, hml, hown, hts⟩ (cwV 1 hts gX0_breakTieByStageOrder_X7_playerAt rfl rfl rfl (by decide +kernel) ⟨Nat.le_of_ble_eq_true rfl, Nat.le_of_ble_eq_true rfl⟩) hG (P_seg (X := ((hX0 a o S3) ++ ((wX10 cy a (o + 1) (gX0_works S3)) ++ ((wX2 cy a (o + 5) (gX0_entrants S3)) ++ ((rowsW (cy 2) (cy 0) a (o + 7) 4 6 (gX0_rules S3)) ++ ((wX4 cy a (o + 12) (gX0_programs S3)) ++ (wX3 cy a (o + 14) (gX0_jury S3)))))))) (c := (wX7 cy a (o + 23) (gX0_stage S3))) (Y := ((wX6 cy a (o + 26) (gX0_sheet S3)) ++ ((wX9 cy a (o + 35) (gX0_tie S3)) ++ ((rowsW (cy 2) (cy 0) a (o + 46) 4 12 (gX0_closedScores S3)) ++ (wX1 cy a (o + 51) (gX0_cut S3)))))) hP (by simp only [wX0, List.append_assoc, List.nil_append, List.append_nil] <;> rfl)) rfl rfl rfl hl.1 rfl (Nat.le_of_ble_eq_true rfl) dX0_breakTieByStageOrder_26 ⟨Nat.zero_le _, Nat.zero_le _⟩ ?_
        refine lv_istore_n (lv' := [(3, .int x9), (0, .ref (a o)), (1, .int v1_7), (2, .int v2_8)]) hx hb dX0_breakTieByStageOrder_29 rfl hl (by decide) rfl (fun ls hl => ?_)
        refine lv_aload_n hx hb dX0_breakTieByStageOrder_30 rfl (lv_at hl 1 rfl) ?_
        refine va_get (D := D) (ci := 0) (v := .ref (a (o + 51))) (C := RX0) (T := TX0) (N := 14) hx hb hts hinX0 hown hK hP 0 rfl rfl 13 (by decide) hf81 (fun _ h9 => h9) rfl dX0_breakTieByStageOrder_31 ?_
        refine lv_iload_n hx hb dX0_breakTieByStageOrder_34 rfl (lv_at hl 0 rfl) ?_
        obtain ⟨x11, e12, h⟩ := bd_some h
        refine pcV (As := [.int x9]) (rest := []) (q0 := 0) (qX1_isTied l D cy a (o + 51) (gX0_cut S3) x9 x11 e12) ⟨hx, hb, hml, hown, hts⟩ (cwV 1 hts gX0_breakTieByStageOrder_X1_isTied rfl rfl rfl (by decide +kernel) ⟨Nat.le_of_ble_eq_true rfl, Nat.le_of_ble_eq_true rfl⟩) hG (P_seg (X := ((hX0 a o S3) ++ ((wX10 cy a (o + 1) (gX0_works S3)) ++ ((wX2 cy a (o + 5) (gX0_entrants S3)) ++ ((rowsW (cy 2) (cy 0) a (o + 7) 4 6 (gX0_rules S3)) ++ ((wX4 cy a (o + 12) (gX0_programs S3)) ++ ((wX3 cy a (o + 14) (gX0_jury S3)) ++ ((wX7 cy a (o + 23) (gX0_stage S3)) ++ ((wX6 cy a (o + 26) (gX0_sheet S3)) ++ ((wX9 cy a (o + 35) (gX0_tie S3)) ++ (rowsW (cy 2) (cy 0) a (o + 46) 4 12 (gX0_closedScores S3)))))))))))) (c := (wX1 cy a (o + 51) (gX0_cut S3))) (Y := ([] : va_W)) hP (by simp only [wX0, List.append_assoc, List.nil_append, List.append_nil] <;> rfl)) rfl rfl rfl hl.1 rfl (Nat.le_of_ble_eq_true rfl) dX0_breakTieByStageOrder_35 ⟨Nat.zero_le _, Nat.zero_le _⟩ ?_
        obtain ⟨j15, hj15, h⟩ := jn_elim h
        have Jj15 : ∀ (v1_13 : Int32) (S14 : SX0) (H : Heap) (locs : List Loc) (ls : Array Slot), j15 v1_13 S14 = some rs → va_P D vwCl (wX0 cy a o S14) H → va_D (va_A (wX0 cy a o S) s.heap.size) (wX0 cy a o S14) → va_S (va_A (wX0 cy a o S) s.heap.size) s.heap H locs → lv_has ls 4 [(0, .ref (a o)), (1, .int v1_13), (2, .int v2_8)] → W p l e (headSpec wsX0_breakTieByStageOrder ({ frames := 3, cells := 0, slots := 0, locals := 64 } : Room)).room s m ([.ref (a o)] : List Value).toArray below meth c H locs 0 0 (MQ below (va_Qv (fun (u : SX0) => u = rs) (fun u t => mB D s.heap.size (wX0 cy a o S) (wX0 cy a o u) t) (va_A (wX0 cy a o S) s.heap.size)) ([.ref (a o)] : List Value).toArray s 0 0 (va_A (wX0 cy a o S) s.heap.size)) (F0 m 56 ls []) := by
          intro v1_13 S14 H locs ls h hP hD hS hl
          rw [hj15] at h
          refine lv_iinc (v := (v2_8 + (1 : Int32))) (lv' := [(2, .int (v2_8 + (1 : Int32))), (0, .ref (a o)), (1, .int v1_13)]) hx hb dX0_breakTieByStageOrder_56 hl (k := 2) rfl (by rfl) (by decide) rfl (fun ls hl => ?_)
          refine lv_goto (tgt := 10) hx hb dX0_breakTieByStageOrder_59 (by decide) ?_
          exact ih v1_13 (v2_8 + (1 : Int32)) S14 H locs ls h hP hD hS (lv_sub hl [1, 2, 0] rfl)
        refine lv_if_eq (tgt := 56) hx hb dX0_breakTieByStageOrder_38 (by decide) (fun cc => ?_) (fun cc => ?_)
        · have h := ite_p cc h
          exact Jj15 v1_7 S3 H locs ls h hP hD hS (lv_sub hl [1, 2, 3] rfl)
        · have h := ite_n cc h
          refine lv_iinc (v := (v1_7 + (-1 : Int32))) (lv' := [(1, .int (v1_7 + (-1 : Int32))), (3, .int x9), (0, .ref (a o)), (2, .int v2_8)]) hx hb dX0_breakTieByStageOrder_41 hl (k := 2) rfl (by rfl) (by decide) rfl (fun ls hl => ?_)
          refine lv_iload_n hx hb dX0_breakTieByStageOrder_44 rfl (lv_at hl 0 rfl) ?_
          refine lv_if_ge (tgt := 56) hx hb dX0_breakTieByStageOrder_45 (by decide) (fun cc => ?_) (fun cc => ?_)
          · have h := ite_p cc h
            exact Jj15 (v1_7 + (-1 : Int32)) S3 H locs ls h hP hD hS (lv_sub hl [2, 0, 3] rfl)
          · have h := ite_n cc h
            refine lv_aload_n hx hb dX0_breakTieByStageOrder_48 rfl (lv_at hl 2 rfl) ?_
            refine va_get (D := D) (ci := 0) (v := .ref (a (o + 5))) (C := RX0) (T := TX0) (N := 14) hx hb hts hinX0 hown hK hP 0 rfl rfl 5 (by decide) hf31 (fun _ h9 => h9) rfl dX0_breakTieByStageOrder_49 ?_
            refine lv_iload_n hx hb dX0_breakTieByStageOrder_52 rfl (lv_at hl 1 rfl) ?_
            obtain ⟨x16, e17, h⟩ := bd_some h
            refine smVv (As := [.int x9]) (rest := []) (ws' := (wX0 cy a o (uX0_entrants S3 x16))) (q0 := 0) (qX2_putOut l D cy a (o + 5) (gX0_entrants S3) x9 (H).size x16 e17) ⟨hx, hb, hml, hown, hts⟩ (cwV 1 hts gX0_breakTieByStageOrder_X2_putOut rfl rfl rfl (by decide +kernel) ⟨Nat.le_of_ble_eq_true rfl, Nat.le_of_ble_eq_true rfl⟩) hG hP hD hS hA (pm1 (X := ((hX0 a o S3) ++ (wX10 cy a (o + 1) (gX0_works S3)))) (c := (wX2 cy a (o + 5) (gX0_entrants S3))) (Y := ((rowsW (cy 2) (cy 0) a (o + 7) 4 6 (gX0_rules S3)) ++ ((wX4 cy a (o + 12) (gX0_programs S3)) ++ ((wX3 cy a (o + 14) (gX0_jury S3)) ++ ((wX7 cy a (o + 23) (gX0_stage S3)) ++ ((wX6 cy a (o + 26) (gX0_sheet S3)) ++ ((wX9 cy a (o + 35) (gX0_tie S3)) ++ ((rowsW (cy 2) (cy 0) a (o + 46) 4 12 (gX0_closedScores S3)) ++ (wX1 cy a (o + 51) (gX0_cut S3)))))))))) (show (wX0 cy a o S3) = ((hX0 a o S3) ++ (wX10 cy a (o + 1) (gX0_works S3))) ++ ((wX2 cy a (o + 5) (gX0_entrants S3)) ++ ((rowsW (cy 2) (cy 0) a (o + 7) 4 6 (gX0_rules S3)) ++ ((wX4 cy a (o + 12) (gX0_programs S3)) ++ ((wX3 cy a (o + 14) (gX0_jury S3)) ++ ((wX7 cy a (o + 23) (gX0_stage S3)) ++ ((wX6 cy a (o + 26) (gX0_sheet S3)) ++ ((wX9 cy a (o + 35) (gX0_tie S3)) ++ ((rowsW (cy 2) (cy 0) a (o + 46) 4 12 (gX0_closedScores S3)) ++ (wX1 cy a (o + 51) (gX0_cut S3)))))))))) from by simp only [wX0, List.append_assoc, List.nil_append, List.append_nil] <;> rfl)) (pm1 (X := ((hX0 a o S3) ++ (wX10 cy a (o + 1) (gX0_works S3)))) (c := (wX2 cy a (o + 5) x16)) (Y := ((rowsW (cy 2) (cy 0) a (o + 7) 4 6 (gX0_rules S3)) ++ ((wX4 cy a (o + 12) (gX0_programs S3)) ++ ((wX3 cy a (o + 14) (gX0_jury S3)) ++ ((wX7 cy a (o + 23) (gX0_stage S3)) ++ ((wX6 cy a (o + 26) (gX0_sheet S3)) ++ ((wX9 cy a (o + 35) (gX0_tie S3)) ++ ((rowsW (cy 2) (cy 0) a (o + 46) 4 12 (gX0_closedScores S3)) ++ (wX1 cy a (o + 51) (gX0_cut S3)))))))))) (show (wX0 cy a o (uX0_entrants S3 x16)) = ((hX0 a o S3) ++ (wX10 cy a (o + 1) (gX0_works S3))) ++ ((wX2 cy a (o + 5) x16) ++ ((rowsW (cy 2) (cy 0) a (o + 7) 4 6 (gX0_rules S3)) ++ ((wX4 cy a (o + 12) (gX0_programs S3)) ++ ((wX3 cy a (o + 14) (gX0_jury S3)) ++ ((wX7 cy a (o + 23) (gX0_stage S3)) ++ ((wX6 cy a (o + 26) (gX0_sheet S3)) ++ ((wX9 cy a (o + 35) (gX0_tie S3)) ++ ((rowsW (cy 2) (cy 0) a (o + 46) 4 12 (gX0_closedScores S3)) ++ (wX1 cy a (o + 51) (gX0_cut S3)))))))))) from by simp only [wX0, List.append_assoc, List.nil_append, List.append_nil] <;> rfl)) rfl rfl rfl hl.1 rfl (Nat.le_of_ble_eq_true rfl) dX0_breakTieByStageOrder_53 ⟨Nat.zero_le _, Nat.zero_le _⟩ (fun H locs hP hD hS => ?_)
            obtain ⟨S18, eS19, h⟩ := lt_elim h
            have hP : va_P D vwCl (wX0 cy a o S18) H := by rw [eS19]; exact hP
            have hD : va_D (va_A (wX0 cy a o S) s.heap.size) (wX0 cy a o S18) := by rw [eS19]; exact hD
            exact Jj15 (v1_7 + (-1 : Int32)) S18 H locs ls h hP hD hS (lv_sub hl [2, 0, 3] rfl)
  refine L20  _ ?_ fu x1 (0 : Int32) S s.heap [] ls h hP hD hS (lv_sub hl [2, 1, 0] rfl)
  intro S6 H locs ls h hP hD hS hl
  exact W.vret hx hb hr (fun t ht hW => ⟨⟨S6, rfl, some_in h, by rw [ht]; exact hP, hD⟩, hS.F ht⟩) hS.2.2 dX0_breakTieByStageOrder_62
set_option maxHeartbeats 4000000 in
set_option maxRecDepth 100000 in
theorem qX0_decideTieRound (l : Launch) (D : va_G) (cy : Nat → ClassId) (a : Nat → Nat) (o : Nat) (S : SX0)  (sz : Nat) (rs : Int32 × SX0) (h : DX0_decideTieRound S = some rs) : Met l yX0_decideTieRound wsX0_decideTieRound ({ frames := 5, cells := 0, slots := 0, locals := 106 } : Room) (mP D cy sz [.ref (a o)] (wX0 cy a o S)) (va_Qi (fun r (u : SX0) => (r, u) = rs) (fun u t => mB D sz (wX0 cy a o S) (wX0 cy a o u) t) (va_A (wX0 cy a o S) sz)) 0 0 (va_A (wX0 cy a o S) sz) := by
  refine Met.ofW (cc := cX0_decideTieRound) (maxL := 1) (ret := (some .boolean)) (by decide) rfl ?_
  intro p e s m args below meth c s₁ B hml hv
  obtain ⟨rfl, hsz, hP, hG, hD0⟩ := hv
  have hx := B.exec
  have hb := B.bytes
  have hr := B.returns
  have hts := atoms_spec (ws := wsX0_decideTieRound) B.pre
  have hown : s.vm.findClass RX0 = some m.cls := findClass_of_methodNamed B.named
  have hlocks := B.notSynchronized
  have hK := hG.1
  subst hsz
  have hD := hD0.self (sz := s.heap.size)
  have hA : ∀ q : Nat, s.heap.size ≤ q → (va_A (wX0 cy a o S) s.heap.size) q := fun q h => Or.inr h
  have hS : va_S (va_A (wX0 cy a o S) s.heap.size) s.heap s.heap [] := va_S.rf
  have hinX0 := (by decide +kernel : ∀ w ∈ wsX00, w ∈ wsX0_decideTieRound)
  have hf71 := hts (.fieldLink RX0 71 "PianoRounds$Competition" "tie" "LPianoRounds$Tie;") (by decide +kernel)
  have hinX9 := (by decide +kernel : ∀ w ∈ wsX90, w ∈ wsX0_decideTieRound)
  have hf150 := va_Nw.use (A := ([.ref (a o)] : List Value).toArray) (U := s) (w := .fieldLinkNest "PianoRounds$Competition" 150 "PianoRounds$Tie" "number" "I" "PianoRounds") rfl (hG.2.1 _ (by decide +kernel))
  have hl := lv_entry ([.ref (a o)]) (n := 1) (Nat.le_of_ble_eq_true rfl)
  rw [lg_entry_eq]
  generalize (lg_sl ([.ref (a o)]) ++ List.replicate (1 - (lg_sl ([.ref (a o)])).length) Slot.unset).toArray = ls at hl ⊢
  have hl : lv_has ls 1 [(0, .ref (a o))] := hl
  rw [DX0_decideTieRound] at h
  refine lv_aload_n hx hb dX0_decideTieRound_0 rfl (lv_at hl 0 rfl) ?_
  obtain ⟨x1, e2, h⟩ := bd_some h
  refine smVv (As := []) (rest := []) (ws' := (wX0 cy a o x1)) (q0 := 0) (qX0_judgeTieRound l D cy a o S  (s.heap).size x1 e2) ⟨hx, hb, hml, hown, hts⟩ (cwV 0 hts gX0_decideTieRound_X0_judgeTieRound rfl rfl rfl (by decide +kernel) ⟨Nat.le_of_ble_eq_true rfl, Nat.le_of_ble_eq_true rfl⟩) hG hP hD hS hA (pm1 (X := ([] : va_W)) (c := (wX0 cy a o S)) (Y := ([] : va_W)) (show (wX0 cy a o S) = ([] : va_W) ++ ((wX0 cy a o S) ++ ([] : va_W)) from by simp only [List.append_assoc, List.nil_append, List.append_nil] <;> rfl)) (pm1 (X := ([] : va_W)) (c := (wX0 cy a o x1)) (Y := ([] : va_W)) (show (wX0 cy a o x1) = ([] : va_W) ++ ((wX0 cy a o x1) ++ ([] : va_W)) from by simp only [List.append_assoc, List.nil_append, List.append_nil] <;> rfl)) rfl rfl rfl hl.1 rfl (Nat.le_of_ble_eq_true rfl) dX0_decideTieRound_1 ⟨Nat.zero_le _, Nat.zero_le _⟩ (fun H locs hP hD hS => ?_)
  refine lv_aload_n hx hb dX0_decideTieRound_4 rfl (lv_at hl 0 rfl) ?_
  refine va_get (D := D) (ci := 0) (v := .ref (a (o + 35))) (C := RX0) (T := TX0) (N := 14) hx hb hts hinX0 hown hK hP 0 rfl rfl 11 (by decide) hf71 (fun _ h9 => h9) rfl dX0_decideTieRound_5 ?_
  refine va_getN (D := D) (ci := 9) (v := .int (gX9_number (gX0_tie x1))) (C := RX9) (T := TX9) (N := 4) hx hb hts hinX9 hown hK hP 35 rfl rfl 0 (by decide) hf150 (fun _ h9 => h9) rfl dX0_decideTieRound_8 ?_
  refine lv_iconst (v := (3 : Int32)) hx hb dX0_decideTieRound_11 (by decide) ?_
  refine lv_icmp_ge (tgt := 20) hx hb dX0_decideTieRound_12 (by decide) (fun cc => ?_) (fun cc => ?_)
  · have h := ite_p cc h
    refine lv_aload_n hx hb dX0_decideTieRound_20 rfl (lv_at hl 0 rfl) ?_
    obtain ⟨x3, e4, h⟩ := bd_some h
    refine smVv (As := []) (rest := []) (ws' := (wX0 cy a o x3)) (q0 := 0) (qX0_putOutThoseBelow l D cy a o x1  (H).size x3 e4) ⟨hx, hb, hml, hown, hts⟩ (cwV 0 hts gX0_decideTieRound_X0_putOutThoseBelow rfl rfl rfl (by decide +kernel) ⟨Nat.le_of_ble_eq_true rfl, Nat.le_of_ble_eq_true rfl⟩) hG hP hD hS hA (pm1 (X := ([] : va_W)) (c := (wX0 cy a o x1)) (Y := ([] : va_W)) (show (wX0 cy a o x1) = ([] : va_W) ++ ((wX0 cy a o x1) ++ ([] : va_W)) from by simp only [List.append_assoc, List.nil_append, List.append_nil] <;> rfl)) (pm1 (X := ([] : va_W)) (c := (wX0 cy a o x3)) (Y := ([] : va_W)) (show (wX0 cy a o x3) = ([] : va_W) ++ ((wX0 cy a o x3) ++ ([] : va_W)) from by simp only [List.append_assoc, List.nil_append, List.append_nil] <;> rfl)) rfl rfl rfl hl.1 rfl (Nat.le_of_ble_eq_true rfl) dX0_decideTieRound_21 ⟨Nat.zero_le _, Nat.zero_le _⟩ (fun H locs hP hD hS => ?_)
    refine lv_aload_n hx hb dX0_decideTieRound_24 rfl (lv_at hl 0 rfl) ?_
    obtain ⟨x5, e6, h⟩ := bd_some h
    refine smVv (As := []) (rest := []) (ws' := (wX0 cy a o x5)) (q0 := 0) (qX0_breakTieByStageOrder l D cy a o x3  (H).size x5 e6) ⟨hx, hb, hml, hown, hts⟩ (cwV 0 hts gX0_decideTieRound_X0_breakTieByStageOrder rfl rfl rfl (by decide +kernel) ⟨Nat.le_of_ble_eq_true rfl, Nat.le_of_ble_eq_true rfl⟩) hG hP hD hS hA (pm1 (X := ([] : va_W)) (c := (wX0 cy a o x3)) (Y := ([] : va_W)) (show (wX0 cy a o x3) = ([] : va_W) ++ ((wX0 cy a o x3) ++ ([] : va_W)) from by simp only [List.append_assoc, List.nil_append, List.append_nil] <;> rfl)) (pm1 (X := ([] : va_W)) (c := (wX0 cy a o x5)) (Y := ([] : va_W)) (show (wX0 cy a o x5) = ([] : va_W) ++ ((wX0 cy a o x5) ++ ([] : va_W)) from by simp only [List.append_assoc, List.nil_append, List.append_nil] <;> rfl)) rfl rfl rfl hl.1 rfl (Nat.le_of_ble_eq_true rfl) dX0_decideTieRound_25 ⟨Nat.zero_le _, Nat.zero_le _⟩ (fun H locs hP hD hS => ?_)
    refine lv_iconst (v := (1 : Int32)) hx hb dX0_decideTieRound_28 (by decide) ?_
    exact W.zret (v := (1 : Int32)) hx hb hr rfl (fun t ht hW => ⟨⟨(1 : Int32), x5, rfl, some_in h, by rw [ht]; exact hP, hD⟩, hS.F ht⟩) hS.2.2 dX0_decideTieRound_29
  · have h := ite_n cc h
    refine lv_aload_n hx hb dX0_decideTieRound_15 rfl (lv_at hl 0 rfl) ?_
    obtain ⟨x7, e8, h⟩ := bd_some h
    refine smVi (As := []) (rest := []) (ws' := (wX0 cy a o x7.2)) (q0 := 0) (qX0_applyCut l D cy a o x1  (H).size x7 e8) ⟨hx, hb, hml, hown, hts⟩ (cwV 0 hts gX0_decideTieRound_X0_applyCut rfl rfl rfl (by decide +kernel) ⟨Nat.le_of_ble_eq_true rfl, Nat.le_of_ble_eq_true rfl⟩) hG hP hD hS hA (pm1 (X := ([] : va_W)) (c := (wX0 cy a o x1)) (Y := ([] : va_W)) (show (wX0 cy a o x1) = ([] : va_W) ++ ((wX0 cy a o x1) ++ ([] : va_W)) from by simp only [List.append_assoc, List.nil_append, List.append_nil] <;> rfl)) (pm1 (X := ([] : va_W)) (c := (wX0 cy a o x7.2)) (Y := ([] : va_W)) (show (wX0 cy a o x7.2) = ([] : va_W) ++ ((wX0 cy a o x7.2) ++ ([] : va_W)) from by simp only [List.append_assoc, List.nil_append, List.append_nil] <;> rfl)) rfl rfl rfl hl.1 rfl (Nat.le_of_ble_eq_true rfl) dX0_decideTieRound_16 ⟨Nat.zero_le _, Nat.zero_le _⟩ (fun H locs hP hD hS => ?_)
    obtain ⟨g9, h⟩ := gd_some h
    exact W.zret (v := x7.1) hx hb hr (zN g9) (fun t ht hW => ⟨⟨x7.1, x7.2, rfl, some_in h, by rw [ht]; exact hP, hD⟩, hS.F ht⟩) hS.2.2 dX0_decideTieRound_19
