set_option maxHeartbeats 4000000 in
set_option maxRecDepth 100000 in
theorem qX10_copyFrom (l : Launch) (D : va_G) (cy : Nat → ClassId) (a : Nat → Nat) (o : Nat) (b1 : Nat → Nat) (z1 : Nat) (S : SX10) (T1 : SX10)  (sz : Nat) (rs : SX10) (h : DX10_copyFrom S T1 = some rs) : Met l yX10_copyFrom wsX10_copyFrom ({ frames := 2, cells := 0, slots := 0, locals := 121 } : Room) (mP D cy sz [.ref (a o), .ref (b1 z1)] ((wX10 cy a o S) ++ (wX10 cy b1 z1 T1))) (va_Qv (fun (u : SX10) => u = rs) (fun u t => mB D sz ((wX10 cy a o S) ++ (wX10 cy b1 z1 T1)) ((wX10 cy a o u) ++ (wX10 cy b1 z1 T1)) t) (va_A ((wX10 cy a o S) ++ (wX10 cy b1 z1 T1)) sz)) 0 0 (va_A ((wX10 cy a o S) ++ (wX10 cy b1 z1 T1)) sz) := by
  refine Met.ofW (cc := cX10_copyFrom) (maxL := 2) (ret := none) (by decide) rfl ?_
  intro p e s m args below meth c s₁ B hml hv
  obtain ⟨rfl, hsz, hP, hG, hD0⟩ := hv
  have hx := B.exec
  have hb := B.bytes
  have hr := B.returns
  have hts := atoms_spec (ws := wsX10_copyFrom) B.pre
  have hown : s.vm.findClass RX10 = some m.cls := findClass_of_methodNamed B.named
  have hlocks := B.notSynchronized
  have hK := hG.1
  subst hsz
  have hD := hD0.self (sz := s.heap.size)
  have hA : ∀ q : Nat, s.heap.size ≤ q → (va_A ((wX10 cy a o S) ++ (wX10 cy b1 z1 T1)) s.heap.size) q := fun q h => Or.inr h
  have hS : va_S (va_A ((wX10 cy a o S) ++ (wX10 cy b1 z1 T1)) s.heap.size) s.heap s.heap [] := va_S.rf
  have hinX10 := (by decide +kernel : ∀ w ∈ wsX100, w ∈ wsX10_copyFrom)
  have hf21 := hts (.fieldLink RX10 21 "PianoRounds$Works" "count" "I") (by decide +kernel)
  have hf9 := hts (.fieldLink RX10 9 "PianoRounds$Works" "composers" "[I") (by decide +kernel)
  have hf15 := hts (.fieldLink RX10 15 "PianoRounds$Works" "eras" "[I") (by decide +kernel)
  have hf18 := hts (.fieldLink RX10 18 "PianoRounds$Works" "lengths" "[I") (by decide +kernel)
  have hl := lv_entry ([.ref (a o), .ref (b1 z1)]) (n := 2) (Nat.le_of_ble_eq_true rfl)
  rw [lg_entry_eq]
  generalize (lg_sl ([.ref (a o), .ref (b1 z1)]) ++ List.replicate (2 - (lg_sl ([.ref (a o), .ref (b1 z1)])).length) Slot.unset).toArray = ls at hl ⊢
  have hl : lv_has ls 2 [(0, .ref (a o)), (1, .ref (b1 z1))] := hl
  rw [DX10_copyFrom] at h
  refine lv_aload_n hx hb dX10_copyFrom_0 rfl (lv_at hl 0 rfl) ?_
  refine lv_aload_n hx hb dX10_copyFrom_1 rfl (lv_at hl 1 rfl) ?_
  refine va_get (D := D) (ci := 10) (v := .int (gX10_count T1)) (C := RX10) (T := TX10) (N := 4) hx hb hts hinX10 hown hK hP 4 rfl rfl 0 (by decide) hf21 (fun _ h9 => h9) rfl dX10_copyFrom_2 ?_
  refine va_put (D := D) (ci := 10) (v := .int (gX10_count T1)) (ty := .int) (C := RX10) (T := TX10) (N := 4) hx hb hts hinX10 tyX10 tyX10_ok nmX10 hown hK hP hD hS 0 rfl rfl 0 (by decide) hf21 (fun _ h9 => h9) rfl (by decide +kernel) rfl rfl (Nat.le_of_ble_eq_true rfl) dX10_copyFrom_5 (fun H locs hP hD hS => ?_)
  have hP : va_P D vwCl ((wX10 cy a o (uX10_count S (gX10_count T1))) ++ (wX10 cy b1 z1 T1)) H := hP
  have hD : va_D (va_A ((wX10 cy a o S) ++ (wX10 cy b1 z1 T1)) s.heap.size) ((wX10 cy a o (uX10_count S (gX10_count T1))) ++ (wX10 cy b1 z1 T1)) := hD
  obtain ⟨S1, eS2, h⟩ := lt_elim h
  have hP : va_P D vwCl ((wX10 cy a o S1) ++ (wX10 cy b1 z1 T1)) H := by rw [eS2]; exact hP
  have hD : va_D (va_A ((wX10 cy a o S) ++ (wX10 cy b1 z1 T1)) s.heap.size) ((wX10 cy a o S1) ++ (wX10 cy b1 z1 T1)) := by rw [eS2]; exact hD
  refine lv_aload_n hx hb dX10_copyFrom_8 rfl (lv_at hl 1 rfl) ?_
  refine va_get (D := D) (ci := 10) (v := .ref (b1 (z1 + 1))) (C := RX10) (T := TX10) (N := 4) hx hb hts hinX10 hown hK hP 4 rfl rfl 1 (by decide) hf9 (fun _ h9 => h9) rfl dX10_copyFrom_9 ?_
  refine lv_aload_n hx hb dX10_copyFrom_12 rfl (lv_at hl 0 rfl) ?_
  refine va_get (D := D) (ci := 10) (v := .ref (a (o + 1))) (C := RX10) (T := TX10) (N := 4) hx hb hts hinX10 hown hK hP 0 rfl rfl 1 (by decide) hf9 (fun _ h9 => h9) rfl dX10_copyFrom_13 ?_
  refine mcC2 (x0 := ((b1 (z1 + 1)), .inl (cy 0, 30, .inl (gX10_composers T1)))) (b := (a (o + 1))) (e0 := .inl (cy 0, 30, .inl (gX10_composers S1))) (e1 := .inl (cy 0, 30, .inl (gX10_composers T1))) (ws' := ((wX10 cy a o (uX10_composers S1 (gX10_composers T1))) ++ (wX10 cy b1 z1 T1))) (fun hp => va_runSN (As := [.ref (b1 (z1 + 1)), .ref (a (o + 1))]) (rest := []) ⟨hx, hb, hml, hown, hts⟩ (qX11_copyRow l D cy (b1 (z1 + 1)) (a (o + 1)) 30 (by decide) (gX10_composers T1) (gX10_composers S1) (H).size) ⟨va_cnB (y := yX11_copyRow) 2 hts gX10_copyFrom_X11_copyRow_n39 rfl rfl rfl (hG.2.2.1 (.methodLinkNest "PianoRounds$Works" 39 ⟨"PianoRounds", "copyRow", "([I[I)V"⟩ "PianoRounds") (by decide +kernel)) (hts (.initialized RX11) (by decide +kernel)) (by decide +kernel) ⟨Nat.le_of_ble_eq_true rfl, Nat.le_of_ble_eq_true rfl⟩, hts (.static yX11_copyRow) (by decide +kernel), trivial⟩ hp rfl rfl hl.1 rfl (lv_room (Nat.le_of_ble_eq_true rfl)) dX10_copyFrom_16 ⟨Nat.zero_le _, Nat.zero_le _⟩) hG hP hD hS hA 5 1 rfl rfl (by omega) rfl (fun H locs hP hD hS => ?_)
  obtain ⟨S3, eS4, h⟩ := lt_elim h
  have hP : va_P D vwCl ((wX10 cy a o S3) ++ (wX10 cy b1 z1 T1)) H := by rw [eS4]; exact hP
  have hD : va_D (va_A ((wX10 cy a o S) ++ (wX10 cy b1 z1 T1)) s.heap.size) ((wX10 cy a o S3) ++ (wX10 cy b1 z1 T1)) := by rw [eS4]; exact hD
  refine lv_aload_n hx hb dX10_copyFrom_19 rfl (lv_at hl 1 rfl) ?_
  refine va_get (D := D) (ci := 10) (v := .ref (b1 (z1 + 2))) (C := RX10) (T := TX10) (N := 4) hx hb hts hinX10 hown hK hP 4 rfl rfl 2 (by decide) hf15 (fun _ h9 => h9) rfl dX10_copyFrom_20 ?_
  refine lv_aload_n hx hb dX10_copyFrom_23 rfl (lv_at hl 0 rfl) ?_
  refine va_get (D := D) (ci := 10) (v := .ref (a (o + 2))) (C := RX10) (T := TX10) (N := 4) hx hb hts hinX10 hown hK hP 0 rfl rfl 2 (by decide) hf15 (fun _ h9 => h9) rfl dX10_copyFrom_24 ?_
  refine mcC2 (x0 := ((b1 (z1 + 2)), .inl (cy 0, 30, .inl (gX10_eras T1)))) (b := (a (o + 2))) (e0 := .inl (cy 0, 30, .inl (gX10_eras S3))) (e1 := .inl (cy 0, 30, .inl (gX10_eras T1))) (ws' := ((wX10 cy a o (uX10_eras S3 (gX10_eras T1))) ++ (wX10 cy b1 z1 T1))) (fun hp => va_runSN (As := [.ref (b1 (z1 + 2)), .ref (a (o + 2))]) (rest := []) ⟨hx, hb, hml, hown, hts⟩ (qX11_copyRow l D cy (b1 (z1 + 2)) (a (o + 2)) 30 (by decide) (gX10_eras T1) (gX10_eras S3) (H).size) ⟨va_cnB (y := yX11_copyRow) 2 hts gX10_copyFrom_X11_copyRow_n39 rfl rfl rfl (hG.2.2.1 (.methodLinkNest "PianoRounds$Works" 39 ⟨"PianoRounds", "copyRow", "([I[I)V"⟩ "PianoRounds") (by decide +kernel)) (hts (.initialized RX11) (by decide +kernel)) (by decide +kernel) ⟨Nat.le_of_ble_eq_true rfl, Nat.le_of_ble_eq_true rfl⟩, hts (.static yX11_copyRow) (by decide +kernel), trivial⟩ hp rfl rfl hl.1 rfl (lv_room (Nat.le_of_ble_eq_true rfl)) dX10_copyFrom_27 ⟨Nat.zero_le _, Nat.zero_le _⟩) hG hP hD hS hA 6 2 rfl rfl (by omega) rfl (fun H locs hP hD hS => ?_)
  obtain ⟨S5, eS6, h⟩ := lt_elim h
  have hP : va_P D vwCl ((wX10 cy a o S5) ++ (wX10 cy b1 z1 T1)) H := by rw [eS6]; exact hP
  have hD : va_D (va_A ((wX10 cy a o S) ++ (wX10 cy b1 z1 T1)) s.heap.size) ((wX10 cy a o S5) ++ (wX10 cy b1 z1 T1)) := by rw [eS6]; exact hD
  refine lv_aload_n hx hb dX10_copyFrom_30 rfl (lv_at hl 1 rfl) ?_
  refine va_get (D := D) (ci := 10) (v := .ref (b1 (z1 + 3))) (C := RX10) (T := TX10) (N := 4) hx hb hts hinX10 hown hK hP 4 rfl rfl 3 (by decide) hf18 (fun _ h9 => h9) rfl dX10_copyFrom_31 ?_
  refine lv_aload_n hx hb dX10_copyFrom_34 rfl (lv_at hl 0 rfl) ?_
  refine va_get (D := D) (ci := 10) (v := .ref (a (o + 3))) (C := RX10) (T := TX10) (N := 4) hx hb hts hinX10 hown hK hP 0 rfl rfl 3 (by decide) hf18 (fun _ h9 => h9) rfl dX10_copyFrom_35 ?_
  refine mcC2 (x0 := ((b1 (z1 + 3)), .inl (cy 0, 30, .inl (gX10_lengths T1)))) (b := (a (o + 3))) (e0 := .inl (cy 0, 30, .inl (gX10_lengths S5))) (e1 := .inl (cy 0, 30, .inl (gX10_lengths T1))) (ws' := ((wX10 cy a o (uX10_lengths S5 (gX10_lengths T1))) ++ (wX10 cy b1 z1 T1))) (fun hp => va_runSN (As := [.ref (b1 (z1 + 3)), .ref (a (o + 3))]) (rest := []) ⟨hx, hb, hml, hown, hts⟩ (qX11_copyRow l D cy (b1 (z1 + 3)) (a (o + 3)) 30 (by decide) (gX10_lengths T1) (gX10_lengths S5) (H).size) ⟨va_cnB (y := yX11_copyRow) 2 hts gX10_copyFrom_X11_copyRow_n39 rfl rfl rfl (hG.2.2.1 (.methodLinkNest "PianoRounds$Works" 39 ⟨"PianoRounds", "copyRow", "([I[I)V"⟩ "PianoRounds") (by decide +kernel)) (hts (.initialized RX11) (by decide +kernel)) (by decide +kernel) ⟨Nat.le_of_ble_eq_true rfl, Nat.le_of_ble_eq_true rfl⟩, hts (.static yX11_copyRow) (by decide +kernel), trivial⟩ hp rfl rfl hl.1 rfl (lv_room (Nat.le_of_ble_eq_true rfl)) dX10_copyFrom_38 ⟨Nat.zero_le _, Nat.zero_le _⟩) hG hP hD hS hA 7 3 rfl rfl (by omega) rfl (fun H locs hP hD hS => ?_)
  obtain ⟨S7, eS8, h⟩ := lt_elim h
  have hP : va_P D vwCl ((wX10 cy a o S7) ++ (wX10 cy b1 z1 T1)) H := by rw [eS8]; exact hP
  have hD : va_D (va_A ((wX10 cy a o S) ++ (wX10 cy b1 z1 T1)) s.heap.size) ((wX10 cy a o S7) ++ (wX10 cy b1 z1 T1)) := by rw [eS8]; exact hD
  exact W.vret hx hb hr (fun t ht hW => ⟨⟨S7, rfl, some_in h, by rw [ht]; exact hP, hD⟩, hS.F ht⟩) hS.2.2 dX10_copyFrom_41
set_option maxHeartbeats 4000000 in
set_option maxRecDepth 100000 in
theorem qX2_copyFrom (l : Launch) (D : va_G) (cy : Nat → ClassId) (a : Nat → Nat) (o : Nat) (b1 : Nat → Nat) (z1 : Nat) (S : SX2) (T1 : SX2)  (sz : Nat) (rs : SX2) (h : DX2_copyFrom S T1 = some rs) : Met l yX2_copyFrom wsX2_copyFrom ({ frames := 2, cells := 0, slots := 0, locals := 121 } : Room) (mP D cy sz [.ref (a o), .ref (b1 z1)] ((wX2 cy a o S) ++ (wX2 cy b1 z1 T1))) (va_Qv (fun (u : SX2) => u = rs) (fun u t => mB D sz ((wX2 cy a o S) ++ (wX2 cy b1 z1 T1)) ((wX2 cy a o u) ++ (wX2 cy b1 z1 T1)) t) (va_A ((wX2 cy a o S) ++ (wX2 cy b1 z1 T1)) sz)) 0 0 (va_A ((wX2 cy a o S) ++ (wX2 cy b1 z1 T1)) sz) := by
  refine Met.ofW (cc := cX2_copyFrom) (maxL := 2) (ret := none) (by decide) rfl ?_
  intro p e s m args below meth c s₁ B hml hv
  obtain ⟨rfl, hsz, hP, hG, hD0⟩ := hv
  have hx := B.exec
  have hb := B.bytes
  have hr := B.returns
  have hts := atoms_spec (ws := wsX2_copyFrom) B.pre
  have hown : s.vm.findClass RX2 = some m.cls := findClass_of_methodNamed B.named
  have hlocks := B.notSynchronized
  have hK := hG.1
  subst hsz
  have hD := hD0.self (sz := s.heap.size)
  have hA : ∀ q : Nat, s.heap.size ≤ q → (va_A ((wX2 cy a o S) ++ (wX2 cy b1 z1 T1)) s.heap.size) q := fun q h => Or.inr h
  have hS : va_S (va_A ((wX2 cy a o S) ++ (wX2 cy b1 z1 T1)) s.heap.size) s.heap s.heap [] := va_S.rf
  have hinX2 := (by decide +kernel : ∀ w ∈ wsX20, w ∈ wsX2_copyFrom)
  have hf15 := hts (.fieldLink RX2 15 "PianoRounds$Entrants" "count" "I") (by decide +kernel)
  have hf9 := hts (.fieldLink RX2 9 "PianoRounds$Entrants" "in" "[I") (by decide +kernel)
  have hl := lv_entry ([.ref (a o), .ref (b1 z1)]) (n := 2) (Nat.le_of_ble_eq_true rfl)
  rw [lg_entry_eq]
  generalize (lg_sl ([.ref (a o), .ref (b1 z1)]) ++ List.replicate (2 - (lg_sl ([.ref (a o), .ref (b1 z1)])).length) Slot.unset).toArray = ls at hl ⊢
  have hl : lv_has ls 2 [(0, .ref (a o)), (1, .ref (b1 z1))] := hl
  rw [DX2_copyFrom] at h
  refine lv_aload_n hx hb dX2_copyFrom_0 rfl (lv_at hl 0 rfl) ?_
  refine lv_aload_n hx hb dX2_copyFrom_1 rfl (lv_at hl 1 rfl) ?_
  refine va_get (D := D) (ci := 2) (v := .int (gX2_count T1)) (C := RX2) (T := TX2) (N := 2) hx hb hts hinX2 hown hK hP 2 rfl rfl 0 (by decide) hf15 (fun _ h9 => h9) rfl dX2_copyFrom_2 ?_
  refine va_put (D := D) (ci := 2) (v := .int (gX2_count T1)) (ty := .int) (C := RX2) (T := TX2) (N := 2) hx hb hts hinX2 tyX2 tyX2_ok nmX2 hown hK hP hD hS 0 rfl rfl 0 (by decide) hf15 (fun _ h9 => h9) rfl (by decide +kernel) rfl rfl (Nat.le_of_ble_eq_true rfl) dX2_copyFrom_5 (fun H locs hP hD hS => ?_)
  have hP : va_P D vwCl ((wX2 cy a o (uX2_count S (gX2_count T1))) ++ (wX2 cy b1 z1 T1)) H := hP
  have hD : va_D (va_A ((wX2 cy a o S) ++ (wX2 cy b1 z1 T1)) s.heap.size) ((wX2 cy a o (uX2_count S (gX2_count T1))) ++ (wX2 cy b1 z1 T1)) := hD
  obtain ⟨S1, eS2, h⟩ := lt_elim h
  have hP : va_P D vwCl ((wX2 cy a o S1) ++ (wX2 cy b1 z1 T1)) H := by rw [eS2]; exact hP
  have hD : va_D (va_A ((wX2 cy a o S) ++ (wX2 cy b1 z1 T1)) s.heap.size) ((wX2 cy a o S1) ++ (wX2 cy b1 z1 T1)) := by rw [eS2]; exact hD
  refine lv_aload_n hx hb dX2_copyFrom_8 rfl (lv_at hl 1 rfl) ?_
  refine va_get (D := D) (ci := 2) (v := .ref (b1 (z1 + 1))) (C := RX2) (T := TX2) (N := 2) hx hb hts hinX2 hown hK hP 2 rfl rfl 1 (by decide) hf9 (fun _ h9 => h9) rfl dX2_copyFrom_9 ?_
  refine lv_aload_n hx hb dX2_copyFrom_12 rfl (lv_at hl 0 rfl) ?_
  refine va_get (D := D) (ci := 2) (v := .ref (a (o + 1))) (C := RX2) (T := TX2) (N := 2) hx hb hts hinX2 hown hK hP 0 rfl rfl 1 (by decide) hf9 (fun _ h9 => h9) rfl dX2_copyFrom_13 ?_
  refine mcC2 (x0 := ((b1 (z1 + 1)), .inl (cy 0, 12, .inl (gX2_in T1)))) (b := (a (o + 1))) (e0 := .inl (cy 0, 12, .inl (gX2_in S1))) (e1 := .inl (cy 0, 12, .inl (gX2_in T1))) (ws' := ((wX2 cy a o (uX2_in S1 (gX2_in T1))) ++ (wX2 cy b1 z1 T1))) (fun hp => va_runSN (As := [.ref (b1 (z1 + 1)), .ref (a (o + 1))]) (rest := []) ⟨hx, hb, hml, hown, hts⟩ (qX11_copyRow l D cy (b1 (z1 + 1)) (a (o + 1)) 12 (by decide) (gX2_in T1) (gX2_in S1) (H).size) ⟨va_cnB (y := yX11_copyRow) 2 hts gX2_copyFrom_X11_copyRow_n26 rfl rfl rfl (hG.2.2.1 (.methodLinkNest "PianoRounds$Entrants" 26 ⟨"PianoRounds", "copyRow", "([I[I)V"⟩ "PianoRounds") (by decide +kernel)) (hts (.initialized RX11) (by decide +kernel)) (by decide +kernel) ⟨Nat.le_of_ble_eq_true rfl, Nat.le_of_ble_eq_true rfl⟩, hts (.static yX11_copyRow) (by decide +kernel), trivial⟩ hp rfl rfl hl.1 rfl (lv_room (Nat.le_of_ble_eq_true rfl)) dX2_copyFrom_16 ⟨Nat.zero_le _, Nat.zero_le _⟩) hG hP hD hS hA 3 1 rfl rfl (by omega) rfl (fun H locs hP hD hS => ?_)
  obtain ⟨S3, eS4, h⟩ := lt_elim h
  have hP : va_P D vwCl ((wX2 cy a o S3) ++ (wX2 cy b1 z1 T1)) H := by rw [eS4]; exact hP
  have hD : va_D (va_A ((wX2 cy a o S) ++ (wX2 cy b1 z1 T1)) s.heap.size) ((wX2 cy a o S3) ++ (wX2 cy b1 z1 T1)) := by rw [eS4]; exact hD
  exact W.vret hx hb hr (fun t ht hW => ⟨⟨S3, rfl, some_in h, by rw [ht]; exact hP, hD⟩, hS.F ht⟩) hS.2.2 dX2_copyFrom_19
set_option maxHeartbeats 4000000 in
set_option maxRecDepth 100000 in
theorem qX4_copyFrom (l : Launch) (D : va_G) (cy : Nat → ClassId) (a : Nat → Nat) (o : Nat) (b1 : Nat → Nat) (z1 : Nat) (S : SX4) (T1 : SX4)  (sz : Nat) (rs : SX4) (h : DX4_copyFrom S T1 = some rs) : Met l yX4_copyFrom wsX4_copyFrom ({ frames := 2, cells := 0, slots := 0, locals := 121 } : Room) (mP D cy sz [.ref (a o), .ref (b1 z1)] ((wX4 cy a o S) ++ (wX4 cy b1 z1 T1))) (va_Qv (fun (u : SX4) => u = rs) (fun u t => mB D sz ((wX4 cy a o S) ++ (wX4 cy b1 z1 T1)) ((wX4 cy a o u) ++ (wX4 cy b1 z1 T1)) t) (va_A ((wX4 cy a o S) ++ (wX4 cy b1 z1 T1)) sz)) 0 0 (va_A ((wX4 cy a o S) ++ (wX4 cy b1 z1 T1)) sz) := by
  refine Met.ofW (cc := cX4_copyFrom) (maxL := 2) (ret := none) (by decide) rfl ?_
  intro p e s m args below meth c s₁ B hml hv
  obtain ⟨rfl, hsz, hP, hG, hD0⟩ := hv
  have hx := B.exec
  have hb := B.bytes
  have hr := B.returns
  have hts := atoms_spec (ws := wsX4_copyFrom) B.pre
  have hown : s.vm.findClass RX4 = some m.cls := findClass_of_methodNamed B.named
  have hlocks := B.notSynchronized
  have hK := hG.1
  subst hsz
  have hD := hD0.self (sz := s.heap.size)
  have hA : ∀ q : Nat, s.heap.size ≤ q → (va_A ((wX4 cy a o S) ++ (wX4 cy b1 z1 T1)) s.heap.size) q := fun q h => Or.inr h
  have hS : va_S (va_A ((wX4 cy a o S) ++ (wX4 cy b1 z1 T1)) s.heap.size) s.heap s.heap [] := va_S.rf
  have hinX4 := (by decide +kernel : ∀ w ∈ wsX40, w ∈ wsX4_copyFrom)
  have hf9 := hts (.fieldLink RX4 9 "PianoRounds$Programs" "places" "[I") (by decide +kernel)
  have hl := lv_entry ([.ref (a o), .ref (b1 z1)]) (n := 2) (Nat.le_of_ble_eq_true rfl)
  rw [lg_entry_eq]
  generalize (lg_sl ([.ref (a o), .ref (b1 z1)]) ++ List.replicate (2 - (lg_sl ([.ref (a o), .ref (b1 z1)])).length) Slot.unset).toArray = ls at hl ⊢
  have hl : lv_has ls 2 [(0, .ref (a o)), (1, .ref (b1 z1))] := hl
  rw [DX4_copyFrom] at h
  refine lv_aload_n hx hb dX4_copyFrom_0 rfl (lv_at hl 1 rfl) ?_
  refine va_get (D := D) (ci := 4) (v := .ref (b1 (z1 + 1))) (C := RX4) (T := TX4) (N := 1) hx hb hts hinX4 hown hK hP 2 rfl rfl 0 (by decide) hf9 (fun _ h9 => h9) rfl dX4_copyFrom_1 ?_
  refine lv_aload_n hx hb dX4_copyFrom_4 rfl (lv_at hl 0 rfl) ?_
  refine va_get (D := D) (ci := 4) (v := .ref (a (o + 1))) (C := RX4) (T := TX4) (N := 1) hx hb hts hinX4 hown hK hP 0 rfl rfl 0 (by decide) hf9 (fun _ h9 => h9) rfl dX4_copyFrom_5 ?_
  refine mcC2 (x0 := ((b1 (z1 + 1)), .inl (cy 0, 192, .inl (gX4_places T1)))) (b := (a (o + 1))) (e0 := .inl (cy 0, 192, .inl (gX4_places S))) (e1 := .inl (cy 0, 192, .inl (gX4_places T1))) (ws' := ((wX4 cy a o (uX4_places S (gX4_places T1))) ++ (wX4 cy b1 z1 T1))) (fun hp => va_runSN (As := [.ref (b1 (z1 + 1)), .ref (a (o + 1))]) (rest := []) ⟨hx, hb, hml, hown, hts⟩ (qX11_copyRow l D cy (b1 (z1 + 1)) (a (o + 1)) 192 (by decide) (gX4_places T1) (gX4_places S) (s.heap).size) ⟨va_cnB (y := yX11_copyRow) 2 hts gX4_copyFrom_X11_copyRow_n67 rfl rfl rfl (hG.2.2.1 (.methodLinkNest "PianoRounds$Programs" 67 ⟨"PianoRounds", "copyRow", "([I[I)V"⟩ "PianoRounds") (by decide +kernel)) (hts (.initialized RX11) (by decide +kernel)) (by decide +kernel) ⟨Nat.le_of_ble_eq_true rfl, Nat.le_of_ble_eq_true rfl⟩, hts (.static yX11_copyRow) (by decide +kernel), trivial⟩ hp rfl rfl hl.1 rfl (lv_room (Nat.le_of_ble_eq_true rfl)) dX4_copyFrom_8 ⟨Nat.zero_le _, Nat.zero_le _⟩) hG hP hD hS hA 3 1 rfl rfl (by omega) rfl (fun H locs hP hD hS => ?_)
  obtain ⟨S1, eS2, h⟩ := lt_elim h
  have hP : va_P D vwCl ((wX4 cy a o S1) ++ (wX4 cy b1 z1 T1)) H := by rw [eS2]; exact hP
  have hD : va_D (va_A ((wX4 cy a o S) ++ (wX4 cy b1 z1 T1)) s.heap.size) ((wX4 cy a o S1) ++ (wX4 cy b1 z1 T1)) := by rw [eS2]; exact hD
  exact W.vret hx hb hr (fun t ht hW => ⟨⟨S1, rfl, some_in h, by rw [ht]; exact hP, hD⟩, hS.F ht⟩) hS.2.2 dX4_copyFrom_11
set_option maxHeartbeats 4000000 in
set_option maxRecDepth 100000 in
theorem qX3_copyFrom (l : Launch) (D : va_G) (cy : Nat → ClassId) (a : Nat → Nat) (o : Nat) (b1 : Nat → Nat) (z1 : Nat) (S : SX3) (T1 : SX3)  (sz : Nat) (rs : SX3) (h : DX3_copyFrom S T1 = some rs) : Met l yX3_copyFrom wsX3_copyFrom ({ frames := 2, cells := 0, slots := 0, locals := 122 } : Room) (mP D cy sz [.ref (a o), .ref (b1 z1)] ((wX3 cy a o S) ++ (wX3 cy b1 z1 T1))) (va_Qv (fun (u : SX3) => u = rs) (fun u t => mB D sz ((wX3 cy a o S) ++ (wX3 cy b1 z1 T1)) ((wX3 cy a o u) ++ (wX3 cy b1 z1 T1)) t) (va_A ((wX3 cy a o S) ++ (wX3 cy b1 z1 T1)) sz)) 0 0 (va_A ((wX3 cy a o S) ++ (wX3 cy b1 z1 T1)) sz) := by
  refine Met.ofW (cc := cX3_copyFrom) (maxL := 2) (ret := none) (by decide) rfl ?_
  intro p e s m args below meth c s₁ B hml hv
  obtain ⟨rfl, hsz, hP, hG, hD0⟩ := hv
  have hx := B.exec
  have hb := B.bytes
  have hr := B.returns
  have hts := atoms_spec (ws := wsX3_copyFrom) B.pre
  have hown : s.vm.findClass RX3 = some m.cls := findClass_of_methodNamed B.named
  have hlocks := B.notSynchronized
  have hK := hG.1
  subst hsz
  have hD := hD0.self (sz := s.heap.size)
  have hA : ∀ q : Nat, s.heap.size ≤ q → (va_A ((wX3 cy a o S) ++ (wX3 cy b1 z1 T1)) s.heap.size) q := fun q h => Or.inr h
  have hS : va_S (va_A ((wX3 cy a o S) ++ (wX3 cy b1 z1 T1)) s.heap.size) s.heap s.heap [] := va_S.rf
  have hinX3 := (by decide +kernel : ∀ w ∈ wsX30, w ∈ wsX3_copyFrom)
  have hf9 := hts (.fieldLink RX3 9 "PianoRounds$Jury" "size" "I") (by decide +kernel)
  have hf17 := hts (.fieldLink RX3 17 "PianoRounds$Jury" "barred" "[[I") (by decide +kernel)
  have hl := lv_entry ([.ref (a o), .ref (b1 z1)]) (n := 2) (Nat.le_of_ble_eq_true rfl)
  rw [lg_entry_eq]
  generalize (lg_sl ([.ref (a o), .ref (b1 z1)]) ++ List.replicate (2 - (lg_sl ([.ref (a o), .ref (b1 z1)])).length) Slot.unset).toArray = ls at hl ⊢
  have hl : lv_has ls 2 [(0, .ref (a o)), (1, .ref (b1 z1))] := hl
  rw [DX3_copyFrom] at h
  refine lv_aload_n hx hb dX3_copyFrom_0 rfl (lv_at hl 0 rfl) ?_
  refine lv_aload_n hx hb dX3_copyFrom_1 rfl (lv_at hl 1 rfl) ?_
  refine va_get (D := D) (ci := 3) (v := .int (gX3_size T1)) (C := RX3) (T := TX3) (N := 2) hx hb hts hinX3 hown hK hP 9 rfl rfl 0 (by decide) hf9 (fun _ h9 => h9) rfl dX3_copyFrom_2 ?_
  refine va_put (D := D) (ci := 3) (v := .int (gX3_size T1)) (ty := .int) (C := RX3) (T := TX3) (N := 2) hx hb hts hinX3 tyX3 tyX3_ok nmX3 hown hK hP hD hS 0 rfl rfl 0 (by decide) hf9 (fun _ h9 => h9) rfl (by decide +kernel) rfl rfl (Nat.le_of_ble_eq_true rfl) dX3_copyFrom_5 (fun H locs hP hD hS => ?_)
  have hP : va_P D vwCl ((wX3 cy a o (uX3_size S (gX3_size T1))) ++ (wX3 cy b1 z1 T1)) H := hP
  have hD : va_D (va_A ((wX3 cy a o S) ++ (wX3 cy b1 z1 T1)) s.heap.size) ((wX3 cy a o (uX3_size S (gX3_size T1))) ++ (wX3 cy b1 z1 T1)) := hD
  obtain ⟨S1, eS2, h⟩ := lt_elim h
  have hP : va_P D vwCl ((wX3 cy a o S1) ++ (wX3 cy b1 z1 T1)) H := by rw [eS2]; exact hP
  have hD : va_D (va_A ((wX3 cy a o S) ++ (wX3 cy b1 z1 T1)) s.heap.size) ((wX3 cy a o S1) ++ (wX3 cy b1 z1 T1)) := by rw [eS2]; exact hD
  refine lv_aload_n hx hb dX3_copyFrom_8 rfl (lv_at hl 1 rfl) ?_
  refine va_get (D := D) (ci := 3) (v := .ref (b1 (z1 + 1))) (C := RX3) (T := TX3) (N := 2) hx hb hts hinX3 hown hK hP 9 rfl rfl 1 (by decide) hf17 (fun _ h9 => h9) rfl dX3_copyFrom_9 ?_
  refine lv_aload_n hx hb dX3_copyFrom_12 rfl (lv_at hl 0 rfl) ?_
  refine va_get (D := D) (ci := 3) (v := .ref (a (o + 1))) (C := RX3) (T := TX3) (N := 2) hx hb hts hinX3 hown hK hP 0 rfl rfl 1 (by decide) hf17 (fun _ h9 => h9) rfl dX3_copyFrom_13 ?_
  refine smRv (wf := (fun (_ : Unit) => (rowsW (cy 2) (cy 0) b1 (z1 + 1) 7 12 (gX3_barred T1)) ++ (rowsW (cy 2) (cy 0) a (o + 1) 7 12 (gX3_barred T1)))) (rs := ()) (ws' := ((wX3 cy a o (uX3_barred S1 (gX3_barred T1))) ++ (wX3 cy b1 z1 T1))) (fun hp => va_runSN (As := [.ref (b1 (z1 + 1)), .ref (a (o + 1))]) (rest := []) ⟨hx, hb, hml, hown, hts⟩ (qX11_copyRows l D cy b1 (z1 + 1) a (o + 1) 7 12 (by decide) (by decide) (gX3_barred T1) (gX3_barred S1) (H).size) ⟨va_cnB (y := yX11_copyRows) 2 hts gX3_copyFrom_X11_copyRows_n46 rfl rfl rfl (hG.2.2.1 (.methodLinkNest "PianoRounds$Jury" 46 ⟨"PianoRounds", "copyRows", "([[I[[I)V"⟩ "PianoRounds") (by decide +kernel)) (hts (.initialized RX11) (by decide +kernel)) (by decide +kernel) ⟨Nat.le_of_ble_eq_true rfl, Nat.le_of_ble_eq_true rfl⟩, hts (.static yX11_copyRows) (by decide +kernel), trivial⟩ hp rfl rfl hl.1 rfl (lv_room (Nat.le_of_ble_eq_true rfl)) dX3_copyFrom_16 ⟨Nat.zero_le _, Nat.zero_le _⟩) hG hP hD hS hA (pm2r (X := (hX3 a o S1)) (c1 := (rowsW (cy 2) (cy 0) b1 (z1 + 1) 7 12 (gX3_barred T1))) (Y := (hX3 b1 z1 T1)) (c2 := (rowsW (cy 2) (cy 0) a (o + 1) 7 12 (gX3_barred S1))) (Z := ([] : va_W)) (show ((wX3 cy a o S1) ++ (wX3 cy b1 z1 T1)) = (hX3 a o S1) ++ ((rowsW (cy 2) (cy 0) a (o + 1) 7 12 (gX3_barred S1)) ++ ((hX3 b1 z1 T1) ++ ((rowsW (cy 2) (cy 0) b1 (z1 + 1) 7 12 (gX3_barred T1)) ++ ([] : va_W)))) from by simp only [wX3, List.append_assoc, List.nil_append, List.append_nil] <;> rfl)) (pm2r (X := (hX3 a o S1)) (c1 := (rowsW (cy 2) (cy 0) b1 (z1 + 1) 7 12 (gX3_barred T1))) (Y := (hX3 b1 z1 T1)) (c2 := (rowsW (cy 2) (cy 0) a (o + 1) 7 12 (gX3_barred T1))) (Z := ([] : va_W)) (show ((wX3 cy a o (uX3_barred S1 (gX3_barred T1))) ++ (wX3 cy b1 z1 T1)) = (hX3 a o S1) ++ ((rowsW (cy 2) (cy 0) a (o + 1) 7 12 (gX3_barred T1)) ++ ((hX3 b1 z1 T1) ++ ((rowsW (cy 2) (cy 0) b1 (z1 + 1) 7 12 (gX3_barred T1)) ++ ([] : va_W)))) from by simp only [wX3, List.append_assoc, List.nil_append, List.append_nil] <;> rfl)) (fun H locs hP hD hS => ?_)
  obtain ⟨S3, eS4, h⟩ := lt_elim h
  have hP : va_P D vwCl ((wX3 cy a o S3) ++ (wX3 cy b1 z1 T1)) H := by rw [eS4]; exact hP
  have hD : va_D (va_A ((wX3 cy a o S) ++ (wX3 cy b1 z1 T1)) s.heap.size) ((wX3 cy a o S3) ++ (wX3 cy b1 z1 T1)) := by rw [eS4]; exact hD
  exact W.vret hx hb hr (fun t ht hW => ⟨⟨S3, rfl, some_in h, by rw [ht]; exact hP, hD⟩, hS.F ht⟩) hS.2.2 dX3_copyFrom_19
set_option maxHeartbeats 4000000 in
set_option maxRecDepth 100000 in
theorem qX7_copyFrom (l : Launch) (D : va_G) (cy : Nat → ClassId) (a : Nat → Nat) (o : Nat) (b1 : Nat → Nat) (z1 : Nat) (S : SX7) (T1 : SX7)  (sz : Nat) (rs : SX7) (h : DX7_copyFrom S T1 = some rs) : Met l yX7_copyFrom wsX7_copyFrom ({ frames := 2, cells := 0, slots := 0, locals := 121 } : Room) (mP D cy sz [.ref (a o), .ref (b1 z1)] ((wX7 cy a o S) ++ (wX7 cy b1 z1 T1))) (va_Qv (fun (u : SX7) => u = rs) (fun u t => mB D sz ((wX7 cy a o S) ++ (wX7 cy b1 z1 T1)) ((wX7 cy a o u) ++ (wX7 cy b1 z1 T1)) t) (va_A ((wX7 cy a o S) ++ (wX7 cy b1 z1 T1)) sz)) 0 0 (va_A ((wX7 cy a o S) ++ (wX7 cy b1 z1 T1)) sz) := by
  refine Met.ofW (cc := cX7_copyFrom) (maxL := 2) (ret := none) (by decide) rfl ?_
  intro p e s m args below meth c s₁ B hml hv
  obtain ⟨rfl, hsz, hP, hG, hD0⟩ := hv
  have hx := B.exec
  have hb := B.bytes
  have hr := B.returns
  have hts := atoms_spec (ws := wsX7_copyFrom) B.pre
  have hown : s.vm.findClass RX7 = some m.cls := findClass_of_methodNamed B.named
  have hlocks := B.notSynchronized
  have hK := hG.1
  subst hsz
  have hD := hD0.self (sz := s.heap.size)
  have hA : ∀ q : Nat, s.heap.size ≤ q → (va_A ((wX7 cy a o S) ++ (wX7 cy b1 z1 T1)) s.heap.size) q := fun q h => Or.inr h
  have hS : va_S (va_A ((wX7 cy a o S) ++ (wX7 cy b1 z1 T1)) s.heap.size) s.heap s.heap [] := va_S.rf
  have hinX7 := (by decide +kernel : ∀ w ∈ wsX70, w ∈ wsX7_copyFrom)
  have hf21 := hts (.fieldLink RX7 21 "PianoRounds$Stage" "players" "I") (by decide +kernel)
  have hf25 := hts (.fieldLink RX7 25 "PianoRounds$Stage" "played" "I") (by decide +kernel)
  have hf34 := hts (.fieldLink RX7 34 "PianoRounds$Stage" "seed" "J") (by decide +kernel)
  have hf9 := hts (.fieldLink RX7 9 "PianoRounds$Stage" "order" "[I") (by decide +kernel)
  have hf15 := hts (.fieldLink RX7 15 "PianoRounds$Stage" "slips" "[I") (by decide +kernel)
  have hl := lv_entry ([.ref (a o), .ref (b1 z1)]) (n := 2) (Nat.le_of_ble_eq_true rfl)
  rw [lg_entry_eq]
  generalize (lg_sl ([.ref (a o), .ref (b1 z1)]) ++ List.replicate (2 - (lg_sl ([.ref (a o), .ref (b1 z1)])).length) Slot.unset).toArray = ls at hl ⊢
  have hl : lv_has ls 2 [(0, .ref (a o)), (1, .ref (b1 z1))] := hl
  rw [DX7_copyFrom] at h
  refine lv_aload_n hx hb dX7_copyFrom_0 rfl (lv_at hl 0 rfl) ?_
  refine lv_aload_n hx hb dX7_copyFrom_1 rfl (lv_at hl 1 rfl) ?_
  refine va_get (D := D) (ci := 7) (v := .int (gX7_players T1)) (C := RX7) (T := TX7) (N := 5) hx hb hts hinX7 hown hK hP 3 rfl rfl 0 (by decide) hf21 (fun _ h9 => h9) rfl dX7_copyFrom_2 ?_
  refine va_put (D := D) (ci := 7) (v := .int (gX7_players T1)) (ty := .int) (C := RX7) (T := TX7) (N := 5) hx hb hts hinX7 tyX7 tyX7_ok nmX7 hown hK hP hD hS 0 rfl rfl 0 (by decide) hf21 (fun _ h9 => h9) rfl (by decide +kernel) rfl rfl (Nat.le_of_ble_eq_true rfl) dX7_copyFrom_5 (fun H locs hP hD hS => ?_)
  have hP : va_P D vwCl ((wX7 cy a o (uX7_players S (gX7_players T1))) ++ (wX7 cy b1 z1 T1)) H := hP
  have hD : va_D (va_A ((wX7 cy a o S) ++ (wX7 cy b1 z1 T1)) s.heap.size) ((wX7 cy a o (uX7_players S (gX7_players T1))) ++ (wX7 cy b1 z1 T1)) := hD
  obtain ⟨S1, eS2, h⟩ := lt_elim h
  have hP : va_P D vwCl ((wX7 cy a o S1) ++ (wX7 cy b1 z1 T1)) H := by rw [eS2]; exact hP
  have hD : va_D (va_A ((wX7 cy a o S) ++ (wX7 cy b1 z1 T1)) s.heap.size) ((wX7 cy a o S1) ++ (wX7 cy b1 z1 T1)) := by rw [eS2]; exact hD
  refine lv_aload_n hx hb dX7_copyFrom_8 rfl (lv_at hl 0 rfl) ?_
  refine lv_aload_n hx hb dX7_copyFrom_9 rfl (lv_at hl 1 rfl) ?_
  refine va_get (D := D) (ci := 7) (v := .int (gX7_played T1)) (C := RX7) (T := TX7) (N := 5) hx hb hts hinX7 hown hK hP 3 rfl rfl 1 (by decide) hf25 (fun _ h9 => h9) rfl dX7_copyFrom_10 ?_
  refine va_put (D := D) (ci := 7) (v := .int (gX7_played T1)) (ty := .int) (C := RX7) (T := TX7) (N := 5) hx hb hts hinX7 tyX7 tyX7_ok nmX7 hown hK hP hD hS 0 rfl rfl 1 (by decide) hf25 (fun _ h9 => h9) rfl (by decide +kernel) rfl rfl (Nat.le_of_ble_eq_true rfl) dX7_copyFrom_13 (fun H locs hP hD hS => ?_)
  have hP : va_P D vwCl ((wX7 cy a o (uX7_played S1 (gX7_played T1))) ++ (wX7 cy b1 z1 T1)) H := hP
  have hD : va_D (va_A ((wX7 cy a o S) ++ (wX7 cy b1 z1 T1)) s.heap.size) ((wX7 cy a o (uX7_played S1 (gX7_played T1))) ++ (wX7 cy b1 z1 T1)) := hD
  obtain ⟨S3, eS4, h⟩ := lt_elim h
  have hP : va_P D vwCl ((wX7 cy a o S3) ++ (wX7 cy b1 z1 T1)) H := by rw [eS4]; exact hP
  have hD : va_D (va_A ((wX7 cy a o S) ++ (wX7 cy b1 z1 T1)) s.heap.size) ((wX7 cy a o S3) ++ (wX7 cy b1 z1 T1)) := by rw [eS4]; exact hD
  refine lv_aload_n hx hb dX7_copyFrom_16 rfl (lv_at hl 0 rfl) ?_
  refine lv_aload_n hx hb dX7_copyFrom_17 rfl (lv_at hl 1 rfl) ?_
  refine va_get (D := D) (ci := 7) (v := .long (gX7_seed T1)) (C := RX7) (T := TX7) (N := 5) hx hb hts hinX7 hown hK hP 3 rfl rfl 2 (by decide) hf34 (fun _ h9 => h9) rfl dX7_copyFrom_18 ?_
  refine va_put (D := D) (ci := 7) (v := .long (gX7_seed T1)) (ty := .long) (C := RX7) (T := TX7) (N := 5) hx hb hts hinX7 tyX7 tyX7_ok nmX7 hown hK hP hD hS 0 rfl rfl 2 (by decide) hf34 (fun _ h9 => h9) rfl (by decide +kernel) rfl rfl (Nat.le_of_ble_eq_true rfl) dX7_copyFrom_21 (fun H locs hP hD hS => ?_)
  have hP : va_P D vwCl ((wX7 cy a o (uX7_seed S3 (gX7_seed T1))) ++ (wX7 cy b1 z1 T1)) H := hP
  have hD : va_D (va_A ((wX7 cy a o S) ++ (wX7 cy b1 z1 T1)) s.heap.size) ((wX7 cy a o (uX7_seed S3 (gX7_seed T1))) ++ (wX7 cy b1 z1 T1)) := hD
  obtain ⟨S5, eS6, h⟩ := lt_elim h
  have hP : va_P D vwCl ((wX7 cy a o S5) ++ (wX7 cy b1 z1 T1)) H := by rw [eS6]; exact hP
  have hD : va_D (va_A ((wX7 cy a o S) ++ (wX7 cy b1 z1 T1)) s.heap.size) ((wX7 cy a o S5) ++ (wX7 cy b1 z1 T1)) := by rw [eS6]; exact hD
  refine lv_aload_n hx hb dX7_copyFrom_24 rfl (lv_at hl 1 rfl) ?_
  refine va_get (D := D) (ci := 7) (v := .ref (b1 (z1 + 1))) (C := RX7) (T := TX7) (N := 5) hx hb hts hinX7 hown hK hP 3 rfl rfl 3 (by decide) hf9 (fun _ h9 => h9) rfl dX7_copyFrom_25 ?_
  refine lv_aload_n hx hb dX7_copyFrom_28 rfl (lv_at hl 0 rfl) ?_
  refine va_get (D := D) (ci := 7) (v := .ref (a (o + 1))) (C := RX7) (T := TX7) (N := 5) hx hb hts hinX7 hown hK hP 0 rfl rfl 3 (by decide) hf9 (fun _ h9 => h9) rfl dX7_copyFrom_29 ?_
  refine mcC2 (x0 := ((b1 (z1 + 1)), .inl (cy 0, 12, .inl (gX7_order T1)))) (b := (a (o + 1))) (e0 := .inl (cy 0, 12, .inl (gX7_order S5))) (e1 := .inl (cy 0, 12, .inl (gX7_order T1))) (ws' := ((wX7 cy a o (uX7_order S5 (gX7_order T1))) ++ (wX7 cy b1 z1 T1))) (fun hp => va_runSN (As := [.ref (b1 (z1 + 1)), .ref (a (o + 1))]) (rest := []) ⟨hx, hb, hml, hown, hts⟩ (qX11_copyRow l D cy (b1 (z1 + 1)) (a (o + 1)) 12 (by decide) (gX7_order T1) (gX7_order S5) (H).size) ⟨va_cnB (y := yX11_copyRow) 2 hts gX7_copyFrom_X11_copyRow_n64 rfl rfl rfl (hG.2.2.1 (.methodLinkNest "PianoRounds$Stage" 64 ⟨"PianoRounds", "copyRow", "([I[I)V"⟩ "PianoRounds") (by decide +kernel)) (hts (.initialized RX11) (by decide +kernel)) (by decide +kernel) ⟨Nat.le_of_ble_eq_true rfl, Nat.le_of_ble_eq_true rfl⟩, hts (.static yX11_copyRow) (by decide +kernel), trivial⟩ hp rfl rfl hl.1 rfl (lv_room (Nat.le_of_ble_eq_true rfl)) dX7_copyFrom_32 ⟨Nat.zero_le _, Nat.zero_le _⟩) hG hP hD hS hA 4 1 rfl rfl (by omega) rfl (fun H locs hP hD hS => ?_)
  obtain ⟨S7, eS8, h⟩ := lt_elim h
  have hP : va_P D vwCl ((wX7 cy a o S7) ++ (wX7 cy b1 z1 T1)) H := by rw [eS8]; exact hP
  have hD : va_D (va_A ((wX7 cy a o S) ++ (wX7 cy b1 z1 T1)) s.heap.size) ((wX7 cy a o S7) ++ (wX7 cy b1 z1 T1)) := by rw [eS8]; exact hD
  refine lv_aload_n hx hb dX7_copyFrom_35 rfl (lv_at hl 1 rfl) ?_
  refine va_get (D := D) (ci := 7) (v := .ref (b1 (z1 + 2))) (C := RX7) (T := TX7) (N := 5) hx hb hts hinX7 hown hK hP 3 rfl rfl 4 (by decide) hf15 (fun _ h9 => h9) rfl dX7_copyFrom_36 ?_
  refine lv_aload_n hx hb dX7_copyFrom_39 rfl (lv_at hl 0 rfl) ?_
  refine va_get (D := D) (ci := 7) (v := .ref (a (o + 2))) (C := RX7) (T := TX7) (N := 5) hx hb hts hinX7 hown hK hP 0 rfl rfl 4 (by decide) hf15 (fun _ h9 => h9) rfl dX7_copyFrom_40 ?_
  refine mcC2 (x0 := ((b1 (z1 + 2)), .inl (cy 0, 12, .inl (gX7_slips T1)))) (b := (a (o + 2))) (e0 := .inl (cy 0, 12, .inl (gX7_slips S7))) (e1 := .inl (cy 0, 12, .inl (gX7_slips T1))) (ws' := ((wX7 cy a o (uX7_slips S7 (gX7_slips T1))) ++ (wX7 cy b1 z1 T1))) (fun hp => va_runSN (As := [.ref (b1 (z1 + 2)), .ref (a (o + 2))]) (rest := []) ⟨hx, hb, hml, hown, hts⟩ (qX11_copyRow l D cy (b1 (z1 + 2)) (a (o + 2)) 12 (by decide) (gX7_slips T1) (gX7_slips S7) (H).size) ⟨va_cnB (y := yX11_copyRow) 2 hts gX7_copyFrom_X11_copyRow_n64 rfl rfl rfl (hG.2.2.1 (.methodLinkNest "PianoRounds$Stage" 64 ⟨"PianoRounds", "copyRow", "([I[I)V"⟩ "PianoRounds") (by decide +kernel)) (hts (.initialized RX11) (by decide +kernel)) (by decide +kernel) ⟨Nat.le_of_ble_eq_true rfl, Nat.le_of_ble_eq_true rfl⟩, hts (.static yX11_copyRow) (by decide +kernel), trivial⟩ hp rfl rfl hl.1 rfl (lv_room (Nat.le_of_ble_eq_true rfl)) dX7_copyFrom_43 ⟨Nat.zero_le _, Nat.zero_le _⟩) hG hP hD hS hA 5 2 rfl rfl (by omega) rfl (fun H locs hP hD hS => ?_)
  obtain ⟨S9, eS10, h⟩ := lt_elim h
  have hP : va_P D vwCl ((wX7 cy a o S9) ++ (wX7 cy b1 z1 T1)) H := by rw [eS10]; exact hP
  have hD : va_D (va_A ((wX7 cy a o S) ++ (wX7 cy b1 z1 T1)) s.heap.size) ((wX7 cy a o S9) ++ (wX7 cy b1 z1 T1)) := by rw [eS10]; exact hD
  exact W.vret hx hb hr (fun t ht hW => ⟨⟨S9, rfl, some_in h, by rw [ht]; exact hP, hD⟩, hS.F ht⟩) hS.2.2 dX7_copyFrom_46
set_option maxHeartbeats 4000000 in
set_option maxRecDepth 100000 in
theorem qX6_copyFrom (l : Launch) (D : va_G) (cy : Nat → ClassId) (a : Nat → Nat) (o : Nat) (b1 : Nat → Nat) (z1 : Nat) (S : SX6) (T1 : SX6)  (sz : Nat) (rs : SX6) (h : DX6_copyFrom S T1 = some rs) : Met l yX6_copyFrom wsX6_copyFrom ({ frames := 2, cells := 0, slots := 0, locals := 122 } : Room) (mP D cy sz [.ref (a o), .ref (b1 z1)] ((wX6 cy a o S) ++ (wX6 cy b1 z1 T1))) (va_Qv (fun (u : SX6) => u = rs) (fun u t => mB D sz ((wX6 cy a o S) ++ (wX6 cy b1 z1 T1)) ((wX6 cy a o u) ++ (wX6 cy b1 z1 T1)) t) (va_A ((wX6 cy a o S) ++ (wX6 cy b1 z1 T1)) sz)) 0 0 (va_A ((wX6 cy a o S) ++ (wX6 cy b1 z1 T1)) sz) := by
  refine Met.ofW (cc := cX6_copyFrom) (maxL := 2) (ret := none) (by decide) rfl ?_
  intro p e s m args below meth c s₁ B hml hv
  obtain ⟨rfl, hsz, hP, hG, hD0⟩ := hv
  have hx := B.exec
  have hb := B.bytes
  have hr := B.returns
  have hts := atoms_spec (ws := wsX6_copyFrom) B.pre
  have hown : s.vm.findClass RX6 = some m.cls := findClass_of_methodNamed B.named
  have hlocks := B.notSynchronized
  have hK := hG.1
  subst hsz
  have hD := hD0.self (sz := s.heap.size)
  have hA : ∀ q : Nat, s.heap.size ≤ q → (va_A ((wX6 cy a o S) ++ (wX6 cy b1 z1 T1)) s.heap.size) q := fun q h => Or.inr h
  have hS : va_S (va_A ((wX6 cy a o S) ++ (wX6 cy b1 z1 T1)) s.heap.size) s.heap s.heap [] := va_S.rf
  have hinX6 := (by decide +kernel : ∀ w ∈ wsX60, w ∈ wsX6_copyFrom)
  have hf11 := hts (.fieldLink RX6 11 "PianoRounds$Sheet" "rows" "[[I") (by decide +kernel)
  have hl := lv_entry ([.ref (a o), .ref (b1 z1)]) (n := 2) (Nat.le_of_ble_eq_true rfl)
  rw [lg_entry_eq]
  generalize (lg_sl ([.ref (a o), .ref (b1 z1)]) ++ List.replicate (2 - (lg_sl ([.ref (a o), .ref (b1 z1)])).length) Slot.unset).toArray = ls at hl ⊢
  have hl : lv_has ls 2 [(0, .ref (a o)), (1, .ref (b1 z1))] := hl
  rw [DX6_copyFrom] at h
  refine lv_aload_n hx hb dX6_copyFrom_0 rfl (lv_at hl 1 rfl) ?_
  refine va_get (D := D) (ci := 6) (v := .ref (b1 (z1 + 1))) (C := RX6) (T := TX6) (N := 1) hx hb hts hinX6 hown hK hP 9 rfl rfl 0 (by decide) hf11 (fun _ h9 => h9) rfl dX6_copyFrom_1 ?_
  refine lv_aload_n hx hb dX6_copyFrom_4 rfl (lv_at hl 0 rfl) ?_
  refine va_get (D := D) (ci := 6) (v := .ref (a (o + 1))) (C := RX6) (T := TX6) (N := 1) hx hb hts hinX6 hown hK hP 0 rfl rfl 0 (by decide) hf11 (fun _ h9 => h9) rfl dX6_copyFrom_5 ?_
  refine smRv (wf := (fun (_ : Unit) => (rowsW (cy 2) (cy 0) b1 (z1 + 1) 7 12 (gX6_rows T1)) ++ (rowsW (cy 2) (cy 0) a (o + 1) 7 12 (gX6_rows T1)))) (rs := ()) (ws' := ((wX6 cy a o (uX6_rows S (gX6_rows T1))) ++ (wX6 cy b1 z1 T1))) (fun hp => va_runSN (As := [.ref (b1 (z1 + 1)), .ref (a (o + 1))]) (rest := []) ⟨hx, hb, hml, hown, hts⟩ (qX11_copyRows l D cy b1 (z1 + 1) a (o + 1) 7 12 (by decide) (by decide) (gX6_rows T1) (gX6_rows S) (s.heap).size) ⟨va_cnB (y := yX11_copyRows) 2 hts gX6_copyFrom_X11_copyRows_n25 rfl rfl rfl (hG.2.2.1 (.methodLinkNest "PianoRounds$Sheet" 25 ⟨"PianoRounds", "copyRows", "([[I[[I)V"⟩ "PianoRounds") (by decide +kernel)) (hts (.initialized RX11) (by decide +kernel)) (by decide +kernel) ⟨Nat.le_of_ble_eq_true rfl, Nat.le_of_ble_eq_true rfl⟩, hts (.static yX11_copyRows) (by decide +kernel), trivial⟩ hp rfl rfl hl.1 rfl (lv_room (Nat.le_of_ble_eq_true rfl)) dX6_copyFrom_8 ⟨Nat.zero_le _, Nat.zero_le _⟩) hG hP hD hS hA (pm2r (X := (hX6 a o S)) (c1 := (rowsW (cy 2) (cy 0) b1 (z1 + 1) 7 12 (gX6_rows T1))) (Y := (hX6 b1 z1 T1)) (c2 := (rowsW (cy 2) (cy 0) a (o + 1) 7 12 (gX6_rows S))) (Z := ([] : va_W)) (show ((wX6 cy a o S) ++ (wX6 cy b1 z1 T1)) = (hX6 a o S) ++ ((rowsW (cy 2) (cy 0) a (o + 1) 7 12 (gX6_rows S)) ++ ((hX6 b1 z1 T1) ++ ((rowsW (cy 2) (cy 0) b1 (z1 + 1) 7 12 (gX6_rows T1)) ++ ([] : va_W)))) from by simp only [wX6, List.append_assoc, List.nil_append, List.append_nil] <;> rfl)) (pm2r (X := (hX6 a o S)) (c1 := (rowsW (cy 2) (cy 0) b1 (z1 + 1) 7 12 (gX6_rows T1))) (Y := (hX6 b1 z1 T1)) (c2 := (rowsW (cy 2) (cy 0) a (o + 1) 7 12 (gX6_rows T1))) (Z := ([] : va_W)) (show ((wX6 cy a o (uX6_rows S (gX6_rows T1))) ++ (wX6 cy b1 z1 T1)) = (hX6 a o S) ++ ((rowsW (cy 2) (cy 0) a (o + 1) 7 12 (gX6_rows T1)) ++ ((hX6 b1 z1 T1) ++ ((rowsW (cy 2) (cy 0) b1 (z1 + 1) 7 12 (gX6_rows T1)) ++ ([] : va_W)))) from by simp only [wX6, List.append_assoc, List.nil_append, List.append_nil] <;> rfl)) (fun H locs hP hD hS => ?_)
  obtain ⟨S1, eS2, h⟩ := lt_elim h
  have hP : va_P D vwCl ((wX6 cy a o S1) ++ (wX6 cy b1 z1 T1)) H := by rw [eS2]; exact hP
  have hD : va_D (va_A ((wX6 cy a o S) ++ (wX6 cy b1 z1 T1)) s.heap.size) ((wX6 cy a o S1) ++ (wX6 cy b1 z1 T1)) := by rw [eS2]; exact hD
  exact W.vret hx hb hr (fun t ht hW => ⟨⟨S1, rfl, some_in h, by rw [ht]; exact hP, hD⟩, hS.F ht⟩) hS.2.2 dX6_copyFrom_11
set_option maxHeartbeats 4000000 in
set_option maxRecDepth 100000 in
theorem qX9_copyFrom (l : Launch) (D : va_G) (cy : Nat → ClassId) (a : Nat → Nat) (o : Nat) (b1 : Nat → Nat) (z1 : Nat) (S : SX9) (T1 : SX9)  (sz : Nat) (rs : SX9) (h : DX9_copyFrom S T1 = some rs) : Met l yX9_copyFrom wsX9_copyFrom ({ frames := 3, cells := 0, slots := 0, locals := 143 } : Room) (mP D cy sz [.ref (a o), .ref (b1 z1)] ((wX9 cy a o S) ++ (wX9 cy b1 z1 T1))) (va_Qv (fun (u : SX9) => u = rs) (fun u t => mB D sz ((wX9 cy a o S) ++ (wX9 cy b1 z1 T1)) ((wX9 cy a o u) ++ (wX9 cy b1 z1 T1)) t) (va_A ((wX9 cy a o S) ++ (wX9 cy b1 z1 T1)) sz)) 0 0 (va_A ((wX9 cy a o S) ++ (wX9 cy b1 z1 T1)) sz) := by
  refine Met.ofW (cc := cX9_copyFrom) (maxL := 2) (ret := none) (by decide) rfl ?_
  intro p e s m args below meth c s₁ B hml hv
  obtain ⟨rfl, hsz, hP, hG, hD0⟩ := hv
  have hx := B.exec
  have hb := B.bytes
  have hr := B.returns
  have hts := atoms_spec (ws := wsX9_copyFrom) B.pre
  have hown : s.vm.findClass RX9 = some m.cls := findClass_of_methodNamed B.named
  have hlocks := B.notSynchronized
  have hK := hG.1
  subst hsz
  have hD := hD0.self (sz := s.heap.size)
  have hA : ∀ q : Nat, s.heap.size ≤ q → (va_A ((wX9 cy a o S) ++ (wX9 cy b1 z1 T1)) s.heap.size) q := fun q h => Or.inr h
  have hS : va_S (va_A ((wX9 cy a o S) ++ (wX9 cy b1 z1 T1)) s.heap.size) s.heap s.heap [] := va_S.rf
  have hinX9 := (by decide +kernel : ∀ w ∈ wsX90, w ∈ wsX9_copyFrom)
  have hf22 := hts (.fieldLink RX9 22 "PianoRounds$Tie" "number" "I") (by decide +kernel)
  have hf26 := hts (.fieldLink RX9 26 "PianoRounds$Tie" "places" "I") (by decide +kernel)
  have hf9 := hts (.fieldLink RX9 9 "PianoRounds$Tie" "tied" "[I") (by decide +kernel)
  have hf18 := hts (.fieldLink RX9 18 "PianoRounds$Tie" "sheet" "LPianoRounds$Sheet;") (by decide +kernel)
  have hl := lv_entry ([.ref (a o), .ref (b1 z1)]) (n := 2) (Nat.le_of_ble_eq_true rfl)
  rw [lg_entry_eq]
  generalize (lg_sl ([.ref (a o), .ref (b1 z1)]) ++ List.replicate (2 - (lg_sl ([.ref (a o), .ref (b1 z1)])).length) Slot.unset).toArray = ls at hl ⊢
  have hl : lv_has ls 2 [(0, .ref (a o)), (1, .ref (b1 z1))] := hl
  rw [DX9_copyFrom] at h
  refine lv_aload_n hx hb dX9_copyFrom_0 rfl (lv_at hl 0 rfl) ?_
  refine lv_aload_n hx hb dX9_copyFrom_1 rfl (lv_at hl 1 rfl) ?_
  refine va_get (D := D) (ci := 9) (v := .int (gX9_number T1)) (C := RX9) (T := TX9) (N := 4) hx hb hts hinX9 hown hK hP 11 rfl rfl 0 (by decide) hf22 (fun _ h9 => h9) rfl dX9_copyFrom_2 ?_
  refine va_put (D := D) (ci := 9) (v := .int (gX9_number T1)) (ty := .int) (C := RX9) (T := TX9) (N := 4) hx hb hts hinX9 tyX9 tyX9_ok nmX9 hown hK hP hD hS 0 rfl rfl 0 (by decide) hf22 (fun _ h9 => h9) rfl (by decide +kernel) rfl rfl (Nat.le_of_ble_eq_true rfl) dX9_copyFrom_5 (fun H locs hP hD hS => ?_)
  have hP : va_P D vwCl ((wX9 cy a o (uX9_number S (gX9_number T1))) ++ (wX9 cy b1 z1 T1)) H := hP
  have hD : va_D (va_A ((wX9 cy a o S) ++ (wX9 cy b1 z1 T1)) s.heap.size) ((wX9 cy a o (uX9_number S (gX9_number T1))) ++ (wX9 cy b1 z1 T1)) := hD
  obtain ⟨S1, eS2, h⟩ := lt_elim h
  have hP : va_P D vwCl ((wX9 cy a o S1) ++ (wX9 cy b1 z1 T1)) H := by rw [eS2]; exact hP
  have hD : va_D (va_A ((wX9 cy a o S) ++ (wX9 cy b1 z1 T1)) s.heap.size) ((wX9 cy a o S1) ++ (wX9 cy b1 z1 T1)) := by rw [eS2]; exact hD
  refine lv_aload_n hx hb dX9_copyFrom_8 rfl (lv_at hl 0 rfl) ?_
  refine lv_aload_n hx hb dX9_copyFrom_9 rfl (lv_at hl 1 rfl) ?_
  refine va_get (D := D) (ci := 9) (v := .int (gX9_places T1)) (C := RX9) (T := TX9) (N := 4) hx hb hts hinX9 hown hK hP 11 rfl rfl 1 (by decide) hf26 (fun _ h9 => h9) rfl dX9_copyFrom_10 ?_
  refine va_put (D := D) (ci := 9) (v := .int (gX9_places T1)) (ty := .int) (C := RX9) (T := TX9) (N := 4) hx hb hts hinX9 tyX9 tyX9_ok nmX9 hown hK hP hD hS 0 rfl rfl 1 (by decide) hf26 (fun _ h9 => h9) rfl (by decide +kernel) rfl rfl (Nat.le_of_ble_eq_true rfl) dX9_copyFrom_13 (fun H locs hP hD hS => ?_)
  have hP : va_P D vwCl ((wX9 cy a o (uX9_places S1 (gX9_places T1))) ++ (wX9 cy b1 z1 T1)) H := hP
  have hD : va_D (va_A ((wX9 cy a o S) ++ (wX9 cy b1 z1 T1)) s.heap.size) ((wX9 cy a o (uX9_places S1 (gX9_places T1))) ++ (wX9 cy b1 z1 T1)) := hD
  obtain ⟨S3, eS4, h⟩ := lt_elim h
  have hP : va_P D vwCl ((wX9 cy a o S3) ++ (wX9 cy b1 z1 T1)) H := by rw [eS4]; exact hP
  have hD : va_D (va_A ((wX9 cy a o S) ++ (wX9 cy b1 z1 T1)) s.heap.size) ((wX9 cy a o S3) ++ (wX9 cy b1 z1 T1)) := by rw [eS4]; exact hD
  refine lv_aload_n hx hb dX9_copyFrom_16 rfl (lv_at hl 1 rfl) ?_
  refine va_get (D := D) (ci := 9) (v := .ref (b1 (z1 + 1))) (C := RX9) (T := TX9) (N := 4) hx hb hts hinX9 hown hK hP 11 rfl rfl 2 (by decide) hf9 (fun _ h9 => h9) rfl dX9_copyFrom_17 ?_
  refine lv_aload_n hx hb dX9_copyFrom_20 rfl (lv_at hl 0 rfl) ?_
  refine va_get (D := D) (ci := 9) (v := .ref (a (o + 1))) (C := RX9) (T := TX9) (N := 4) hx hb hts hinX9 hown hK hP 0 rfl rfl 2 (by decide) hf9 (fun _ h9 => h9) rfl dX9_copyFrom_21 ?_
  refine mcC2 (x0 := ((b1 (z1 + 1)), .inl (cy 0, 12, .inl (gX9_tied T1)))) (b := (a (o + 1))) (e0 := .inl (cy 0, 12, .inl (gX9_tied S3))) (e1 := .inl (cy 0, 12, .inl (gX9_tied T1))) (ws' := ((wX9 cy a o (uX9_tied S3 (gX9_tied T1))) ++ (wX9 cy b1 z1 T1))) (fun hp => va_runSN (As := [.ref (b1 (z1 + 1)), .ref (a (o + 1))]) (rest := []) ⟨hx, hb, hml, hown, hts⟩ (qX11_copyRow l D cy (b1 (z1 + 1)) (a (o + 1)) 12 (by decide) (gX9_tied T1) (gX9_tied S3) (H).size) ⟨va_cnB (y := yX11_copyRow) 2 hts gX9_copyFrom_X11_copyRow_n52 rfl rfl rfl (hG.2.2.1 (.methodLinkNest "PianoRounds$Tie" 52 ⟨"PianoRounds", "copyRow", "([I[I)V"⟩ "PianoRounds") (by decide +kernel)) (hts (.initialized RX11) (by decide +kernel)) (by decide +kernel) ⟨Nat.le_of_ble_eq_true rfl, Nat.le_of_ble_eq_true rfl⟩, hts (.static yX11_copyRow) (by decide +kernel), trivial⟩ hp rfl rfl hl.1 rfl (lv_room (Nat.le_of_ble_eq_true rfl)) dX9_copyFrom_24 ⟨Nat.zero_le _, Nat.zero_le _⟩) hG hP hD hS hA 12 1 rfl rfl (by omega) rfl (fun H locs hP hD hS => ?_)
  obtain ⟨S5, eS6, h⟩ := lt_elim h
  have hP : va_P D vwCl ((wX9 cy a o S5) ++ (wX9 cy b1 z1 T1)) H := by rw [eS6]; exact hP
  have hD : va_D (va_A ((wX9 cy a o S) ++ (wX9 cy b1 z1 T1)) s.heap.size) ((wX9 cy a o S5) ++ (wX9 cy b1 z1 T1)) := by rw [eS6]; exact hD
  refine lv_aload_n hx hb dX9_copyFrom_27 rfl (lv_at hl 0 rfl) ?_
  refine va_get (D := D) (ci := 9) (v := .ref (a (o + 2))) (C := RX9) (T := TX9) (N := 4) hx hb hts hinX9 hown hK hP 0 rfl rfl 3 (by decide) hf18 (fun _ h9 => h9) rfl dX9_copyFrom_28 ?_
  refine lv_aload_n hx hb dX9_copyFrom_31 rfl (lv_at hl 1 rfl) ?_
  refine va_get (D := D) (ci := 9) (v := .ref (b1 (z1 + 2))) (C := RX9) (T := TX9) (N := 4) hx hb hts hinX9 hown hK hP 11 rfl rfl 3 (by decide) hf18 (fun _ h9 => h9) rfl dX9_copyFrom_32 ?_
  obtain ⟨x7, e8, h⟩ := bd_some h
  refine smVv (As := [.ref (b1 (z1 + 2))]) (rest := []) (ws' := ((wX9 cy a o (uX9_sheet S5 x7)) ++ (wX9 cy b1 z1 T1))) (q0 := 0) (qX6_copyFrom l D cy a (o + 2) b1 (z1 + 2) (gX9_sheet S5) (gX9_sheet T1)  (H).size x7 e8) ⟨hx, hb, hml, hown, hts⟩ (cwV 1 hts gX9_copyFrom_X6_copyFrom rfl rfl rfl (by decide +kernel) ⟨Nat.le_of_ble_eq_true rfl, Nat.le_of_ble_eq_true rfl⟩) hG hP hD hS hA (pm2 (X := ((hX9 a o S5) ++ (aW cy a (o + 1) 12 (gX9_tied S5)))) (c1 := (wX6 cy a (o + 2) (gX9_sheet S5))) (Y := ((hX9 b1 z1 T1) ++ (aW cy b1 (z1 + 1) 12 (gX9_tied T1)))) (c2 := (wX6 cy b1 (z1 + 2) (gX9_sheet T1))) (Z := ([] : va_W)) (show ((wX9 cy a o S5) ++ (wX9 cy b1 z1 T1)) = ((hX9 a o S5) ++ (aW cy a (o + 1) 12 (gX9_tied S5))) ++ ((wX6 cy a (o + 2) (gX9_sheet S5)) ++ (((hX9 b1 z1 T1) ++ (aW cy b1 (z1 + 1) 12 (gX9_tied T1))) ++ ((wX6 cy b1 (z1 + 2) (gX9_sheet T1)) ++ ([] : va_W)))) from by simp only [wX9, List.append_assoc, List.nil_append, List.append_nil] <;> rfl)) (pm2 (X := ((hX9 a o S5) ++ (aW cy a (o + 1) 12 (gX9_tied S5)))) (c1 := (wX6 cy a (o + 2) x7)) (Y := ((hX9 b1 z1 T1) ++ (aW cy b1 (z1 + 1) 12 (gX9_tied T1)))) (c2 := (wX6 cy b1 (z1 + 2) (gX9_sheet T1))) (Z := ([] : va_W)) (show ((wX9 cy a o (uX9_sheet S5 x7)) ++ (wX9 cy b1 z1 T1)) = ((hX9 a o S5) ++ (aW cy a (o + 1) 12 (gX9_tied S5))) ++ ((wX6 cy a (o + 2) x7) ++ (((hX9 b1 z1 T1) ++ (aW cy b1 (z1 + 1) 12 (gX9_tied T1))) ++ ((wX6 cy b1 (z1 + 2) (gX9_sheet T1)) ++ ([] : va_W)))) from by simp only [wX9, List.append_assoc, List.nil_append, List.append_nil] <;> rfl)) rfl rfl rfl hl.1 rfl (Nat.le_of_ble_eq_true rfl) dX9_copyFrom_35 ⟨Nat.zero_le _, Nat.zero_le _⟩ (fun H locs hP hD hS => ?_)
  obtain ⟨S9, eS10, h⟩ := lt_elim h
  have hP : va_P D vwCl ((wX9 cy a o S9) ++ (wX9 cy b1 z1 T1)) H := by rw [eS10]; exact hP
  have hD : va_D (va_A ((wX9 cy a o S) ++ (wX9 cy b1 z1 T1)) s.heap.size) ((wX9 cy a o S9) ++ (wX9 cy b1 z1 T1)) := by rw [eS10]; exact hD
  exact W.vret hx hb hr (fun t ht hW => ⟨⟨S9, rfl, some_in h, by rw [ht]; exact hP, hD⟩, hS.F ht⟩) hS.2.2 dX9_copyFrom_38
set_option maxHeartbeats 4000000 in
set_option maxRecDepth 100000 in
theorem qX0_copyFrom (l : Launch) (D : va_G) (cy : Nat → ClassId) (a : Nat → Nat) (o : Nat) (b1 : Nat → Nat) (z1 : Nat) (S : SX0) (T1 : SX0)  (sz : Nat) (rs : SX0) (h : DX0_copyFrom S T1 = some rs) : Met l yX0_copyFrom wsX0_copyFrom ({ frames := 4, cells := 0, slots := 0, locals := 164 } : Room) (mP D cy sz [.ref (a o), .ref (b1 z1)] ((wX0 cy a o S) ++ (wX0 cy b1 z1 T1))) (va_Qv (fun (u : SX0) => u = rs) (fun u t => mB D sz ((wX0 cy a o S) ++ (wX0 cy b1 z1 T1)) ((wX0 cy a o u) ++ (wX0 cy b1 z1 T1)) t) (va_A ((wX0 cy a o S) ++ (wX0 cy b1 z1 T1)) sz)) 0 0 (va_A ((wX0 cy a o S) ++ (wX0 cy b1 z1 T1)) sz) := by
  refine Met.ofW (cc := cX0_copyFrom) (maxL := 2) (ret := none) (by decide) rfl ?_
  intro p e s m args below meth c s₁ B hml hv
  obtain ⟨rfl, hsz, hP, hG, hD0⟩ := hv
  have hx := B.exec
  have hb := B.bytes
  have hr := B.returns
  have hts := atoms_spec (ws := wsX0_copyFrom) B.pre
  have hown : s.vm.findClass RX0 = some m.cls := findClass_of_methodNamed B.named
  have hlocks := B.notSynchronized
  have hK := hG.1
  subst hsz
  have hD := hD0.self (sz := s.heap.size)
  have hA : ∀ q : Nat, s.heap.size ≤ q → (va_A ((wX0 cy a o S) ++ (wX0 cy b1 z1 T1)) s.heap.size) q := fun q h => Or.inr h
  have hS : va_S (va_A ((wX0 cy a o S) ++ (wX0 cy b1 z1 T1)) s.heap.size) s.heap s.heap [] := va_S.rf
  have hinX0 := (by decide +kernel : ∀ w ∈ wsX00, w ∈ wsX0_copyFrom)
  have hf9 := hts (.fieldLink RX0 9 "PianoRounds$Competition" "state" "I") (by decide +kernel)
  have hf99 := hts (.fieldLink RX0 99 "PianoRounds$Competition" "round" "I") (by decide +kernel)
  have hf15 := hts (.fieldLink RX0 15 "PianoRounds$Competition" "rounds" "I") (by decide +kernel)
  have hf18 := hts (.fieldLink RX0 18 "PianoRounds$Competition" "penalty" "I") (by decide +kernel)
  have hf24 := hts (.fieldLink RX0 24 "PianoRounds$Competition" "works" "LPianoRounds$Works;") (by decide +kernel)
  have hf31 := hts (.fieldLink RX0 31 "PianoRounds$Competition" "entrants" "LPianoRounds$Entrants;") (by decide +kernel)
  have hf37 := hts (.fieldLink RX0 37 "PianoRounds$Competition" "rules" "[[I") (by decide +kernel)
  have hf43 := hts (.fieldLink RX0 43 "PianoRounds$Competition" "programs" "LPianoRounds$Programs;") (by decide +kernel)
  have hf50 := hts (.fieldLink RX0 50 "PianoRounds$Competition" "jury" "LPianoRounds$Jury;") (by decide +kernel)
  have hf57 := hts (.fieldLink RX0 57 "PianoRounds$Competition" "stage" "LPianoRounds$Stage;") (by decide +kernel)
  have hf64 := hts (.fieldLink RX0 64 "PianoRounds$Competition" "sheet" "LPianoRounds$Sheet;") (by decide +kernel)
  have hf71 := hts (.fieldLink RX0 71 "PianoRounds$Competition" "tie" "LPianoRounds$Tie;") (by decide +kernel)
  have hf75 := hts (.fieldLink RX0 75 "PianoRounds$Competition" "closedScores" "[[I") (by decide +kernel)
  have hl := lv_entry ([.ref (a o), .ref (b1 z1)]) (n := 2) (Nat.le_of_ble_eq_true rfl)
  rw [lg_entry_eq]
  generalize (lg_sl ([.ref (a o), .ref (b1 z1)]) ++ List.replicate (2 - (lg_sl ([.ref (a o), .ref (b1 z1)])).length) Slot.unset).toArray = ls at hl ⊢
  have hl : lv_has ls 2 [(0, .ref (a o)), (1, .ref (b1 z1))] := hl
  rw [DX0_copyFrom] at h
  refine lv_aload_n hx hb dX0_copyFrom_0 rfl (lv_at hl 0 rfl) ?_
  refine lv_aload_n hx hb dX0_copyFrom_1 rfl (lv_at hl 1 rfl) ?_
  refine va_get (D := D) (ci := 0) (v := .int (gX0_state T1)) (C := RX0) (T := TX0) (N := 14) hx hb hts hinX0 hown hK hP 53 rfl rfl 0 (by decide) hf9 (fun _ h9 => h9) rfl dX0_copyFrom_2 ?_
  refine va_put (D := D) (ci := 0) (v := .int (gX0_state T1)) (ty := .int) (C := RX0) (T := TX0) (N := 14) hx hb hts hinX0 tyX0 tyX0_ok nmX0 hown hK hP hD hS 0 rfl rfl 0 (by decide) hf9 (fun _ h9 => h9) rfl (by decide +kernel) rfl rfl (Nat.le_of_ble_eq_true rfl) dX0_copyFrom_5 (fun H locs hP hD hS => ?_)
  have hP : va_P D vwCl ((wX0 cy a o (uX0_state S (gX0_state T1))) ++ (wX0 cy b1 z1 T1)) H := hP
  have hD : va_D (va_A ((wX0 cy a o S) ++ (wX0 cy b1 z1 T1)) s.heap.size) ((wX0 cy a o (uX0_state S (gX0_state T1))) ++ (wX0 cy b1 z1 T1)) := hD
  obtain ⟨S1, eS2, h⟩ := lt_elim h
  have hP : va_P D vwCl ((wX0 cy a o S1) ++ (wX0 cy b1 z1 T1)) H := by rw [eS2]; exact hP
  have hD : va_D (va_A ((wX0 cy a o S) ++ (wX0 cy b1 z1 T1)) s.heap.size) ((wX0 cy a o S1) ++ (wX0 cy b1 z1 T1)) := by rw [eS2]; exact hD
  refine lv_aload_n hx hb dX0_copyFrom_8 rfl (lv_at hl 0 rfl) ?_
  refine lv_aload_n hx hb dX0_copyFrom_9 rfl (lv_at hl 1 rfl) ?_
  refine va_get (D := D) (ci := 0) (v := .int (gX0_round T1)) (C := RX0) (T := TX0) (N := 14) hx hb hts hinX0 hown hK hP 53 rfl rfl 1 (by decide) hf99 (fun _ h9 => h9) rfl dX0_copyFrom_10 ?_
  refine va_put (D := D) (ci := 0) (v := .int (gX0_round T1)) (ty := .int) (C := RX0) (T := TX0) (N := 14) hx hb hts hinX0 tyX0 tyX0_ok nmX0 hown hK hP hD hS 0 rfl rfl 1 (by decide) hf99 (fun _ h9 => h9) rfl (by decide +kernel) rfl rfl (Nat.le_of_ble_eq_true rfl) dX0_copyFrom_13 (fun H locs hP hD hS => ?_)
  have hP : va_P D vwCl ((wX0 cy a o (uX0_round S1 (gX0_round T1))) ++ (wX0 cy b1 z1 T1)) H := hP
  have hD : va_D (va_A ((wX0 cy a o S) ++ (wX0 cy b1 z1 T1)) s.heap.size) ((wX0 cy a o (uX0_round S1 (gX0_round T1))) ++ (wX0 cy b1 z1 T1)) := hD
  obtain ⟨S3, eS4, h⟩ := lt_elim h
  have hP : va_P D vwCl ((wX0 cy a o S3) ++ (wX0 cy b1 z1 T1)) H := by rw [eS4]; exact hP
  have hD : va_D (va_A ((wX0 cy a o S) ++ (wX0 cy b1 z1 T1)) s.heap.size) ((wX0 cy a o S3) ++ (wX0 cy b1 z1 T1)) := by rw [eS4]; exact hD
  refine lv_aload_n hx hb dX0_copyFrom_16 rfl (lv_at hl 0 rfl) ?_
  refine lv_aload_n hx hb dX0_copyFrom_17 rfl (lv_at hl 1 rfl) ?_
  refine va_get (D := D) (ci := 0) (v := .int (gX0_rounds T1)) (C := RX0) (T := TX0) (N := 14) hx hb hts hinX0 hown hK hP 53 rfl rfl 2 (by decide) hf15 (fun _ h9 => h9) rfl dX0_copyFrom_18 ?_
  refine va_put (D := D) (ci := 0) (v := .int (gX0_rounds T1)) (ty := .int) (C := RX0) (T := TX0) (N := 14) hx hb hts hinX0 tyX0 tyX0_ok nmX0 hown hK hP hD hS 0 rfl rfl 2 (by decide) hf15 (fun _ h9 => h9) rfl (by decide +kernel) rfl rfl (Nat.le_of_ble_eq_true rfl) dX0_copyFrom_21 (fun H locs hP hD hS => ?_)
  have hP : va_P D vwCl ((wX0 cy a o (uX0_rounds S3 (gX0_rounds T1))) ++ (wX0 cy b1 z1 T1)) H := hP
  have hD : va_D (va_A ((wX0 cy a o S) ++ (wX0 cy b1 z1 T1)) s.heap.size) ((wX0 cy a o (uX0_rounds S3 (gX0_rounds T1))) ++ (wX0 cy b1 z1 T1)) := hD
  obtain ⟨S5, eS6, h⟩ := lt_elim h
  have hP : va_P D vwCl ((wX0 cy a o S5) ++ (wX0 cy b1 z1 T1)) H := by rw [eS6]; exact hP
  have hD : va_D (va_A ((wX0 cy a o S) ++ (wX0 cy b1 z1 T1)) s.heap.size) ((wX0 cy a o S5) ++ (wX0 cy b1 z1 T1)) := by rw [eS6]; exact hD
  refine lv_aload_n hx hb dX0_copyFrom_24 rfl (lv_at hl 0 rfl) ?_
  refine lv_aload_n hx hb dX0_copyFrom_25 rfl (lv_at hl 1 rfl) ?_
  refine va_get (D := D) (ci := 0) (v := .int (gX0_penalty T1)) (C := RX0) (T := TX0) (N := 14) hx hb hts hinX0 hown hK hP 53 rfl rfl 3 (by decide) hf18 (fun _ h9 => h9) rfl dX0_copyFrom_26 ?_
  refine va_put (D := D) (ci := 0) (v := .int (gX0_penalty T1)) (ty := .int) (C := RX0) (T := TX0) (N := 14) hx hb hts hinX0 tyX0 tyX0_ok nmX0 hown hK hP hD hS 0 rfl rfl 3 (by decide) hf18 (fun _ h9 => h9) rfl (by decide +kernel) rfl rfl (Nat.le_of_ble_eq_true rfl) dX0_copyFrom_29 (fun H locs hP hD hS => ?_)
  have hP : va_P D vwCl ((wX0 cy a o (uX0_penalty S5 (gX0_penalty T1))) ++ (wX0 cy b1 z1 T1)) H := hP
  have hD : va_D (va_A ((wX0 cy a o S) ++ (wX0 cy b1 z1 T1)) s.heap.size) ((wX0 cy a o (uX0_penalty S5 (gX0_penalty T1))) ++ (wX0 cy b1 z1 T1)) := hD
  obtain ⟨S7, eS8, h⟩ := lt_elim h
  have hP : va_P D vwCl ((wX0 cy a o S7) ++ (wX0 cy b1 z1 T1)) H := by rw [eS8]; exact hP
  have hD : va_D (va_A ((wX0 cy a o S) ++ (wX0 cy b1 z1 T1)) s.heap.size) ((wX0 cy a o S7) ++ (wX0 cy b1 z1 T1)) := by rw [eS8]; exact hD
  refine lv_aload_n hx hb dX0_copyFrom_32 rfl (lv_at hl 0 rfl) ?_
  refine va_get (D := D) (ci := 0) (v := .ref (a (o + 1))) (C := RX0) (T := TX0) (N := 14) hx hb hts hinX0 hown hK hP 0 rfl rfl 4 (by decide) hf24 (fun _ h9 => h9) rfl dX0_copyFrom_33 ?_
  refine lv_aload_n hx hb dX0_copyFrom_36 rfl (lv_at hl 1 rfl) ?_
  refine va_get (D := D) (ci := 0) (v := .ref (b1 (z1 + 1))) (C := RX0) (T := TX0) (N := 14) hx hb hts hinX0 hown hK hP 53 rfl rfl 4 (by decide) hf24 (fun _ h9 => h9) rfl dX0_copyFrom_37 ?_
  obtain ⟨x9, e10, h⟩ := bd_some h
  refine smVv (As := [.ref (b1 (z1 + 1))]) (rest := []) (ws' := ((wX0 cy a o (uX0_works S7 x9)) ++ (wX0 cy b1 z1 T1))) (q0 := 0) (qX10_copyFrom l D cy a (o + 1) b1 (z1 + 1) (gX0_works S7) (gX0_works T1)  (H).size x9 e10) ⟨hx, hb, hml, hown, hts⟩ (cwV 1 hts gX0_copyFrom_X10_copyFrom rfl rfl rfl (by decide +kernel) ⟨Nat.le_of_ble_eq_true rfl, Nat.le_of_ble_eq_true rfl⟩) hG hP hD hS hA (pm2 (X := (hX0 a o S7)) (c1 := (wX10 cy a (o + 1) (gX0_works S7))) (Y := ((wX2 cy a (o + 5) (gX0_entrants S7)) ++ ((rowsW (cy 2) (cy 0) a (o + 7) 4 6 (gX0_rules S7)) ++ ((wX4 cy a (o + 12) (gX0_programs S7)) ++ ((wX3 cy a (o + 14) (gX0_jury S7)) ++ ((wX7 cy a (o + 23) (gX0_stage S7)) ++ ((wX6 cy a (o + 26) (gX0_sheet S7)) ++ ((wX9 cy a (o + 35) (gX0_tie S7)) ++ ((rowsW (cy 2) (cy 0) a (o + 46) 4 12 (gX0_closedScores S7)) ++ ((wX1 cy a (o + 51) (gX0_cut S7)) ++ (hX0 b1 z1 T1))))))))))) (c2 := (wX10 cy b1 (z1 + 1) (gX0_works T1))) (Z := ((wX2 cy b1 (z1 + 5) (gX0_entrants T1)) ++ ((rowsW (cy 2) (cy 0) b1 (z1 + 7) 4 6 (gX0_rules T1)) ++ ((wX4 cy b1 (z1 + 12) (gX0_programs T1)) ++ ((wX3 cy b1 (z1 + 14) (gX0_jury T1)) ++ ((wX7 cy b1 (z1 + 23) (gX0_stage T1)) ++ ((wX6 cy b1 (z1 + 26) (gX0_sheet T1)) ++ ((wX9 cy b1 (z1 + 35) (gX0_tie T1)) ++ ((rowsW (cy 2) (cy 0) b1 (z1 + 46) 4 12 (gX0_closedScores T1)) ++ (wX1 cy b1 (z1 + 51) (gX0_cut T1))))))))))) (show ((wX0 cy a o S7) ++ (wX0 cy b1 z1 T1)) = (hX0 a o S7) ++ ((wX10 cy a (o + 1) (gX0_works S7)) ++ (((wX2 cy a (o + 5) (gX0_entrants S7)) ++ ((rowsW (cy 2) (cy 0) a (o + 7) 4 6 (gX0_rules S7)) ++ ((wX4 cy a (o + 12) (gX0_programs S7)) ++ ((wX3 cy a (o + 14) (gX0_jury S7)) ++ ((wX7 cy a (o + 23) (gX0_stage S7)) ++ ((wX6 cy a (o + 26) (gX0_sheet S7)) ++ ((wX9 cy a (o + 35) (gX0_tie S7)) ++ ((rowsW (cy 2) (cy 0) a (o + 46) 4 12 (gX0_closedScores S7)) ++ ((wX1 cy a (o + 51) (gX0_cut S7)) ++ (hX0 b1 z1 T1)))))))))) ++ ((wX10 cy b1 (z1 + 1) (gX0_works T1)) ++ ((wX2 cy b1 (z1 + 5) (gX0_entrants T1)) ++ ((rowsW (cy 2) (cy 0) b1 (z1 + 7) 4 6 (gX0_rules T1)) ++ ((wX4 cy b1 (z1 + 12) (gX0_programs T1)) ++ ((wX3 cy b1 (z1 + 14) (gX0_jury T1)) ++ ((wX7 cy b1 (z1 + 23) (gX0_stage T1)) ++ ((wX6 cy b1 (z1 + 26) (gX0_sheet T1)) ++ ((wX9 cy b1 (z1 + 35) (gX0_tie T1)) ++ ((rowsW (cy 2) (cy 0) b1 (z1 + 46) 4 12 (gX0_closedScores T1)) ++ (wX1 cy b1 (z1 + 51) (gX0_cut T1))))))))))))) from by simp only [wX0, List.append_assoc, List.nil_append, List.append_nil] <;> rfl)) (pm2 (X := (hX0 a o S7)) (c1 := (wX10 cy a (o + 1) x9)) (Y := ((wX2 cy a (o + 5) (gX0_entrants S7)) ++ ((rowsW (cy 2) (cy 0) a (o + 7) 4 6 (gX0_rules S7)) ++ ((wX4 cy a (o + 12) (gX0_programs S7)) ++ ((wX3 cy a (o + 14) (gX0_jury S7)) ++ ((wX7 cy a (o + 23) (gX0_stage S7)) ++ ((wX6 cy a (o + 26) (gX0_sheet S7)) ++ ((wX9 cy a (o + 35) (gX0_tie S7)) ++ ((rowsW (cy 2) (cy 0) a (o + 46) 4 12 (gX0_closedScores S7)) ++ ((wX1 cy a (o + 51) (gX0_cut S7)) ++ (hX0 b1 z1 T1))))))))))) (c2 := (wX10 cy b1 (z1 + 1) (gX0_works T1))) (Z := ((wX2 cy b1 (z1 + 5) (gX0_entrants T1)) ++ ((rowsW (cy 2) (cy 0) b1 (z1 + 7) 4 6 (gX0_rules T1)) ++ ((wX4 cy b1 (z1 + 12) (gX0_programs T1)) ++ ((wX3 cy b1 (z1 + 14) (gX0_jury T1)) ++ ((wX7 cy b1 (z1 + 23) (gX0_stage T1)) ++ ((wX6 cy b1 (z1 + 26) (gX0_sheet T1)) ++ ((wX9 cy b1 (z1 + 35) (gX0_tie T1)) ++ ((rowsW (cy 2) (cy 0) b1 (z1 + 46) 4 12 (gX0_closedScores T1)) ++ (wX1 cy b1 (z1 + 51) (gX0_cut T1))))))))))) (show ((wX0 cy a o (uX0_works S7 x9)) ++ (wX0 cy b1 z1 T1)) = (hX0 a o S7) ++ ((wX10 cy a (o + 1) x9) ++ (((wX2 cy a (o + 5) (gX0_entrants S7)) ++ ((rowsW (cy 2) (cy 0) a (o + 7) 4 6 (gX0_rules S7)) ++ ((wX4 cy a (o + 12) (gX0_programs S7)) ++ ((wX3 cy a (o + 14) (gX0_jury S7)) ++ ((wX7 cy a (o + 23) (gX0_stage S7)) ++ ((wX6 cy a (o + 26) (gX0_sheet S7)) ++ ((wX9 cy a (o + 35) (gX0_tie S7)) ++ ((rowsW (cy 2) (cy 0) a (o + 46) 4 12 (gX0_closedScores S7)) ++ ((wX1 cy a (o + 51) (gX0_cut S7)) ++ (hX0 b1 z1 T1)))))))))) ++ ((wX10 cy b1 (z1 + 1) (gX0_works T1)) ++ ((wX2 cy b1 (z1 + 5) (gX0_entrants T1)) ++ ((rowsW (cy 2) (cy 0) b1 (z1 + 7) 4 6 (gX0_rules T1)) ++ ((wX4 cy b1 (z1 + 12) (gX0_programs T1)) ++ ((wX3 cy b1 (z1 + 14) (gX0_jury T1)) ++ ((wX7 cy b1 (z1 + 23) (gX0_stage T1)) ++ ((wX6 cy b1 (z1 + 26) (gX0_sheet T1)) ++ ((wX9 cy b1 (z1 + 35) (gX0_tie T1)) ++ ((rowsW (cy 2) (cy 0) b1 (z1 + 46) 4 12 (gX0_closedScores T1)) ++ (wX1 cy b1 (z1 + 51) (gX0_cut T1))))))))))))) from by simp only [wX0, List.append_assoc, List.nil_append, List.append_nil] <;> rfl)) rfl rfl rfl hl.1 rfl (Nat.le_of_ble_eq_true rfl) dX0_copyFrom_40 ⟨Nat.zero_le _, Nat.zero_le _⟩ (fun H locs hP hD hS => ?_)
  obtain ⟨S11, eS12, h⟩ := lt_elim h
  have hP : va_P D vwCl ((wX0 cy a o S11) ++ (wX0 cy b1 z1 T1)) H := by rw [eS12]; exact hP
  have hD : va_D (va_A ((wX0 cy a o S) ++ (wX0 cy b1 z1 T1)) s.heap.size) ((wX0 cy a o S11) ++ (wX0 cy b1 z1 T1)) := by rw [eS12]; exact hD
  refine lv_aload_n hx hb dX0_copyFrom_43 rfl (lv_at hl 0 rfl) ?_
  refine va_get (D := D) (ci := 0) (v := .ref (a (o + 5))) (C := RX0) (T := TX0) (N := 14) hx hb hts hinX0 hown hK hP 0 rfl rfl 5 (by decide) hf31 (fun _ h9 => h9) rfl dX0_copyFrom_44 ?_
  refine lv_aload_n hx hb dX0_copyFrom_47 rfl (lv_at hl 1 rfl) ?_
  refine va_get (D := D) (ci := 0) (v := .ref (b1 (z1 + 5))) (C := RX0) (T := TX0) (N := 14) hx hb hts hinX0 hown hK hP 53 rfl rfl 5 (by decide) hf31 (fun _ h9 => h9) rfl dX0_copyFrom_48 ?_
  obtain ⟨x13, e14, h⟩ := bd_some h
  refine smVv (As := [.ref (b1 (z1 + 5))]) (rest := []) (ws' := ((wX0 cy a o (uX0_entrants S11 x13)) ++ (wX0 cy b1 z1 T1))) (q0 := 0) (qX2_copyFrom l D cy a (o + 5) b1 (z1 + 5) (gX0_entrants S11) (gX0_entrants T1)  (H).size x13 e14) ⟨hx, hb, hml, hown, hts⟩ (cwV 1 hts gX0_copyFrom_X2_copyFrom rfl rfl rfl (by decide +kernel) ⟨Nat.le_of_ble_eq_true rfl, Nat.le_of_ble_eq_true rfl⟩) hG hP hD hS hA (pm2 (X := ((hX0 a o S11) ++ (wX10 cy a (o + 1) (gX0_works S11)))) (c1 := (wX2 cy a (o + 5) (gX0_entrants S11))) (Y := ((rowsW (cy 2) (cy 0) a (o + 7) 4 6 (gX0_rules S11)) ++ ((wX4 cy a (o + 12) (gX0_programs S11)) ++ ((wX3 cy a (o + 14) (gX0_jury S11)) ++ ((wX7 cy a (o + 23) (gX0_stage S11)) ++ ((wX6 cy a (o + 26) (gX0_sheet S11)) ++ ((wX9 cy a (o + 35) (gX0_tie S11)) ++ ((rowsW (cy 2) (cy 0) a (o + 46) 4 12 (gX0_closedScores S11)) ++ ((wX1 cy a (o + 51) (gX0_cut S11)) ++ ((hX0 b1 z1 T1) ++ (wX10 cy b1 (z1 + 1) (gX0_works T1)))))))))))) (c2 := (wX2 cy b1 (z1 + 5) (gX0_entrants T1))) (Z := ((rowsW (cy 2) (cy 0) b1 (z1 + 7) 4 6 (gX0_rules T1)) ++ ((wX4 cy b1 (z1 + 12) (gX0_programs T1)) ++ ((wX3 cy b1 (z1 + 14) (gX0_jury T1)) ++ ((wX7 cy b1 (z1 + 23) (gX0_stage T1)) ++ ((wX6 cy b1 (z1 + 26) (gX0_sheet T1)) ++ ((wX9 cy b1 (z1 + 35) (gX0_tie T1)) ++ ((rowsW (cy 2) (cy 0) b1 (z1 + 46) 4 12 (gX0_closedScores T1)) ++ (wX1 cy b1 (z1 + 51) (gX0_cut T1)))))))))) (show ((wX0 cy a o S11) ++ (wX0 cy b1 z1 T1)) = ((hX0 a o S11) ++ (wX10 cy a (o + 1) (gX0_works S11))) ++ ((wX2 cy a (o + 5) (gX0_entrants S11)) ++ (((rowsW (cy 2) (cy 0) a (o + 7) 4 6 (gX0_rules S11)) ++ ((wX4 cy a (o + 12) (gX0_programs S11)) ++ ((wX3 cy a (o + 14) (gX0_jury S11)) ++ ((wX7 cy a (o + 23) (gX0_stage S11)) ++ ((wX6 cy a (o + 26) (gX0_sheet S11)) ++ ((wX9 cy a (o + 35) (gX0_tie S11)) ++ ((rowsW (cy 2) (cy 0) a (o + 46) 4 12 (gX0_closedScores S11)) ++ ((wX1 cy a (o + 51) (gX0_cut S11)) ++ ((hX0 b1 z1 T1) ++ (wX10 cy b1 (z1 + 1) (gX0_works T1))))))))))) ++ ((wX2 cy b1 (z1 + 5) (gX0_entrants T1)) ++ ((rowsW (cy 2) (cy 0) b1 (z1 + 7) 4 6 (gX0_rules T1)) ++ ((wX4 cy b1 (z1 + 12) (gX0_programs T1)) ++ ((wX3 cy b1 (z1 + 14) (gX0_jury T1)) ++ ((wX7 cy b1 (z1 + 23) (gX0_stage T1)) ++ ((wX6 cy b1 (z1 + 26) (gX0_sheet T1)) ++ ((wX9 cy b1 (z1 + 35) (gX0_tie T1)) ++ ((rowsW (cy 2) (cy 0) b1 (z1 + 46) 4 12 (gX0_closedScores T1)) ++ (wX1 cy b1 (z1 + 51) (gX0_cut T1)))))))))))) from by simp only [wX0, List.append_assoc, List.nil_append, List.append_nil] <;> rfl)) (pm2 (X := ((hX0 a o S11) ++ (wX10 cy a (o + 1) (gX0_works S11)))) (c1 := (wX2 cy a (o + 5) x13)) (Y := ((rowsW (cy 2) (cy 0) a (o + 7) 4 6 (gX0_rules S11)) ++ ((wX4 cy a (o + 12) (gX0_programs S11)) ++ ((wX3 cy a (o + 14) (gX0_jury S11)) ++ ((wX7 cy a (o + 23) (gX0_stage S11)) ++ ((wX6 cy a (o + 26) (gX0_sheet S11)) ++ ((wX9 cy a (o + 35) (gX0_tie S11)) ++ ((rowsW (cy 2) (cy 0) a (o + 46) 4 12 (gX0_closedScores S11)) ++ ((wX1 cy a (o + 51) (gX0_cut S11)) ++ ((hX0 b1 z1 T1) ++ (wX10 cy b1 (z1 + 1) (gX0_works T1)))))))))))) (c2 := (wX2 cy b1 (z1 + 5) (gX0_entrants T1))) (Z := ((rowsW (cy 2) (cy 0) b1 (z1 + 7) 4 6 (gX0_rules T1)) ++ ((wX4 cy b1 (z1 + 12) (gX0_programs T1)) ++ ((wX3 cy b1 (z1 + 14) (gX0_jury T1)) ++ ((wX7 cy b1 (z1 + 23) (gX0_stage T1)) ++ ((wX6 cy b1 (z1 + 26) (gX0_sheet T1)) ++ ((wX9 cy b1 (z1 + 35) (gX0_tie T1)) ++ ((rowsW (cy 2) (cy 0) b1 (z1 + 46) 4 12 (gX0_closedScores T1)) ++ (wX1 cy b1 (z1 + 51) (gX0_cut T1)))))))))) (show ((wX0 cy a o (uX0_entrants S11 x13)) ++ (wX0 cy b1 z1 T1)) = ((hX0 a o S11) ++ (wX10 cy a (o + 1) (gX0_works S11))) ++ ((wX2 cy a (o + 5) x13) ++ (((rowsW (cy 2) (cy 0) a (o + 7) 4 6 (gX0_rules S11)) ++ ((wX4 cy a (o + 12) (gX0_programs S11)) ++ ((wX3 cy a (o + 14) (gX0_jury S11)) ++ ((wX7 cy a (o + 23) (gX0_stage S11)) ++ ((wX6 cy a (o + 26) (gX0_sheet S11)) ++ ((wX9 cy a (o + 35) (gX0_tie S11)) ++ ((rowsW (cy 2) (cy 0) a (o + 46) 4 12 (gX0_closedScores S11)) ++ ((wX1 cy a (o + 51) (gX0_cut S11)) ++ ((hX0 b1 z1 T1) ++ (wX10 cy b1 (z1 + 1) (gX0_works T1))))))))))) ++ ((wX2 cy b1 (z1 + 5) (gX0_entrants T1)) ++ ((rowsW (cy 2) (cy 0) b1 (z1 + 7) 4 6 (gX0_rules T1)) ++ ((wX4 cy b1 (z1 + 12) (gX0_programs T1)) ++ ((wX3 cy b1 (z1 + 14) (gX0_jury T1)) ++ ((wX7 cy b1 (z1 + 23) (gX0_stage T1)) ++ ((wX6 cy b1 (z1 + 26) (gX0_sheet T1)) ++ ((wX9 cy b1 (z1 + 35) (gX0_tie T1)) ++ ((rowsW (cy 2) (cy 0) b1 (z1 + 46) 4 12 (gX0_closedScores T1)) ++ (wX1 cy b1 (z1 + 51) (gX0_cut T1)))))))))))) from by simp only [wX0, List.append_assoc, List.nil_append, List.append_nil] <;> rfl)) rfl rfl rfl hl.1 rfl (Nat.le_of_ble_eq_true rfl) dX0_copyFrom_51 ⟨Nat.zero_le _, Nat.zero_le _⟩ (fun H locs hP hD hS => ?_)
  obtain ⟨S15, eS16, h⟩ := lt_elim h
  have hP : va_P D vwCl ((wX0 cy a o S15) ++ (wX0 cy b1 z1 T1)) H := by rw [eS16]; exact hP
  have hD : va_D (va_A ((wX0 cy a o S) ++ (wX0 cy b1 z1 T1)) s.heap.size) ((wX0 cy a o S15) ++ (wX0 cy b1 z1 T1)) := by rw [eS16]; exact hD
  refine lv_aload_n hx hb dX0_copyFrom_54 rfl (lv_at hl 1 rfl) ?_
  refine va_get (D := D) (ci := 0) (v := .ref (b1 (z1 + 7))) (C := RX0) (T := TX0) (N := 14) hx hb hts hinX0 hown hK hP 53 rfl rfl 6 (by decide) hf37 (fun _ h9 => h9) rfl dX0_copyFrom_55 ?_
  refine lv_aload_n hx hb dX0_copyFrom_58 rfl (lv_at hl 0 rfl) ?_
  refine va_get (D := D) (ci := 0) (v := .ref (a (o + 7))) (C := RX0) (T := TX0) (N := 14) hx hb hts hinX0 hown hK hP 0 rfl rfl 6 (by decide) hf37 (fun _ h9 => h9) rfl dX0_copyFrom_59 ?_
  refine smRv (wf := (fun (_ : Unit) => (rowsW (cy 2) (cy 0) b1 (z1 + 7) 4 6 (gX0_rules T1)) ++ (rowsW (cy 2) (cy 0) a (o + 7) 4 6 (gX0_rules T1)))) (rs := ()) (ws' := ((wX0 cy a o (uX0_rules S15 (gX0_rules T1))) ++ (wX0 cy b1 z1 T1))) (fun hp => va_runSN (As := [.ref (b1 (z1 + 7)), .ref (a (o + 7))]) (rest := []) ⟨hx, hb, hml, hown, hts⟩ (qX11_copyRows l D cy b1 (z1 + 7) a (o + 7) 4 6 (by decide) (by decide) (gX0_rules T1) (gX0_rules S15) (H).size) ⟨va_cnB (y := yX11_copyRows) 2 hts gX0_copyFrom_X11_copyRows_n109 rfl rfl rfl (hG.2.2.1 (.methodLinkNest "PianoRounds$Competition" 109 ⟨"PianoRounds", "copyRows", "([[I[[I)V"⟩ "PianoRounds") (by decide +kernel)) (hts (.initialized RX11) (by decide +kernel)) (by decide +kernel) ⟨Nat.le_of_ble_eq_true rfl, Nat.le_of_ble_eq_true rfl⟩, hts (.static yX11_copyRows) (by decide +kernel), trivial⟩ hp rfl rfl hl.1 rfl (lv_room (Nat.le_of_ble_eq_true rfl)) dX0_copyFrom_62 ⟨Nat.zero_le _, Nat.zero_le _⟩) hG hP hD hS hA (pm2r (X := ((hX0 a o S15) ++ ((wX10 cy a (o + 1) (gX0_works S15)) ++ (wX2 cy a (o + 5) (gX0_entrants S15))))) (c1 := (rowsW (cy 2) (cy 0) b1 (z1 + 7) 4 6 (gX0_rules T1))) (Y := ((wX4 cy a (o + 12) (gX0_programs S15)) ++ ((wX3 cy a (o + 14) (gX0_jury S15)) ++ ((wX7 cy a (o + 23) (gX0_stage S15)) ++ ((wX6 cy a (o + 26) (gX0_sheet S15)) ++ ((wX9 cy a (o + 35) (gX0_tie S15)) ++ ((rowsW (cy 2) (cy 0) a (o + 46) 4 12 (gX0_closedScores S15)) ++ ((wX1 cy a (o + 51) (gX0_cut S15)) ++ ((hX0 b1 z1 T1) ++ ((wX10 cy b1 (z1 + 1) (gX0_works T1)) ++ (wX2 cy b1 (z1 + 5) (gX0_entrants T1)))))))))))) (c2 := (rowsW (cy 2) (cy 0) a (o + 7) 4 6 (gX0_rules S15))) (Z := ((wX4 cy b1 (z1 + 12) (gX0_programs T1)) ++ ((wX3 cy b1 (z1 + 14) (gX0_jury T1)) ++ ((wX7 cy b1 (z1 + 23) (gX0_stage T1)) ++ ((wX6 cy b1 (z1 + 26) (gX0_sheet T1)) ++ ((wX9 cy b1 (z1 + 35) (gX0_tie T1)) ++ ((rowsW (cy 2) (cy 0) b1 (z1 + 46) 4 12 (gX0_closedScores T1)) ++ (wX1 cy b1 (z1 + 51) (gX0_cut T1))))))))) (show ((wX0 cy a o S15) ++ (wX0 cy b1 z1 T1)) = ((hX0 a o S15) ++ ((wX10 cy a (o + 1) (gX0_works S15)) ++ (wX2 cy a (o + 5) (gX0_entrants S15)))) ++ ((rowsW (cy 2) (cy 0) a (o + 7) 4 6 (gX0_rules S15)) ++ (((wX4 cy a (o + 12) (gX0_programs S15)) ++ ((wX3 cy a (o + 14) (gX0_jury S15)) ++ ((wX7 cy a (o + 23) (gX0_stage S15)) ++ ((wX6 cy a (o + 26) (gX0_sheet S15)) ++ ((wX9 cy a (o + 35) (gX0_tie S15)) ++ ((rowsW (cy 2) (cy 0) a (o + 46) 4 12 (gX0_closedScores S15)) ++ ((wX1 cy a (o + 51) (gX0_cut S15)) ++ ((hX0 b1 z1 T1) ++ ((wX10 cy b1 (z1 + 1) (gX0_works T1)) ++ (wX2 cy b1 (z1 + 5) (gX0_entrants T1))))))))))) ++ ((rowsW (cy 2) (cy 0) b1 (z1 + 7) 4 6 (gX0_rules T1)) ++ ((wX4 cy b1 (z1 + 12) (gX0_programs T1)) ++ ((wX3 cy b1 (z1 + 14) (gX0_jury T1)) ++ ((wX7 cy b1 (z1 + 23) (gX0_stage T1)) ++ ((wX6 cy b1 (z1 + 26) (gX0_sheet T1)) ++ ((wX9 cy b1 (z1 + 35) (gX0_tie T1)) ++ ((rowsW (cy 2) (cy 0) b1 (z1 + 46) 4 12 (gX0_closedScores T1)) ++ (wX1 cy b1 (z1 + 51) (gX0_cut T1))))))))))) from by simp only [wX0, List.append_assoc, List.nil_append, List.append_nil] <;> rfl)) (pm2r (X := ((hX0 a o S15) ++ ((wX10 cy a (o + 1) (gX0_works S15)) ++ (wX2 cy a (o + 5) (gX0_entrants S15))))) (c1 := (rowsW (cy 2) (cy 0) b1 (z1 + 7) 4 6 (gX0_rules T1))) (Y := ((wX4 cy a (o + 12) (gX0_programs S15)) ++ ((wX3 cy a (o + 14) (gX0_jury S15)) ++ ((wX7 cy a (o + 23) (gX0_stage S15)) ++ ((wX6 cy a (o + 26) (gX0_sheet S15)) ++ ((wX9 cy a (o + 35) (gX0_tie S15)) ++ ((rowsW (cy 2) (cy 0) a (o + 46) 4 12 (gX0_closedScores S15)) ++ ((wX1 cy a (o + 51) (gX0_cut S15)) ++ ((hX0 b1 z1 T1) ++ ((wX10 cy b1 (z1 + 1) (gX0_works T1)) ++ (wX2 cy b1 (z1 + 5) (gX0_entrants T1)))))))))))) (c2 := (rowsW (cy 2) (cy 0) a (o + 7) 4 6 (gX0_rules T1))) (Z := ((wX4 cy b1 (z1 + 12) (gX0_programs T1)) ++ ((wX3 cy b1 (z1 + 14) (gX0_jury T1)) ++ ((wX7 cy b1 (z1 + 23) (gX0_stage T1)) ++ ((wX6 cy b1 (z1 + 26) (gX0_sheet T1)) ++ ((wX9 cy b1 (z1 + 35) (gX0_tie T1)) ++ ((rowsW (cy 2) (cy 0) b1 (z1 + 46) 4 12 (gX0_closedScores T1)) ++ (wX1 cy b1 (z1 + 51) (gX0_cut T1))))))))) (show ((wX0 cy a o (uX0_rules S15 (gX0_rules T1))) ++ (wX0 cy b1 z1 T1)) = ((hX0 a o S15) ++ ((wX10 cy a (o + 1) (gX0_works S15)) ++ (wX2 cy a (o + 5) (gX0_entrants S15)))) ++ ((rowsW (cy 2) (cy 0) a (o + 7) 4 6 (gX0_rules T1)) ++ (((wX4 cy a (o + 12) (gX0_programs S15)) ++ ((wX3 cy a (o + 14) (gX0_jury S15)) ++ ((wX7 cy a (o + 23) (gX0_stage S15)) ++ ((wX6 cy a (o + 26) (gX0_sheet S15)) ++ ((wX9 cy a (o + 35) (gX0_tie S15)) ++ ((rowsW (cy 2) (cy 0) a (o + 46) 4 12 (gX0_closedScores S15)) ++ ((wX1 cy a (o + 51) (gX0_cut S15)) ++ ((hX0 b1 z1 T1) ++ ((wX10 cy b1 (z1 + 1) (gX0_works T1)) ++ (wX2 cy b1 (z1 + 5) (gX0_entrants T1))))))))))) ++ ((rowsW (cy 2) (cy 0) b1 (z1 + 7) 4 6 (gX0_rules T1)) ++ ((wX4 cy b1 (z1 + 12) (gX0_programs T1)) ++ ((wX3 cy b1 (z1 + 14) (gX0_jury T1)) ++ ((wX7 cy b1 (z1 + 23) (gX0_stage T1)) ++ ((wX6 cy b1 (z1 + 26) (gX0_sheet T1)) ++ ((wX9 cy b1 (z1 + 35) (gX0_tie T1)) ++ ((rowsW (cy 2) (cy 0) b1 (z1 + 46) 4 12 (gX0_closedScores T1)) ++ (wX1 cy b1 (z1 + 51) (gX0_cut T1))))))))))) from by simp only [wX0, List.append_assoc, List.nil_append, List.append_nil] <;> rfl)) (fun H locs hP hD hS => ?_)
  obtain ⟨S17, eS18, h⟩ := lt_elim h
  have hP : va_P D vwCl ((wX0 cy a o S17) ++ (wX0 cy b1 z1 T1)) H := by rw [eS18]; exact hP
  have hD : va_D (va_A ((wX0 cy a o S) ++ (wX0 cy b1 z1 T1)) s.heap.size) ((wX0 cy a o S17) ++ (wX0 cy b1 z1 T1)) := by rw [eS18]; exact hD
  refine lv_aload_n hx hb dX0_copyFrom_65 rfl (lv_at hl 0 rfl) ?_
  refine va_get (D := D) (ci := 0) (v := .ref (a (o + 12))) (C := RX0) (T := TX0) (N := 14) hx hb hts hinX0 hown hK hP 0 rfl rfl 7 (by decide) hf43 (fun _ h9 => h9) rfl dX0_copyFrom_66 ?_
  refine lv_aload_n hx hb dX0_copyFrom_69 rfl (lv_at hl 1 rfl) ?_
  refine va_get (D := D) (ci := 0) (v := .ref (b1 (z1 + 12))) (C := RX0) (T := TX0) (N := 14) hx hb hts hinX0 hown hK hP 53 rfl rfl 7 (by decide) hf43 (fun _ h9 => h9) rfl dX0_copyFrom_70 ?_
  obtain ⟨x19, e20, h⟩ := bd_some h
  refine smVv (As := [.ref (b1 (z1 + 12))]) (rest := []) (ws' := ((wX0 cy a o (uX0_programs S17 x19)) ++ (wX0 cy b1 z1 T1))) (q0 := 0) (qX4_copyFrom l D cy a (o + 12) b1 (z1 + 12) (gX0_programs S17) (gX0_programs T1)  (H).size x19 e20) ⟨hx, hb, hml, hown, hts⟩ (cwV 1 hts gX0_copyFrom_X4_copyFrom rfl rfl rfl (by decide +kernel) ⟨Nat.le_of_ble_eq_true rfl, Nat.le_of_ble_eq_true rfl⟩) hG hP hD hS hA (pm2 (X := ((hX0 a o S17) ++ ((wX10 cy a (o + 1) (gX0_works S17)) ++ ((wX2 cy a (o + 5) (gX0_entrants S17)) ++ (rowsW (cy 2) (cy 0) a (o + 7) 4 6 (gX0_rules S17)))))) (c1 := (wX4 cy a (o + 12) (gX0_programs S17))) (Y := ((wX3 cy a (o + 14) (gX0_jury S17)) ++ ((wX7 cy a (o + 23) (gX0_stage S17)) ++ ((wX6 cy a (o + 26) (gX0_sheet S17)) ++ ((wX9 cy a (o + 35) (gX0_tie S17)) ++ ((rowsW (cy 2) (cy 0) a (o + 46) 4 12 (gX0_closedScores S17)) ++ ((wX1 cy a (o + 51) (gX0_cut S17)) ++ ((hX0 b1 z1 T1) ++ ((wX10 cy b1 (z1 + 1) (gX0_works T1)) ++ ((wX2 cy b1 (z1 + 5) (gX0_entrants T1)) ++ (rowsW (cy 2) (cy 0) b1 (z1 + 7) 4 6 (gX0_rules T1)))))))))))) (c2 := (wX4 cy b1 (z1 + 12) (gX0_programs T1))) (Z := ((wX3 cy b1 (z1 + 14) (gX0_jury T1)) ++ ((wX7 cy b1 (z1 + 23) (gX0_stage T1)) ++ ((wX6 cy b1 (z1 + 26) (gX0_sheet T1)) ++ ((wX9 cy b1 (z1 + 35) (gX0_tie T1)) ++ ((rowsW (cy 2) (cy 0) b1 (z1 + 46) 4 12 (gX0_closedScores T1)) ++ (wX1 cy b1 (z1 + 51) (gX0_cut T1)))))))) (show ((wX0 cy a o S17) ++ (wX0 cy b1 z1 T1)) = ((hX0 a o S17) ++ ((wX10 cy a (o + 1) (gX0_works S17)) ++ ((wX2 cy a (o + 5) (gX0_entrants S17)) ++ (rowsW (cy 2) (cy 0) a (o + 7) 4 6 (gX0_rules S17))))) ++ ((wX4 cy a (o + 12) (gX0_programs S17)) ++ (((wX3 cy a (o + 14) (gX0_jury S17)) ++ ((wX7 cy a (o + 23) (gX0_stage S17)) ++ ((wX6 cy a (o + 26) (gX0_sheet S17)) ++ ((wX9 cy a (o + 35) (gX0_tie S17)) ++ ((rowsW (cy 2) (cy 0) a (o + 46) 4 12 (gX0_closedScores S17)) ++ ((wX1 cy a (o + 51) (gX0_cut S17)) ++ ((hX0 b1 z1 T1) ++ ((wX10 cy b1 (z1 + 1) (gX0_works T1)) ++ ((wX2 cy b1 (z1 + 5) (gX0_entrants T1)) ++ (rowsW (cy 2) (cy 0) b1 (z1 + 7) 4 6 (gX0_rules T1))))))))))) ++ ((wX4 cy b1 (z1 + 12) (gX0_programs T1)) ++ ((wX3 cy b1 (z1 + 14) (gX0_jury T1)) ++ ((wX7 cy b1 (z1 + 23) (gX0_stage T1)) ++ ((wX6 cy b1 (z1 + 26) (gX0_sheet T1)) ++ ((wX9 cy b1 (z1 + 35) (gX0_tie T1)) ++ ((rowsW (cy 2) (cy 0) b1 (z1 + 46) 4 12 (gX0_closedScores T1)) ++ (wX1 cy b1 (z1 + 51) (gX0_cut T1)))))))))) from by simp only [wX0, List.append_assoc, List.nil_append, List.append_nil] <;> rfl)) (pm2 (X := ((hX0 a o S17) ++ ((wX10 cy a (o + 1) (gX0_works S17)) ++ ((wX2 cy a (o + 5) (gX0_entrants S17)) ++ (rowsW (cy 2) (cy 0) a (o + 7) 4 6 (gX0_rules S17)))))) (c1 := (wX4 cy a (o + 12) x19)) (Y := ((wX3 cy a (o + 14) (gX0_jury S17)) ++ ((wX7 cy a (o + 23) (gX0_stage S17)) ++ ((wX6 cy a (o + 26) (gX0_sheet S17)) ++ ((wX9 cy a (o + 35) (gX0_tie S17)) ++ ((rowsW (cy 2) (cy 0) a (o + 46) 4 12 (gX0_closedScores S17)) ++ ((wX1 cy a (o + 51) (gX0_cut S17)) ++ ((hX0 b1 z1 T1) ++ ((wX10 cy b1 (z1 + 1) (gX0_works T1)) ++ ((wX2 cy b1 (z1 + 5) (gX0_entrants T1)) ++ (rowsW (cy 2) (cy 0) b1 (z1 + 7) 4 6 (gX0_rules T1)))))))))))) (c2 := (wX4 cy b1 (z1 + 12) (gX0_programs T1))) (Z := ((wX3 cy b1 (z1 + 14) (gX0_jury T1)) ++ ((wX7 cy b1 (z1 + 23) (gX0_stage T1)) ++ ((wX6 cy b1 (z1 + 26) (gX0_sheet T1)) ++ ((wX9 cy b1 (z1 + 35) (gX0_tie T1)) ++ ((rowsW (cy 2) (cy 0) b1 (z1 + 46) 4 12 (gX0_closedScores T1)) ++ (wX1 cy b1 (z1 + 51) (gX0_cut T1)))))))) (show ((wX0 cy a o (uX0_programs S17 x19)) ++ (wX0 cy b1 z1 T1)) = ((hX0 a o S17) ++ ((wX10 cy a (o + 1) (gX0_works S17)) ++ ((wX2 cy a (o + 5) (gX0_entrants S17)) ++ (rowsW (cy 2) (cy 0) a (o + 7) 4 6 (gX0_rules S17))))) ++ ((wX4 cy a (o + 12) x19) ++ (((wX3 cy a (o + 14) (gX0_jury S17)) ++ ((wX7 cy a (o + 23) (gX0_stage S17)) ++ ((wX6 cy a (o + 26) (gX0_sheet S17)) ++ ((wX9 cy a (o + 35) (gX0_tie S17)) ++ ((rowsW (cy 2) (cy 0) a (o + 46) 4 12 (gX0_closedScores S17)) ++ ((wX1 cy a (o + 51) (gX0_cut S17)) ++ ((hX0 b1 z1 T1) ++ ((wX10 cy b1 (z1 + 1) (gX0_works T1)) ++ ((wX2 cy b1 (z1 + 5) (gX0_entrants T1)) ++ (rowsW (cy 2) (cy 0) b1 (z1 + 7) 4 6 (gX0_rules T1))))))))))) ++ ((wX4 cy b1 (z1 + 12) (gX0_programs T1)) ++ ((wX3 cy b1 (z1 + 14) (gX0_jury T1)) ++ ((wX7 cy b1 (z1 + 23) (gX0_stage T1)) ++ ((wX6 cy b1 (z1 + 26) (gX0_sheet T1)) ++ ((wX9 cy b1 (z1 + 35) (gX0_tie T1)) ++ ((rowsW (cy 2) (cy 0) b1 (z1 + 46) 4 12 (gX0_closedScores T1)) ++ (wX1 cy b1 (z1 + 51) (gX0_cut T1)))))))))) from by simp only [wX0, List.append_assoc, List.nil_append, List.append_nil] <;> rfl)) rfl rfl rfl hl.1 rfl (Nat.le_of_ble_eq_true rfl) dX0_copyFrom_73 ⟨Nat.zero_le _, Nat.zero_le _⟩ (fun H locs hP hD hS => ?_)
  obtain ⟨S21, eS22, h⟩ := lt_elim h
  have hP : va_P D vwCl ((wX0 cy a o S21) ++ (wX0 cy b1 z1 T1)) H := by rw [eS22]; exact hP
  have hD : va_D (va_A ((wX0 cy a o S) ++ (wX0 cy b1 z1 T1)) s.heap.size) ((wX0 cy a o S21) ++ (wX0 cy b1 z1 T1)) := by rw [eS22]; exact hD
  refine lv_aload_n hx hb dX0_copyFrom_76 rfl (lv_at hl 0 rfl) ?_
  refine va_get (D := D) (ci := 0) (v := .ref (a (o + 14))) (C := RX0) (T := TX0) (N := 14) hx hb hts hinX0 hown hK hP 0 rfl rfl 8 (by decide) hf50 (fun _ h9 => h9) rfl dX0_copyFrom_77 ?_
  refine lv_aload_n hx hb dX0_copyFrom_80 rfl (lv_at hl 1 rfl) ?_
  refine va_get (D := D) (ci := 0) (v := .ref (b1 (z1 + 14))) (C := RX0) (T := TX0) (N := 14) hx hb hts hinX0 hown hK hP 53 rfl rfl 8 (by decide) hf50 (fun _ h9 => h9) rfl dX0_copyFrom_81 ?_
  obtain ⟨x23, e24, h⟩ := bd_some h
  refine smVv (As := [.ref (b1 (z1 + 14))]) (rest := []) (ws' := ((wX0 cy a o (uX0_jury S21 x23)) ++ (wX0 cy b1 z1 T1))) (q0 := 0) (qX3_copyFrom l D cy a (o + 14) b1 (z1 + 14) (gX0_jury S21) (gX0_jury T1)  (H).size x23 e24) ⟨hx, hb, hml, hown, hts⟩ (cwV 1 hts gX0_copyFrom_X3_copyFrom rfl rfl rfl (by decide +kernel) ⟨Nat.le_of_ble_eq_true rfl, Nat.le_of_ble_eq_true rfl⟩) hG hP hD hS hA (pm2 (X := ((hX0 a o S21) ++ ((wX10 cy a (o + 1) (gX0_works S21)) ++ ((wX2 cy a (o + 5) (gX0_entrants S21)) ++ ((rowsW (cy 2) (cy 0) a (o + 7) 4 6 (gX0_rules S21)) ++ (wX4 cy a (o + 12) (gX0_programs S21))))))) (c1 := (wX3 cy a (o + 14) (gX0_jury S21))) (Y := ((wX7 cy a (o + 23) (gX0_stage S21)) ++ ((wX6 cy a (o + 26) (gX0_sheet S21)) ++ ((wX9 cy a (o + 35) (gX0_tie S21)) ++ ((rowsW (cy 2) (cy 0) a (o + 46) 4 12 (gX0_closedScores S21)) ++ ((wX1 cy a (o + 51) (gX0_cut S21)) ++ ((hX0 b1 z1 T1) ++ ((wX10 cy b1 (z1 + 1) (gX0_works T1)) ++ ((wX2 cy b1 (z1 + 5) (gX0_entrants T1)) ++ ((rowsW (cy 2) (cy 0) b1 (z1 + 7) 4 6 (gX0_rules T1)) ++ (wX4 cy b1 (z1 + 12) (gX0_programs T1)))))))))))) (c2 := (wX3 cy b1 (z1 + 14) (gX0_jury T1))) (Z := ((wX7 cy b1 (z1 + 23) (gX0_stage T1)) ++ ((wX6 cy b1 (z1 + 26) (gX0_sheet T1)) ++ ((wX9 cy b1 (z1 + 35) (gX0_tie T1)) ++ ((rowsW (cy 2) (cy 0) b1 (z1 + 46) 4 12 (gX0_closedScores T1)) ++ (wX1 cy b1 (z1 + 51) (gX0_cut T1))))))) (show ((wX0 cy a o S21) ++ (wX0 cy b1 z1 T1)) = ((hX0 a o S21) ++ ((wX10 cy a (o + 1) (gX0_works S21)) ++ ((wX2 cy a (o + 5) (gX0_entrants S21)) ++ ((rowsW (cy 2) (cy 0) a (o + 7) 4 6 (gX0_rules S21)) ++ (wX4 cy a (o + 12) (gX0_programs S21)))))) ++ ((wX3 cy a (o + 14) (gX0_jury S21)) ++ (((wX7 cy a (o + 23) (gX0_stage S21)) ++ ((wX6 cy a (o + 26) (gX0_sheet S21)) ++ ((wX9 cy a (o + 35) (gX0_tie S21)) ++ ((rowsW (cy 2) (cy 0) a (o + 46) 4 12 (gX0_closedScores S21)) ++ ((wX1 cy a (o + 51) (gX0_cut S21)) ++ ((hX0 b1 z1 T1) ++ ((wX10 cy b1 (z1 + 1) (gX0_works T1)) ++ ((wX2 cy b1 (z1 + 5) (gX0_entrants T1)) ++ ((rowsW (cy 2) (cy 0) b1 (z1 + 7) 4 6 (gX0_rules T1)) ++ (wX4 cy b1 (z1 + 12) (gX0_programs T1))))))))))) ++ ((wX3 cy b1 (z1 + 14) (gX0_jury T1)) ++ ((wX7 cy b1 (z1 + 23) (gX0_stage T1)) ++ ((wX6 cy b1 (z1 + 26) (gX0_sheet T1)) ++ ((wX9 cy b1 (z1 + 35) (gX0_tie T1)) ++ ((rowsW (cy 2) (cy 0) b1 (z1 + 46) 4 12 (gX0_closedScores T1)) ++ (wX1 cy b1 (z1 + 51) (gX0_cut T1))))))))) from by simp only [wX0, List.append_assoc, List.nil_append, List.append_nil] <;> rfl)) (pm2 (X := ((hX0 a o S21) ++ ((wX10 cy a (o + 1) (gX0_works S21)) ++ ((wX2 cy a (o + 5) (gX0_entrants S21)) ++ ((rowsW (cy 2) (cy 0) a (o + 7) 4 6 (gX0_rules S21)) ++ (wX4 cy a (o + 12) (gX0_programs S21))))))) (c1 := (wX3 cy a (o + 14) x23)) (Y := ((wX7 cy a (o + 23) (gX0_stage S21)) ++ ((wX6 cy a (o + 26) (gX0_sheet S21)) ++ ((wX9 cy a (o + 35) (gX0_tie S21)) ++ ((rowsW (cy 2) (cy 0) a (o + 46) 4 12 (gX0_closedScores S21)) ++ ((wX1 cy a (o + 51) (gX0_cut S21)) ++ ((hX0 b1 z1 T1) ++ ((wX10 cy b1 (z1 + 1) (gX0_works T1)) ++ ((wX2 cy b1 (z1 + 5) (gX0_entrants T1)) ++ ((rowsW (cy 2) (cy 0) b1 (z1 + 7) 4 6 (gX0_rules T1)) ++ (wX4 cy b1 (z1 + 12) (gX0_programs T1)))))))))))) (c2 := (wX3 cy b1 (z1 + 14) (gX0_jury T1))) (Z := ((wX7 cy b1 (z1 + 23) (gX0_stage T1)) ++ ((wX6 cy b1 (z1 + 26) (gX0_sheet T1)) ++ ((wX9 cy b1 (z1 + 35) (gX0_tie T1)) ++ ((rowsW (cy 2) (cy 0) b1 (z1 + 46) 4 12 (gX0_closedScores T1)) ++ (wX1 cy b1 (z1 + 51) (gX0_cut T1))))))) (show ((wX0 cy a o (uX0_jury S21 x23)) ++ (wX0 cy b1 z1 T1)) = ((hX0 a o S21) ++ ((wX10 cy a (o + 1) (gX0_works S21)) ++ ((wX2 cy a (o + 5) (gX0_entrants S21)) ++ ((rowsW (cy 2) (cy 0) a (o + 7) 4 6 (gX0_rules S21)) ++ (wX4 cy a (o + 12) (gX0_programs S21)))))) ++ ((wX3 cy a (o + 14) x23) ++ (((wX7 cy a (o + 23) (gX0_stage S21)) ++ ((wX6 cy a (o + 26) (gX0_sheet S21)) ++ ((wX9 cy a (o + 35) (gX0_tie S21)) ++ ((rowsW (cy 2) (cy 0) a (o + 46) 4 12 (gX0_closedScores S21)) ++ ((wX1 cy a (o + 51) (gX0_cut S21)) ++ ((hX0 b1 z1 T1) ++ ((wX10 cy b1 (z1 + 1) (gX0_works T1)) ++ ((wX2 cy b1 (z1 + 5) (gX0_entrants T1)) ++ ((rowsW (cy 2) (cy 0) b1 (z1 + 7) 4 6 (gX0_rules T1)) ++ (wX4 cy b1 (z1 + 12) (gX0_programs T1))))))))))) ++ ((wX3 cy b1 (z1 + 14) (gX0_jury T1)) ++ ((wX7 cy b1 (z1 + 23) (gX0_stage T1)) ++ ((wX6 cy b1 (z1 + 26) (gX0_sheet T1)) ++ ((wX9 cy b1 (z1 + 35) (gX0_tie T1)) ++ ((rowsW (cy 2) (cy 0) b1 (z1 + 46) 4 12 (gX0_closedScores T1)) ++ (wX1 cy b1 (z1 + 51) (gX0_cut T1))))))))) from by simp only [wX0, List.append_assoc, List.nil_append, List.append_nil] <;> rfl)) rfl rfl rfl hl.1 rfl (Nat.le_of_ble_eq_true rfl) dX0_copyFrom_84 ⟨Nat.zero_le _, Nat.zero_le _⟩ (fun H locs hP hD hS => ?_)
  obtain ⟨S25, eS26, h⟩ := lt_elim h
  have hP : va_P D vwCl ((wX0 cy a o S25) ++ (wX0 cy b1 z1 T1)) H := by rw [eS26]; exact hP
  have hD : va_D (va_A ((wX0 cy a o S) ++ (wX0 cy b1 z1 T1)) s.heap.size) ((wX0 cy a o S25) ++ (wX0 cy b1 z1 T1)) := by rw [eS26]; exact hD
  refine lv_aload_n hx hb dX0_copyFrom_87 rfl (lv_at hl 0 rfl) ?_
  refine va_get (D := D) (ci := 0) (v := .ref (a (o + 23))) (C := RX0) (T := TX0) (N := 14) hx hb hts hinX0 hown hK hP 0 rfl rfl 9 (by decide) hf57 (fun _ h9 => h9) rfl dX0_copyFrom_88 ?_
  refine lv_aload_n hx hb dX0_copyFrom_91 rfl (lv_at hl 1 rfl) ?_
  refine va_get (D := D) (ci := 0) (v := .ref (b1 (z1 + 23))) (C := RX0) (T := TX0) (N := 14) hx hb hts hinX0 hown hK hP 53 rfl rfl 9 (by decide) hf57 (fun _ h9 => h9) rfl dX0_copyFrom_92 ?_
  obtain ⟨x27, e28, h⟩ := bd_some h
  refine smVv (As := [.ref (b1 (z1 + 23))]) (rest := []) (ws' := ((wX0 cy a o (uX0_stage S25 x27)) ++ (wX0 cy b1 z1 T1))) (q0 := 0) (qX7_copyFrom l D cy a (o + 23) b1 (z1 + 23) (gX0_stage S25) (gX0_stage T1)  (H).size x27 e28) ⟨hx, hb, hml, hown, hts⟩ (cwV 1 hts gX0_copyFrom_X7_copyFrom rfl rfl rfl (by decide +kernel) ⟨Nat.le_of_ble_eq_true rfl, Nat.le_of_ble_eq_true rfl⟩) hG hP hD hS hA (pm2 (X := ((hX0 a o S25) ++ ((wX10 cy a (o + 1) (gX0_works S25)) ++ ((wX2 cy a (o + 5) (gX0_entrants S25)) ++ ((rowsW (cy 2) (cy 0) a (o + 7) 4 6 (gX0_rules S25)) ++ ((wX4 cy a (o + 12) (gX0_programs S25)) ++ (wX3 cy a (o + 14) (gX0_jury S25)))))))) (c1 := (wX7 cy a (o + 23) (gX0_stage S25))) (Y := ((wX6 cy a (o + 26) (gX0_sheet S25)) ++ ((wX9 cy a (o + 35) (gX0_tie S25)) ++ ((rowsW (cy 2) (cy 0) a (o + 46) 4 12 (gX0_closedScores S25)) ++ ((wX1 cy a (o + 51) (gX0_cut S25)) ++ ((hX0 b1 z1 T1) ++ ((wX10 cy b1 (z1 + 1) (gX0_works T1)) ++ ((wX2 cy b1 (z1 + 5) (gX0_entrants T1)) ++ ((rowsW (cy 2) (cy 0) b1 (z1 + 7) 4 6 (gX0_rules T1)) ++ ((wX4 cy b1 (z1 + 12) (gX0_programs T1)) ++ (wX3 cy b1 (z1 + 14) (gX0_jury T1)))))))))))) (c2 := (wX7 cy b1 (z1 + 23) (gX0_stage T1))) (Z := ((wX6 cy b1 (z1 + 26) (gX0_sheet T1)) ++ ((wX9 cy b1 (z1 + 35) (gX0_tie T1)) ++ ((rowsW (cy 2) (cy 0) b1 (z1 + 46) 4 12 (gX0_closedScores T1)) ++ (wX1 cy b1 (z1 + 51) (gX0_cut T1)))))) (show ((wX0 cy a o S25) ++ (wX0 cy b1 z1 T1)) = ((hX0 a o S25) ++ ((wX10 cy a (o + 1) (gX0_works S25)) ++ ((wX2 cy a (o + 5) (gX0_entrants S25)) ++ ((rowsW (cy 2) (cy 0) a (o + 7) 4 6 (gX0_rules S25)) ++ ((wX4 cy a (o + 12) (gX0_programs S25)) ++ (wX3 cy a (o + 14) (gX0_jury S25))))))) ++ ((wX7 cy a (o + 23) (gX0_stage S25)) ++ (((wX6 cy a (o + 26) (gX0_sheet S25)) ++ ((wX9 cy a (o + 35) (gX0_tie S25)) ++ ((rowsW (cy 2) (cy 0) a (o + 46) 4 12 (gX0_closedScores S25)) ++ ((wX1 cy a (o + 51) (gX0_cut S25)) ++ ((hX0 b1 z1 T1) ++ ((wX10 cy b1 (z1 + 1) (gX0_works T1)) ++ ((wX2 cy b1 (z1 + 5) (gX0_entrants T1)) ++ ((rowsW (cy 2) (cy 0) b1 (z1 + 7) 4 6 (gX0_rules T1)) ++ ((wX4 cy b1 (z1 + 12) (gX0_programs T1)) ++ (wX3 cy b1 (z1 + 14) (gX0_jury T1))))))))))) ++ ((wX7 cy b1 (z1 + 23) (gX0_stage T1)) ++ ((wX6 cy b1 (z1 + 26) (gX0_sheet T1)) ++ ((wX9 cy b1 (z1 + 35) (gX0_tie T1)) ++ ((rowsW (cy 2) (cy 0) b1 (z1 + 46) 4 12 (gX0_closedScores T1)) ++ (wX1 cy b1 (z1 + 51) (gX0_cut T1)))))))) from by simp only [wX0, List.append_assoc, List.nil_append, List.append_nil] <;> rfl)) (pm2 (X := ((hX0 a o S25) ++ ((wX10 cy a (o + 1) (gX0_works S25)) ++ ((wX2 cy a (o + 5) (gX0_entrants S25)) ++ ((rowsW (cy 2) (cy 0) a (o + 7) 4 6 (gX0_rules S25)) ++ ((wX4 cy a (o + 12) (gX0_programs S25)) ++ (wX3 cy a (o + 14) (gX0_jury S25)))))))) (c1 := (wX7 cy a (o + 23) x27)) (Y := ((wX6 cy a (o + 26) (gX0_sheet S25)) ++ ((wX9 cy a (o + 35) (gX0_tie S25)) ++ ((rowsW (cy 2) (cy 0) a (o + 46) 4 12 (gX0_closedScores S25)) ++ ((wX1 cy a (o + 51) (gX0_cut S25)) ++ ((hX0 b1 z1 T1) ++ ((wX10 cy b1 (z1 + 1) (gX0_works T1)) ++ ((wX2 cy b1 (z1 + 5) (gX0_entrants T1)) ++ ((rowsW (cy 2) (cy 0) b1 (z1 + 7) 4 6 (gX0_rules T1)) ++ ((wX4 cy b1 (z1 + 12) (gX0_programs T1)) ++ (wX3 cy b1 (z1 + 14) (gX0_jury T1)))))))))))) (c2 := (wX7 cy b1 (z1 + 23) (gX0_stage T1))) (Z := ((wX6 cy b1 (z1 + 26) (gX0_sheet T1)) ++ ((wX9 cy b1 (z1 + 35) (gX0_tie T1)) ++ ((rowsW (cy 2) (cy 0) b1 (z1 + 46) 4 12 (gX0_closedScores T1)) ++ (wX1 cy b1 (z1 + 51) (gX0_cut T1)))))) (show ((wX0 cy a o (uX0_stage S25 x27)) ++ (wX0 cy b1 z1 T1)) = ((hX0 a o S25) ++ ((wX10 cy a (o + 1) (gX0_works S25)) ++ ((wX2 cy a (o + 5) (gX0_entrants S25)) ++ ((rowsW (cy 2) (cy 0) a (o + 7) 4 6 (gX0_rules S25)) ++ ((wX4 cy a (o + 12) (gX0_programs S25)) ++ (wX3 cy a (o + 14) (gX0_jury S25))))))) ++ ((wX7 cy a (o + 23) x27) ++ (((wX6 cy a (o + 26) (gX0_sheet S25)) ++ ((wX9 cy a (o + 35) (gX0_tie S25)) ++ ((rowsW (cy 2) (cy 0) a (o + 46) 4 12 (gX0_closedScores S25)) ++ ((wX1 cy a (o + 51) (gX0_cut S25)) ++ ((hX0 b1 z1 T1) ++ ((wX10 cy b1 (z1 + 1) (gX0_works T1)) ++ ((wX2 cy b1 (z1 + 5) (gX0_entrants T1)) ++ ((rowsW (cy 2) (cy 0) b1 (z1 + 7) 4 6 (gX0_rules T1)) ++ ((wX4 cy b1 (z1 + 12) (gX0_programs T1)) ++ (wX3 cy b1 (z1 + 14) (gX0_jury T1))))))))))) ++ ((wX7 cy b1 (z1 + 23) (gX0_stage T1)) ++ ((wX6 cy b1 (z1 + 26) (gX0_sheet T1)) ++ ((wX9 cy b1 (z1 + 35) (gX0_tie T1)) ++ ((rowsW (cy 2) (cy 0) b1 (z1 + 46) 4 12 (gX0_closedScores T1)) ++ (wX1 cy b1 (z1 + 51) (gX0_cut T1)))))))) from by simp only [wX0, List.append_assoc, List.nil_append, List.append_nil] <;> rfl)) rfl rfl rfl hl.1 rfl (Nat.le_of_ble_eq_true rfl) dX0_copyFrom_95 ⟨Nat.zero_le _, Nat.zero_le _⟩ (fun H locs hP hD hS => ?_)
  obtain ⟨S29, eS30, h⟩ := lt_elim h
  have hP : va_P D vwCl ((wX0 cy a o S29) ++ (wX0 cy b1 z1 T1)) H := by rw [eS30]; exact hP
  have hD : va_D (va_A ((wX0 cy a o S) ++ (wX0 cy b1 z1 T1)) s.heap.size) ((wX0 cy a o S29) ++ (wX0 cy b1 z1 T1)) := by rw [eS30]; exact hD
  refine lv_aload_n hx hb dX0_copyFrom_98 rfl (lv_at hl 0 rfl) ?_
  refine va_get (D := D) (ci := 0) (v := .ref (a (o + 26))) (C := RX0) (T := TX0) (N := 14) hx hb hts hinX0 hown hK hP 0 rfl rfl 10 (by decide) hf64 (fun _ h9 => h9) rfl dX0_copyFrom_99 ?_
  refine lv_aload_n hx hb dX0_copyFrom_102 rfl (lv_at hl 1 rfl) ?_
  refine va_get (D := D) (ci := 0) (v := .ref (b1 (z1 + 26))) (C := RX0) (T := TX0) (N := 14) hx hb hts hinX0 hown hK hP 53 rfl rfl 10 (by decide) hf64 (fun _ h9 => h9) rfl dX0_copyFrom_103 ?_
  obtain ⟨x31, e32, h⟩ := bd_some h
  refine smVv (As := [.ref (b1 (z1 + 26))]) (rest := []) (ws' := ((wX0 cy a o (uX0_sheet S29 x31)) ++ (wX0 cy b1 z1 T1))) (q0 := 0) (qX6_copyFrom l D cy a (o + 26) b1 (z1 + 26) (gX0_sheet S29) (gX0_sheet T1)  (H).size x31 e32) ⟨hx, hb, hml, hown, hts⟩ (cwV 1 hts gX0_copyFrom_X6_copyFrom rfl rfl rfl (by decide +kernel) ⟨Nat.le_of_ble_eq_true rfl, Nat.le_of_ble_eq_true rfl⟩) hG hP hD hS hA (pm2 (X := ((hX0 a o S29) ++ ((wX10 cy a (o + 1) (gX0_works S29)) ++ ((wX2 cy a (o + 5) (gX0_entrants S29)) ++ ((rowsW (cy 2) (cy 0) a (o + 7) 4 6 (gX0_rules S29)) ++ ((wX4 cy a (o + 12) (gX0_programs S29)) ++ ((wX3 cy a (o + 14) (gX0_jury S29)) ++ (wX7 cy a (o + 23) (gX0_stage S29))))))))) (c1 := (wX6 cy a (o + 26) (gX0_sheet S29))) (Y := ((wX9 cy a (o + 35) (gX0_tie S29)) ++ ((rowsW (cy 2) (cy 0) a (o + 46) 4 12 (gX0_closedScores S29)) ++ ((wX1 cy a (o + 51) (gX0_cut S29)) ++ ((hX0 b1 z1 T1) ++ ((wX10 cy b1 (z1 + 1) (gX0_works T1)) ++ ((wX2 cy b1 (z1 + 5) (gX0_entrants T1)) ++ ((rowsW (cy 2) (cy 0) b1 (z1 + 7) 4 6 (gX0_rules T1)) ++ ((wX4 cy b1 (z1 + 12) (gX0_programs T1)) ++ ((wX3 cy b1 (z1 + 14) (gX0_jury T1)) ++ (wX7 cy b1 (z1 + 23) (gX0_stage T1)))))))))))) (c2 := (wX6 cy b1 (z1 + 26) (gX0_sheet T1))) (Z := ((wX9 cy b1 (z1 + 35) (gX0_tie T1)) ++ ((rowsW (cy 2) (cy 0) b1 (z1 + 46) 4 12 (gX0_closedScores T1)) ++ (wX1 cy b1 (z1 + 51) (gX0_cut T1))))) (show ((wX0 cy a o S29) ++ (wX0 cy b1 z1 T1)) = ((hX0 a o S29) ++ ((wX10 cy a (o + 1) (gX0_works S29)) ++ ((wX2 cy a (o + 5) (gX0_entrants S29)) ++ ((rowsW (cy 2) (cy 0) a (o + 7) 4 6 (gX0_rules S29)) ++ ((wX4 cy a (o + 12) (gX0_programs S29)) ++ ((wX3 cy a (o + 14) (gX0_jury S29)) ++ (wX7 cy a (o + 23) (gX0_stage S29)))))))) ++ ((wX6 cy a (o + 26) (gX0_sheet S29)) ++ (((wX9 cy a (o + 35) (gX0_tie S29)) ++ ((rowsW (cy 2) (cy 0) a (o + 46) 4 12 (gX0_closedScores S29)) ++ ((wX1 cy a (o + 51) (gX0_cut S29)) ++ ((hX0 b1 z1 T1) ++ ((wX10 cy b1 (z1 + 1) (gX0_works T1)) ++ ((wX2 cy b1 (z1 + 5) (gX0_entrants T1)) ++ ((rowsW (cy 2) (cy 0) b1 (z1 + 7) 4 6 (gX0_rules T1)) ++ ((wX4 cy b1 (z1 + 12) (gX0_programs T1)) ++ ((wX3 cy b1 (z1 + 14) (gX0_jury T1)) ++ (wX7 cy b1 (z1 + 23) (gX0_stage T1))))))))))) ++ ((wX6 cy b1 (z1 + 26) (gX0_sheet T1)) ++ ((wX9 cy b1 (z1 + 35) (gX0_tie T1)) ++ ((rowsW (cy 2) (cy 0) b1 (z1 + 46) 4 12 (gX0_closedScores T1)) ++ (wX1 cy b1 (z1 + 51) (gX0_cut T1))))))) from by simp only [wX0, List.append_assoc, List.nil_append, List.append_nil] <;> rfl)) (pm2 (X := ((hX0 a o S29) ++ ((wX10 cy a (o + 1) (gX0_works S29)) ++ ((wX2 cy a (o + 5) (gX0_entrants S29)) ++ ((rowsW (cy 2) (cy 0) a (o + 7) 4 6 (gX0_rules S29)) ++ ((wX4 cy a (o + 12) (gX0_programs S29)) ++ ((wX3 cy a (o + 14) (gX0_jury S29)) ++ (wX7 cy a (o + 23) (gX0_stage S29))))))))) (c1 := (wX6 cy a (o + 26) x31)) (Y := ((wX9 cy a (o + 35) (gX0_tie S29)) ++ ((rowsW (cy 2) (cy 0) a (o + 46) 4 12 (gX0_closedScores S29)) ++ ((wX1 cy a (o + 51) (gX0_cut S29)) ++ ((hX0 b1 z1 T1) ++ ((wX10 cy b1 (z1 + 1) (gX0_works T1)) ++ ((wX2 cy b1 (z1 + 5) (gX0_entrants T1)) ++ ((rowsW (cy 2) (cy 0) b1 (z1 + 7) 4 6 (gX0_rules T1)) ++ ((wX4 cy b1 (z1 + 12) (gX0_programs T1)) ++ ((wX3 cy b1 (z1 + 14) (gX0_jury T1)) ++ (wX7 cy b1 (z1 + 23) (gX0_stage T1)))))))))))) (c2 := (wX6 cy b1 (z1 + 26) (gX0_sheet T1))) (Z := ((wX9 cy b1 (z1 + 35) (gX0_tie T1)) ++ ((rowsW (cy 2) (cy 0) b1 (z1 + 46) 4 12 (gX0_closedScores T1)) ++ (wX1 cy b1 (z1 + 51) (gX0_cut T1))))) (show ((wX0 cy a o (uX0_sheet S29 x31)) ++ (wX0 cy b1 z1 T1)) = ((hX0 a o S29) ++ ((wX10 cy a (o + 1) (gX0_works S29)) ++ ((wX2 cy a (o + 5) (gX0_entrants S29)) ++ ((rowsW (cy 2) (cy 0) a (o + 7) 4 6 (gX0_rules S29)) ++ ((wX4 cy a (o + 12) (gX0_programs S29)) ++ ((wX3 cy a (o + 14) (gX0_jury S29)) ++ (wX7 cy a (o + 23) (gX0_stage S29)))))))) ++ ((wX6 cy a (o + 26) x31) ++ (((wX9 cy a (o + 35) (gX0_tie S29)) ++ ((rowsW (cy 2) (cy 0) a (o + 46) 4 12 (gX0_closedScores S29)) ++ ((wX1 cy a (o + 51) (gX0_cut S29)) ++ ((hX0 b1 z1 T1) ++ ((wX10 cy b1 (z1 + 1) (gX0_works T1)) ++ ((wX2 cy b1 (z1 + 5) (gX0_entrants T1)) ++ ((rowsW (cy 2) (cy 0) b1 (z1 + 7) 4 6 (gX0_rules T1)) ++ ((wX4 cy b1 (z1 + 12) (gX0_programs T1)) ++ ((wX3 cy b1 (z1 + 14) (gX0_jury T1)) ++ (wX7 cy b1 (z1 + 23) (gX0_stage T1))))))))))) ++ ((wX6 cy b1 (z1 + 26) (gX0_sheet T1)) ++ ((wX9 cy b1 (z1 + 35) (gX0_tie T1)) ++ ((rowsW (cy 2) (cy 0) b1 (z1 + 46) 4 12 (gX0_closedScores T1)) ++ (wX1 cy b1 (z1 + 51) (gX0_cut T1))))))) from by simp only [wX0, List.append_assoc, List.nil_append, List.append_nil] <;> rfl)) rfl rfl rfl hl.1 rfl (Nat.le_of_ble_eq_true rfl) dX0_copyFrom_106 ⟨Nat.zero_le _, Nat.zero_le _⟩ (fun H locs hP hD hS => ?_)
  obtain ⟨S33, eS34, h⟩ := lt_elim h
  have hP : va_P D vwCl ((wX0 cy a o S33) ++ (wX0 cy b1 z1 T1)) H := by rw [eS34]; exact hP
  have hD : va_D (va_A ((wX0 cy a o S) ++ (wX0 cy b1 z1 T1)) s.heap.size) ((wX0 cy a o S33) ++ (wX0 cy b1 z1 T1)) := by rw [eS34]; exact hD
  refine lv_aload_n hx hb dX0_copyFrom_109 rfl (lv_at hl 0 rfl) ?_
  refine va_get (D := D) (ci := 0) (v := .ref (a (o + 35))) (C := RX0) (T := TX0) (N := 14) hx hb hts hinX0 hown hK hP 0 rfl rfl 11 (by decide) hf71 (fun _ h9 => h9) rfl dX0_copyFrom_110 ?_
  refine lv_aload_n hx hb dX0_copyFrom_113 rfl (lv_at hl 1 rfl) ?_
  refine va_get (D := D) (ci := 0) (v := .ref (b1 (z1 + 35))) (C := RX0) (T := TX0) (N := 14) hx hb hts hinX0 hown hK hP 53 rfl rfl 11 (by decide) hf71 (fun _ h9 => h9) rfl dX0_copyFrom_114 ?_
  obtain ⟨x35, e36, h⟩ := bd_some h
  refine smVv (As := [.ref (b1 (z1 + 35))]) (rest := []) (ws' := ((wX0 cy a o (uX0_tie S33 x35)) ++ (wX0 cy b1 z1 T1))) (q0 := 0) (qX9_copyFrom l D cy a (o + 35) b1 (z1 + 35) (gX0_tie S33) (gX0_tie T1)  (H).size x35 e36) ⟨hx, hb, hml, hown, hts⟩ (cwV 1 hts gX0_copyFrom_X9_copyFrom rfl rfl rfl (by decide +kernel) ⟨Nat.le_of_ble_eq_true rfl, Nat.le_of_ble_eq_true rfl⟩) hG hP hD hS hA (pm2 (X := ((hX0 a o S33) ++ ((wX10 cy a (o + 1) (gX0_works S33)) ++ ((wX2 cy a (o + 5) (gX0_entrants S33)) ++ ((rowsW (cy 2) (cy 0) a (o + 7) 4 6 (gX0_rules S33)) ++ ((wX4 cy a (o + 12) (gX0_programs S33)) ++ ((wX3 cy a (o + 14) (gX0_jury S33)) ++ ((wX7 cy a (o + 23) (gX0_stage S33)) ++ (wX6 cy a (o + 26) (gX0_sheet S33)))))))))) (c1 := (wX9 cy a (o + 35) (gX0_tie S33))) (Y := ((rowsW (cy 2) (cy 0) a (o + 46) 4 12 (gX0_closedScores S33)) ++ ((wX1 cy a (o + 51) (gX0_cut S33)) ++ ((hX0 b1 z1 T1) ++ ((wX10 cy b1 (z1 + 1) (gX0_works T1)) ++ ((wX2 cy b1 (z1 + 5) (gX0_entrants T1)) ++ ((rowsW (cy 2) (cy 0) b1 (z1 + 7) 4 6 (gX0_rules T1)) ++ ((wX4 cy b1 (z1 + 12) (gX0_programs T1)) ++ ((wX3 cy b1 (z1 + 14) (gX0_jury T1)) ++ ((wX7 cy b1 (z1 + 23) (gX0_stage T1)) ++ (wX6 cy b1 (z1 + 26) (gX0_sheet T1)))))))))))) (c2 := (wX9 cy b1 (z1 + 35) (gX0_tie T1))) (Z := ((rowsW (cy 2) (cy 0) b1 (z1 + 46) 4 12 (gX0_closedScores T1)) ++ (wX1 cy b1 (z1 + 51) (gX0_cut T1)))) (show ((wX0 cy a o S33) ++ (wX0 cy b1 z1 T1)) = ((hX0 a o S33) ++ ((wX10 cy a (o + 1) (gX0_works S33)) ++ ((wX2 cy a (o + 5) (gX0_entrants S33)) ++ ((rowsW (cy 2) (cy 0) a (o + 7) 4 6 (gX0_rules S33)) ++ ((wX4 cy a (o + 12) (gX0_programs S33)) ++ ((wX3 cy a (o + 14) (gX0_jury S33)) ++ ((wX7 cy a (o + 23) (gX0_stage S33)) ++ (wX6 cy a (o + 26) (gX0_sheet S33))))))))) ++ ((wX9 cy a (o + 35) (gX0_tie S33)) ++ (((rowsW (cy 2) (cy 0) a (o + 46) 4 12 (gX0_closedScores S33)) ++ ((wX1 cy a (o + 51) (gX0_cut S33)) ++ ((hX0 b1 z1 T1) ++ ((wX10 cy b1 (z1 + 1) (gX0_works T1)) ++ ((wX2 cy b1 (z1 + 5) (gX0_entrants T1)) ++ ((rowsW (cy 2) (cy 0) b1 (z1 + 7) 4 6 (gX0_rules T1)) ++ ((wX4 cy b1 (z1 + 12) (gX0_programs T1)) ++ ((wX3 cy b1 (z1 + 14) (gX0_jury T1)) ++ ((wX7 cy b1 (z1 + 23) (gX0_stage T1)) ++ (wX6 cy b1 (z1 + 26) (gX0_sheet T1))))))))))) ++ ((wX9 cy b1 (z1 + 35) (gX0_tie T1)) ++ ((rowsW (cy 2) (cy 0) b1 (z1 + 46) 4 12 (gX0_closedScores T1)) ++ (wX1 cy b1 (z1 + 51) (gX0_cut T1)))))) from by simp only [wX0, List.append_assoc, List.nil_append, List.append_nil] <;> rfl)) (pm2 (X := ((hX0 a o S33) ++ ((wX10 cy a (o + 1) (gX0_works S33)) ++ ((wX2 cy a (o + 5) (gX0_entrants S33)) ++ ((rowsW (cy 2) (cy 0) a (o + 7) 4 6 (gX0_rules S33)) ++ ((wX4 cy a (o + 12) (gX0_programs S33)) ++ ((wX3 cy a (o + 14) (gX0_jury S33)) ++ ((wX7 cy a (o + 23) (gX0_stage S33)) ++ (wX6 cy a (o + 26) (gX0_sheet S33)))))))))) (c1 := (wX9 cy a (o + 35) x35)) (Y := ((rowsW (cy 2) (cy 0) a (o + 46) 4 12 (gX0_closedScores S33)) ++ ((wX1 cy a (o + 51) (gX0_cut S33)) ++ ((hX0 b1 z1 T1) ++ ((wX10 cy b1 (z1 + 1) (gX0_works T1)) ++ ((wX2 cy b1 (z1 + 5) (gX0_entrants T1)) ++ ((rowsW (cy 2) (cy 0) b1 (z1 + 7) 4 6 (gX0_rules T1)) ++ ((wX4 cy b1 (z1 + 12) (gX0_programs T1)) ++ ((wX3 cy b1 (z1 + 14) (gX0_jury T1)) ++ ((wX7 cy b1 (z1 + 23) (gX0_stage T1)) ++ (wX6 cy b1 (z1 + 26) (gX0_sheet T1)))))))))))) (c2 := (wX9 cy b1 (z1 + 35) (gX0_tie T1))) (Z := ((rowsW (cy 2) (cy 0) b1 (z1 + 46) 4 12 (gX0_closedScores T1)) ++ (wX1 cy b1 (z1 + 51) (gX0_cut T1)))) (show ((wX0 cy a o (uX0_tie S33 x35)) ++ (wX0 cy b1 z1 T1)) = ((hX0 a o S33) ++ ((wX10 cy a (o + 1) (gX0_works S33)) ++ ((wX2 cy a (o + 5) (gX0_entrants S33)) ++ ((rowsW (cy 2) (cy 0) a (o + 7) 4 6 (gX0_rules S33)) ++ ((wX4 cy a (o + 12) (gX0_programs S33)) ++ ((wX3 cy a (o + 14) (gX0_jury S33)) ++ ((wX7 cy a (o + 23) (gX0_stage S33)) ++ (wX6 cy a (o + 26) (gX0_sheet S33))))))))) ++ ((wX9 cy a (o + 35) x35) ++ (((rowsW (cy 2) (cy 0) a (o + 46) 4 12 (gX0_closedScores S33)) ++ ((wX1 cy a (o + 51) (gX0_cut S33)) ++ ((hX0 b1 z1 T1) ++ ((wX10 cy b1 (z1 + 1) (gX0_works T1)) ++ ((wX2 cy b1 (z1 + 5) (gX0_entrants T1)) ++ ((rowsW (cy 2) (cy 0) b1 (z1 + 7) 4 6 (gX0_rules T1)) ++ ((wX4 cy b1 (z1 + 12) (gX0_programs T1)) ++ ((wX3 cy b1 (z1 + 14) (gX0_jury T1)) ++ ((wX7 cy b1 (z1 + 23) (gX0_stage T1)) ++ (wX6 cy b1 (z1 + 26) (gX0_sheet T1))))))))))) ++ ((wX9 cy b1 (z1 + 35) (gX0_tie T1)) ++ ((rowsW (cy 2) (cy 0) b1 (z1 + 46) 4 12 (gX0_closedScores T1)) ++ (wX1 cy b1 (z1 + 51) (gX0_cut T1)))))) from by simp only [wX0, List.append_assoc, List.nil_append, List.append_nil] <;> rfl)) rfl rfl rfl hl.1 rfl (Nat.le_of_ble_eq_true rfl) dX0_copyFrom_117 ⟨Nat.zero_le _, Nat.zero_le _⟩ (fun H locs hP hD hS => ?_)
  obtain ⟨S37, eS38, h⟩ := lt_elim h
  have hP : va_P D vwCl ((wX0 cy a o S37) ++ (wX0 cy b1 z1 T1)) H := by rw [eS38]; exact hP
  have hD : va_D (va_A ((wX0 cy a o S) ++ (wX0 cy b1 z1 T1)) s.heap.size) ((wX0 cy a o S37) ++ (wX0 cy b1 z1 T1)) := by rw [eS38]; exact hD
  refine lv_aload_n hx hb dX0_copyFrom_120 rfl (lv_at hl 1 rfl) ?_
  refine va_get (D := D) (ci := 0) (v := .ref (b1 (z1 + 46))) (C := RX0) (T := TX0) (N := 14) hx hb hts hinX0 hown hK hP 53 rfl rfl 12 (by decide) hf75 (fun _ h9 => h9) rfl dX0_copyFrom_121 ?_
  refine lv_aload_n hx hb dX0_copyFrom_124 rfl (lv_at hl 0 rfl) ?_
  refine va_get (D := D) (ci := 0) (v := .ref (a (o + 46))) (C := RX0) (T := TX0) (N := 14) hx hb hts hinX0 hown hK hP 0 rfl rfl 12 (by decide) hf75 (fun _ h9 => h9) rfl dX0_copyFrom_125 ?_
  refine smRv (wf := (fun (_ : Unit) => (rowsW (cy 2) (cy 0) b1 (z1 + 46) 4 12 (gX0_closedScores T1)) ++ (rowsW (cy 2) (cy 0) a (o + 46) 4 12 (gX0_closedScores T1)))) (rs := ()) (ws' := ((wX0 cy a o (uX0_closedScores S37 (gX0_closedScores T1))) ++ (wX0 cy b1 z1 T1))) (fun hp => va_runSN (As := [.ref (b1 (z1 + 46)), .ref (a (o + 46))]) (rest := []) ⟨hx, hb, hml, hown, hts⟩ (qX11_copyRows l D cy b1 (z1 + 46) a (o + 46) 4 12 (by decide) (by decide) (gX0_closedScores T1) (gX0_closedScores S37) (H).size) ⟨va_cnB (y := yX11_copyRows) 2 hts gX0_copyFrom_X11_copyRows_n109 rfl rfl rfl (hG.2.2.1 (.methodLinkNest "PianoRounds$Competition" 109 ⟨"PianoRounds", "copyRows", "([[I[[I)V"⟩ "PianoRounds") (by decide +kernel)) (hts (.initialized RX11) (by decide +kernel)) (by decide +kernel) ⟨Nat.le_of_ble_eq_true rfl, Nat.le_of_ble_eq_true rfl⟩, hts (.static yX11_copyRows) (by decide +kernel), trivial⟩ hp rfl rfl hl.1 rfl (lv_room (Nat.le_of_ble_eq_true rfl)) dX0_copyFrom_128 ⟨Nat.zero_le _, Nat.zero_le _⟩) hG hP hD hS hA (pm2r (X := ((hX0 a o S37) ++ ((wX10 cy a (o + 1) (gX0_works S37)) ++ ((wX2 cy a (o + 5) (gX0_entrants S37)) ++ ((rowsW (cy 2) (cy 0) a (o + 7) 4 6 (gX0_rules S37)) ++ ((wX4 cy a (o + 12) (gX0_programs S37)) ++ ((wX3 cy a (o + 14) (gX0_jury S37)) ++ ((wX7 cy a (o + 23) (gX0_stage S37)) ++ ((wX6 cy a (o + 26) (gX0_sheet S37)) ++ (wX9 cy a (o + 35) (gX0_tie S37))))))))))) (c1 := (rowsW (cy 2) (cy 0) b1 (z1 + 46) 4 12 (gX0_closedScores T1))) (Y := ((wX1 cy a (o + 51) (gX0_cut S37)) ++ ((hX0 b1 z1 T1) ++ ((wX10 cy b1 (z1 + 1) (gX0_works T1)) ++ ((wX2 cy b1 (z1 + 5) (gX0_entrants T1)) ++ ((rowsW (cy 2) (cy 0) b1 (z1 + 7) 4 6 (gX0_rules T1)) ++ ((wX4 cy b1 (z1 + 12) (gX0_programs T1)) ++ ((wX3 cy b1 (z1 + 14) (gX0_jury T1)) ++ ((wX7 cy b1 (z1 + 23) (gX0_stage T1)) ++ ((wX6 cy b1 (z1 + 26) (gX0_sheet T1)) ++ (wX9 cy b1 (z1 + 35) (gX0_tie T1)))))))))))) (c2 := (rowsW (cy 2) (cy 0) a (o + 46) 4 12 (gX0_closedScores S37))) (Z := (wX1 cy b1 (z1 + 51) (gX0_cut T1))) (show ((wX0 cy a o S37) ++ (wX0 cy b1 z1 T1)) = ((hX0 a o S37) ++ ((wX10 cy a (o + 1) (gX0_works S37)) ++ ((wX2 cy a (o + 5) (gX0_entrants S37)) ++ ((rowsW (cy 2) (cy 0) a (o + 7) 4 6 (gX0_rules S37)) ++ ((wX4 cy a (o + 12) (gX0_programs S37)) ++ ((wX3 cy a (o + 14) (gX0_jury S37)) ++ ((wX7 cy a (o + 23) (gX0_stage S37)) ++ ((wX6 cy a (o + 26) (gX0_sheet S37)) ++ (wX9 cy a (o + 35) (gX0_tie S37)))))))))) ++ ((rowsW (cy 2) (cy 0) a (o + 46) 4 12 (gX0_closedScores S37)) ++ (((wX1 cy a (o + 51) (gX0_cut S37)) ++ ((hX0 b1 z1 T1) ++ ((wX10 cy b1 (z1 + 1) (gX0_works T1)) ++ ((wX2 cy b1 (z1 + 5) (gX0_entrants T1)) ++ ((rowsW (cy 2) (cy 0) b1 (z1 + 7) 4 6 (gX0_rules T1)) ++ ((wX4 cy b1 (z1 + 12) (gX0_programs T1)) ++ ((wX3 cy b1 (z1 + 14) (gX0_jury T1)) ++ ((wX7 cy b1 (z1 + 23) (gX0_stage T1)) ++ ((wX6 cy b1 (z1 + 26) (gX0_sheet T1)) ++ (wX9 cy b1 (z1 + 35) (gX0_tie T1))))))))))) ++ ((rowsW (cy 2) (cy 0) b1 (z1 + 46) 4 12 (gX0_closedScores T1)) ++ (wX1 cy b1 (z1 + 51) (gX0_cut T1))))) from by simp only [wX0, List.append_assoc, List.nil_append, List.append_nil] <;> rfl)) (pm2r (X := ((hX0 a o S37) ++ ((wX10 cy a (o + 1) (gX0_works S37)) ++ ((wX2 cy a (o + 5) (gX0_entrants S37)) ++ ((rowsW (cy 2) (cy 0) a (o + 7) 4 6 (gX0_rules S37)) ++ ((wX4 cy a (o + 12) (gX0_programs S37)) ++ ((wX3 cy a (o + 14) (gX0_jury S37)) ++ ((wX7 cy a (o + 23) (gX0_stage S37)) ++ ((wX6 cy a (o + 26) (gX0_sheet S37)) ++ (wX9 cy a (o + 35) (gX0_tie S37))))))))))) (c1 := (rowsW (cy 2) (cy 0) b1 (z1 + 46) 4 12 (gX0_closedScores T1))) (Y := ((wX1 cy a (o + 51) (gX0_cut S37)) ++ ((hX0 b1 z1 T1) ++ ((wX10 cy b1 (z1 + 1) (gX0_works T1)) ++ ((wX2 cy b1 (z1 + 5) (gX0_entrants T1)) ++ ((rowsW (cy 2) (cy 0) b1 (z1 + 7) 4 6 (gX0_rules T1)) ++ ((wX4 cy b1 (z1 + 12) (gX0_programs T1)) ++ ((wX3 cy b1 (z1 + 14) (gX0_jury T1)) ++ ((wX7 cy b1 (z1 + 23) (gX0_stage T1)) ++ ((wX6 cy b1 (z1 + 26) (gX0_sheet T1)) ++ (wX9 cy b1 (z1 + 35) (gX0_tie T1)))))))))))) (c2 := (rowsW (cy 2) (cy 0) a (o + 46) 4 12 (gX0_closedScores T1))) (Z := (wX1 cy b1 (z1 + 51) (gX0_cut T1))) (show ((wX0 cy a o (uX0_closedScores S37 (gX0_closedScores T1))) ++ (wX0 cy b1 z1 T1)) = ((hX0 a o S37) ++ ((wX10 cy a (o + 1) (gX0_works S37)) ++ ((wX2 cy a (o + 5) (gX0_entrants S37)) ++ ((rowsW (cy 2) (cy 0) a (o + 7) 4 6 (gX0_rules S37)) ++ ((wX4 cy a (o + 12) (gX0_programs S37)) ++ ((wX3 cy a (o + 14) (gX0_jury S37)) ++ ((wX7 cy a (o + 23) (gX0_stage S37)) ++ ((wX6 cy a (o + 26) (gX0_sheet S37)) ++ (wX9 cy a (o + 35) (gX0_tie S37)))))))))) ++ ((rowsW (cy 2) (cy 0) a (o + 46) 4 12 (gX0_closedScores T1)) ++ (((wX1 cy a (o + 51) (gX0_cut S37)) ++ ((hX0 b1 z1 T1) ++ ((wX10 cy b1 (z1 + 1) (gX0_works T1)) ++ ((wX2 cy b1 (z1 + 5) (gX0_entrants T1)) ++ ((rowsW (cy 2) (cy 0) b1 (z1 + 7) 4 6 (gX0_rules T1)) ++ ((wX4 cy b1 (z1 + 12) (gX0_programs T1)) ++ ((wX3 cy b1 (z1 + 14) (gX0_jury T1)) ++ ((wX7 cy b1 (z1 + 23) (gX0_stage T1)) ++ ((wX6 cy b1 (z1 + 26) (gX0_sheet T1)) ++ (wX9 cy b1 (z1 + 35) (gX0_tie T1))))))))))) ++ ((rowsW (cy 2) (cy 0) b1 (z1 + 46) 4 12 (gX0_closedScores T1)) ++ (wX1 cy b1 (z1 + 51) (gX0_cut T1))))) from by simp only [wX0, List.append_assoc, List.nil_append, List.append_nil] <;> rfl)) (fun H locs hP hD hS => ?_)
  obtain ⟨S39, eS40, h⟩ := lt_elim h
  have hP : va_P D vwCl ((wX0 cy a o S39) ++ (wX0 cy b1 z1 T1)) H := by rw [eS40]; exact hP
  have hD : va_D (va_A ((wX0 cy a o S) ++ (wX0 cy b1 z1 T1)) s.heap.size) ((wX0 cy a o S39) ++ (wX0 cy b1 z1 T1)) := by rw [eS40]; exact hD
  exact W.vret hx hb hr (fun t ht hW => ⟨⟨S39, rfl, some_in h, by rw [ht]; exact hP, hD⟩, hS.F ht⟩) hS.2.2 dX0_copyFrom_131
set_option maxHeartbeats 4000000 in
set_option maxRecDepth 100000 in
theorem qX0_change (l : Launch) (D : va_G) (cy : Nat → ClassId) (a : Nat → Nat) (o : Nat) (S : SX0) (p1 : Int32) (p2 : Int32) (sz : Nat) (rs : SX0) (h : DX0_change S p1 p2 = some rs) : Met l yX0_change wsX0_change ({ frames := 0, cells := 0, slots := 0, locals := 0 } : Room) (mP D cy sz [.ref (a o), .int p1, .int p2] (wX0 cy a o S)) (va_Qv (fun (u : SX0) => u = rs) (fun u t => mB D sz (wX0 cy a o S) (wX0 cy a o u) t) (va_A (wX0 cy a o S) sz)) 0 0 (va_A (wX0 cy a o S) sz) := by
  refine Met.ofW (cc := cX0_change) (maxL := 3) (ret := none) (by decide) rfl ?_
  intro p e s m args below meth c s₁ B hml hv
  obtain ⟨rfl, hsz, hP, hG, hD0⟩ := hv
  have hx := B.exec
  have hb := B.bytes
  have hr := B.returns
  have hts := atoms_spec (ws := wsX0_change) B.pre
  have hown : s.vm.findClass RX0 = some m.cls := findClass_of_methodNamed B.named
  have hlocks := B.notSynchronized
  have hK := hG.1
  subst hsz
  have hD := hD0.self (sz := s.heap.size)
  have hA : ∀ q : Nat, s.heap.size ≤ q → (va_A (wX0 cy a o S) s.heap.size) q := fun q h => Or.inr h
  have hS : va_S (va_A (wX0 cy a o S) s.heap.size) s.heap s.heap [] := va_S.rf
  have hinX0 := (by decide +kernel : ∀ w ∈ wsX00, w ∈ wsX0_change)
  have hf50 := hts (.fieldLink RX0 50 "PianoRounds$Competition" "jury" "LPianoRounds$Jury;") (by decide +kernel)
  have hinX3 := (by decide +kernel : ∀ w ∈ wsX30, w ∈ wsX0_change)
  have hf128 := va_Nw.use (A := ([.ref (a o), .int p1, .int p2] : List Value).toArray) (U := s) (w := .fieldLinkNest "PianoRounds$Competition" 128 "PianoRounds$Jury" "size" "I" "PianoRounds") rfl (hG.2.1 _ (by decide +kernel))
  have hf15 := hts (.fieldLink RX0 15 "PianoRounds$Competition" "rounds" "I") (by decide +kernel)
  have hf18 := hts (.fieldLink RX0 18 "PianoRounds$Competition" "penalty" "I") (by decide +kernel)
  have hl := lv_entry ([.ref (a o), .int p1, .int p2]) (n := 3) (Nat.le_of_ble_eq_true rfl)
  rw [lg_entry_eq]
  generalize (lg_sl ([.ref (a o), .int p1, .int p2]) ++ List.replicate (3 - (lg_sl ([.ref (a o), .int p1, .int p2])).length) Slot.unset).toArray = ls at hl ⊢
  have hl : lv_has ls 3 [(0, .ref (a o)), (1, .int p1), (2, .int p2)] := hl
  rw [DX0_change] at h
  refine lv_iload_n hx hb dX0_change_0 rfl (lv_at hl 1 rfl) ?_
  obtain ⟨j2, hj2, h⟩ := jn_elim h
  have Jj2 : ∀ (S1 : SX0) (H : Heap) (locs : List Loc) (ls : Array Slot), j2 S1 = some rs → va_P D vwCl (wX0 cy a o S1) H → va_D (va_A (wX0 cy a o S) s.heap.size) (wX0 cy a o S1) → va_S (va_A (wX0 cy a o S) s.heap.size) s.heap H locs → lv_has ls 3 [] → W p l e (headSpec wsX0_change ({ frames := 0, cells := 0, slots := 0, locals := 0 } : Room)).room s m ([.ref (a o), .int p1, .int p2] : List Value).toArray below meth c H locs 0 0 (MQ below (va_Qv (fun (u : SX0) => u = rs) (fun u t => mB D s.heap.size (wX0 cy a o S) (wX0 cy a o u) t) (va_A (wX0 cy a o S) s.heap.size)) ([.ref (a o), .int p1, .int p2] : List Value).toArray s 0 0 (va_A (wX0 cy a o S) s.heap.size)) (F0 m 52 ls []) := by
    intro S1 H locs ls h hP hD hS hl
    rw [hj2] at h
    exact W.vret hx hb hr (fun t ht hW => ⟨⟨S1, rfl, some_in h, by rw [ht]; exact hP, hD⟩, hS.F ht⟩) hS.2.2 dX0_change_52
  by_cases c0 : p1 = (0 : Int32)
  · have h := ite_p c0 h
    refine lv_lookup (tgt := 28) (off := 27) hx hb dX0_change_1 (by decide) (by rw [c0]; decide) (by decide) ?_
    refine lv_aload_n hx hb dX0_change_28 rfl (lv_at hl 0 rfl) ?_
    refine va_get (D := D) (ci := 0) (v := .ref (a (o + 14))) (C := RX0) (T := TX0) (N := 14) hx hb hts hinX0 hown hK hP 0 rfl rfl 8 (by decide) hf50 (fun _ h9 => h9) rfl dX0_change_29 ?_
    refine lv_iload_n hx hb dX0_change_32 rfl (lv_at hl 2 rfl) ?_
    refine va_putN (D := D) (ci := 3) (v := .int p2) (ty := .int) (C := RX3) (T := TX3) (N := 2) hx hb hts hinX3 tyX3 tyX3_ok nmX3 hown hK hP hD hS 14 rfl rfl 0 (by decide) hf128 (fun _ h9 => h9) rfl (by decide +kernel) rfl rfl (Nat.le_of_ble_eq_true rfl) dX0_change_33 (fun H locs hP hD hS => ?_)
    have hP : va_P D vwCl (wX0 cy a o (uX0_jury S (uX3_size (gX0_jury S) p2))) H := hP
    have hD : va_D (va_A (wX0 cy a o S) s.heap.size) (wX0 cy a o (uX0_jury S (uX3_size (gX0_jury S) p2))) := hD
    obtain ⟨S3, eS4, h⟩ := lt_elim h
    have hP : va_P D vwCl (wX0 cy a o S3) H := by rw [eS4]; exact hP
    have hD : va_D (va_A (wX0 cy a o S) s.heap.size) (wX0 cy a o S3) := by rw [eS4]; exact hD
    refine lv_goto (tgt := 52) hx hb dX0_change_36 (by decide) ?_
    exact Jj2 S3 H locs ls h hP hD hS (lv_sub hl [] rfl)
  have h := ite_n c0 h
  by_cases c1 : p1 = (1 : Int32)
  · have h := ite_p c1 h
    refine lv_lookup (tgt := 39) (off := 38) hx hb dX0_change_1 (by decide) (by rw [c1]; decide) (by decide) ?_
    refine lv_aload_n hx hb dX0_change_39 rfl (lv_at hl 0 rfl) ?_
    refine lv_iload_n hx hb dX0_change_40 rfl (lv_at hl 2 rfl) ?_
    refine va_put (D := D) (ci := 0) (v := .int p2) (ty := .int) (C := RX0) (T := TX0) (N := 14) hx hb hts hinX0 tyX0 tyX0_ok nmX0 hown hK hP hD hS 0 rfl rfl 2 (by decide) hf15 (fun _ h9 => h9) rfl (by decide +kernel) rfl rfl (Nat.le_of_ble_eq_true rfl) dX0_change_41 (fun H locs hP hD hS => ?_)
    have hP : va_P D vwCl (wX0 cy a o (uX0_rounds S p2)) H := hP
    have hD : va_D (va_A (wX0 cy a o S) s.heap.size) (wX0 cy a o (uX0_rounds S p2)) := hD
    obtain ⟨S5, eS6, h⟩ := lt_elim h
    have hP : va_P D vwCl (wX0 cy a o S5) H := by rw [eS6]; exact hP
    have hD : va_D (va_A (wX0 cy a o S) s.heap.size) (wX0 cy a o S5) := by rw [eS6]; exact hD
    refine lv_goto (tgt := 52) hx hb dX0_change_44 (by decide) ?_
    exact Jj2 S5 H locs ls h hP hD hS (lv_sub hl [] rfl)
  have h := ite_n c1 h
  refine lv_lookup (tgt := 47) (off := 46) hx hb dX0_change_1 (by decide) ((lv_osw c0 (by decide)).trans ((lv_osw c1 (by decide)).trans rfl)) (by decide) ?_
  refine lv_aload_n hx hb dX0_change_47 rfl (lv_at hl 0 rfl) ?_
  refine lv_iload_n hx hb dX0_change_48 rfl (lv_at hl 2 rfl) ?_
  refine va_put (D := D) (ci := 0) (v := .int p2) (ty := .int) (C := RX0) (T := TX0) (N := 14) hx hb hts hinX0 tyX0 tyX0_ok nmX0 hown hK hP hD hS 0 rfl rfl 3 (by decide) hf18 (fun _ h9 => h9) rfl (by decide +kernel) rfl rfl (Nat.le_of_ble_eq_true rfl) dX0_change_49 (fun H locs hP hD hS => ?_)
  have hP : va_P D vwCl (wX0 cy a o (uX0_penalty S p2)) H := hP
  have hD : va_D (va_A (wX0 cy a o S) s.heap.size) (wX0 cy a o (uX0_penalty S p2)) := hD
  obtain ⟨S7, eS8, h⟩ := lt_elim h
  have hP : va_P D vwCl (wX0 cy a o S7) H := by rw [eS8]; exact hP
  have hD : va_D (va_A (wX0 cy a o S) s.heap.size) (wX0 cy a o S7) := by rw [eS8]; exact hD
  exact Jj2 S7 H locs ls h hP hD hS (lv_sub hl [] rfl)
set_option maxHeartbeats 4000000 in
set_option maxRecDepth 100000 in
theorem qX2_has (l : Launch) (D : va_G) (cy : Nat → ClassId) (a : Nat → Nat) (o : Nat) (S : SX2) (p1 : Int32) (rs : Int32) (h : DX2_has S p1 = some rs) : Met l yX2_has wsX2_has ({ frames := 0, cells := 0, slots := 0, locals := 0 } : Room) (va_Pc [.ref (a o), .int p1] (fun U => va_P D vwCl (wX2 cy a o S) U.heap ∧ gK D cy U)) (vp_Si (fun z => z = rs)) 0 0 (fun _ => False) := by
  refine Met.ofW (cc := cX2_has) (maxL := 2) (ret := (some .boolean)) (by decide) rfl ?_
  intro p e s m args below meth c s₁ B hml hv
  obtain ⟨rfl, hP, hG⟩ := hv
  have hx := B.exec
  have hb := B.bytes
  have hr := B.returns
  have hts := atoms_spec (ws := wsX2_has) B.pre
  have hown : s.vm.findClass RX2 = some m.cls := findClass_of_methodNamed B.named
  have hlocks := B.notSynchronized
  have hK := hG.1
  have hinX2 := (by decide +kernel : ∀ w ∈ wsX20, w ∈ wsX2_has)
  have hf15 := hts (.fieldLink RX2 15 "PianoRounds$Entrants" "count" "I") (by decide +kernel)
  have hl := lv_entry ([.ref (a o), .int p1]) (n := 2) (Nat.le_of_ble_eq_true rfl)
  rw [lg_entry_eq]
  generalize (lg_sl ([.ref (a o), .int p1]) ++ List.replicate (2 - (lg_sl ([.ref (a o), .int p1])).length) Slot.unset).toArray = ls at hl ⊢
  have hl : lv_has ls 2 [(0, .ref (a o)), (1, .int p1)] := hl
  rw [DX2_has] at h
  refine lv_iload_n hx hb dX2_has_0 rfl (lv_at hl 1 rfl) ?_
  obtain ⟨j2, hj2, h⟩ := jn_elim h
  have Jj2 : ∀ (x1 : Int32) (ls : Array Slot), j2 x1 = some rs → lv_has ls 2 [] → W p l e (headSpec wsX2_has ({ frames := 0, cells := 0, slots := 0, locals := 0 } : Room)).room s m ([.ref (a o), .int p1] : List Value).toArray below meth c s.heap [] 0 0 (MQ below (vp_Si (fun z => z = rs)) ([.ref (a o), .int p1] : List Value).toArray s 0 0 (fun _ => False)) (F0 m 23 ls [.int x1]) := by
    intro x1 ls h hl
    rw [hj2] at h
    obtain ⟨g3, h⟩ := gd_some h
    exact W.zret (v := x1) hx hb hr (zN g3) (fun t ht hW => ⟨x1, rfl, some_in h, ht⟩) (fun q hq => nomatch hq) dX2_has_23
  obtain ⟨j4, hj4, h⟩ := jn_elim h
  have Jj4 : ∀ (ls : Array Slot), j4 () = some rs → lv_has ls 2 [] → W p l e (headSpec wsX2_has ({ frames := 0, cells := 0, slots := 0, locals := 0 } : Room)).room s m ([.ref (a o), .int p1] : List Value).toArray below meth c s.heap [] 0 0 (MQ below (vp_Si (fun z => z = rs)) ([.ref (a o), .int p1] : List Value).toArray s 0 0 (fun _ => False)) (F0 m 22 ls []) := by
    intro ls h hl
    rw [hj4] at h
    refine lv_iconst (v := (0 : Int32)) hx hb dX2_has_22 (by decide) ?_
    exact Jj2 (0 : Int32) ls h (lv_sub hl [] rfl)
  refine lv_if_lt (tgt := 22) hx hb dX2_has_1 (by decide) (fun cc => ?_) (fun cc => ?_)
  · have h := ite_p cc h
    exact Jj4  ls h (lv_sub hl [] rfl)
  · have h := ite_n cc h
    refine lv_iload_n hx hb dX2_has_4 rfl (lv_at hl 1 rfl) ?_
    refine lv_aload_n hx hb dX2_has_5 rfl (lv_at hl 0 rfl) ?_
    refine va_get (D := D) (ci := 2) (v := .int (gX2_count S)) (C := RX2) (T := TX2) (N := 2) hx hb hts hinX2 hown hK hP 0 rfl rfl 0 (by decide) hf15 (fun _ h9 => h9) rfl dX2_has_6 ?_
    refine lv_icmp_ge (tgt := 22) hx hb dX2_has_9 (by decide) (fun cc => ?_) (fun cc => ?_)
    · have h := ite_p cc h
      exact Jj4  ls h (lv_sub hl [] rfl)
    · have h := ite_n cc h
      refine lv_iload_n hx hb dX2_has_12 rfl (lv_at hl 1 rfl) ?_
      refine lv_bipush (v := (12 : Int32)) hx hb dX2_has_13 (by decide) ?_
      refine lv_icmp_ge (tgt := 22) hx hb dX2_has_15 (by decide) (fun cc => ?_) (fun cc => ?_)
      · have h := ite_p cc h
        exact Jj4  ls h (lv_sub hl [] rfl)
      · have h := ite_n cc h
        refine lv_iconst (v := (1 : Int32)) hx hb dX2_has_18 (by decide) ?_
        refine lv_goto (tgt := 23) hx hb dX2_has_19 (by decide) ?_
        exact Jj2 (1 : Int32) ls h (lv_sub hl [] rfl)
set_option maxHeartbeats 4000000 in
set_option maxRecDepth 100000 in
theorem qX2_isIn (l : Launch) (D : va_G) (cy : Nat → ClassId) (a : Nat → Nat) (o : Nat) (S : SX2) (p1 : Int32) (rs : Int32) (h : DX2_isIn S p1 = some rs) : Met l yX2_isIn wsX2_isIn ({ frames := 1, cells := 0, slots := 0, locals := 21 } : Room) (va_Pc [.ref (a o), .int p1] (fun U => va_P D vwCl (wX2 cy a o S) U.heap ∧ gK D cy U)) (vp_Si (fun z => z = rs)) 0 0 (fun _ => False) := by
  refine Met.ofW (cc := cX2_isIn) (maxL := 2) (ret := (some .boolean)) (by decide) rfl ?_
  intro p e s m args below meth c s₁ B hml hv
  obtain ⟨rfl, hP, hG⟩ := hv
  have hx := B.exec
  have hb := B.bytes
  have hr := B.returns
  have hts := atoms_spec (ws := wsX2_isIn) B.pre
  have hown : s.vm.findClass RX2 = some m.cls := findClass_of_methodNamed B.named
  have hlocks := B.notSynchronized
  have hK := hG.1
  have hinX2 := (by decide +kernel : ∀ w ∈ wsX20, w ∈ wsX2_isIn)
  have hf9 := hts (.fieldLink RX2 9 "PianoRounds$Entrants" "in" "[I") (by decide +kernel)
  have hl := lv_entry ([.ref (a o), .int p1]) (n := 2) (Nat.le_of_ble_eq_true rfl)
  rw [lg_entry_eq]
  generalize (lg_sl ([.ref (a o), .int p1]) ++ List.replicate (2 - (lg_sl ([.ref (a o), .int p1])).length) Slot.unset).toArray = ls at hl ⊢
  have hl : lv_has ls 2 [(0, .ref (a o)), (1, .int p1)] := hl
  rw [DX2_isIn] at h
  refine lv_aload_n hx hb dX2_isIn_0 rfl (lv_at hl 0 rfl) ?_
  refine lv_iload_n hx hb dX2_isIn_1 rfl (lv_at hl 1 rfl) ?_
  obtain ⟨x1, e2, h⟩ := bd_some h
  refine pcV (As := [.int p1]) (rest := []) (q0 := 0) (qX2_has l D cy a o S p1 x1 e2) ⟨hx, hb, hml, hown, hts⟩ (cwV 1 hts gX2_isIn_X2_has rfl rfl rfl (by decide +kernel) ⟨Nat.le_of_ble_eq_true rfl, Nat.le_of_ble_eq_true rfl⟩) hG hP rfl rfl rfl hl.1 rfl (Nat.le_of_ble_eq_true rfl) dX2_isIn_2 ⟨Nat.zero_le _, Nat.zero_le _⟩ ?_
  obtain ⟨j4, hj4, h⟩ := jn_elim h
  have Jj4 : ∀ (x3 : Int32) (ls : Array Slot), j4 x3 = some rs → lv_has ls 2 [] → W p l e (headSpec wsX2_isIn ({ frames := 1, cells := 0, slots := 0, locals := 21 } : Room)).room s m ([.ref (a o), .int p1] : List Value).toArray below meth c s.heap [] 0 0 (MQ below (vp_Si (fun z => z = rs)) ([.ref (a o), .int p1] : List Value).toArray s 0 0 (fun _ => False)) (F0 m 23 ls [.int x3]) := by
    intro x3 ls h hl
    rw [hj4] at h
    obtain ⟨g5, h⟩ := gd_some h
    exact W.zret (v := x3) hx hb hr (zN g5) (fun t ht hW => ⟨x3, rfl, some_in h, ht⟩) (fun q hq => nomatch hq) dX2_isIn_23
  obtain ⟨j6, hj6, h⟩ := jn_elim h
  have Jj6 : ∀ (ls : Array Slot), j6 () = some rs → lv_has ls 2 [] → W p l e (headSpec wsX2_isIn ({ frames := 1, cells := 0, slots := 0, locals := 21 } : Room)).room s m ([.ref (a o), .int p1] : List Value).toArray below meth c s.heap [] 0 0 (MQ below (vp_Si (fun z => z = rs)) ([.ref (a o), .int p1] : List Value).toArray s 0 0 (fun _ => False)) (F0 m 22 ls []) := by
    intro ls h hl
    rw [hj6] at h
    refine lv_iconst (v := (0 : Int32)) hx hb dX2_isIn_22 (by decide) ?_
    exact Jj4 (0 : Int32) ls h (lv_sub hl [] rfl)
  refine lv_if_eq (tgt := 22) hx hb dX2_isIn_5 (by decide) (fun cc => ?_) (fun cc => ?_)
  · have h := ite_p cc h
    exact Jj6  ls h (lv_sub hl [] rfl)
  · have h := ite_n cc h
    refine lv_aload_n hx hb dX2_isIn_8 rfl (lv_at hl 0 rfl) ?_
    refine va_get (D := D) (ci := 2) (v := .ref (a (o + 1))) (C := RX2) (T := TX2) (N := 2) hx hb hts hinX2 hown hK hP 0 rfl rfl 1 (by decide) hf9 (fun _ h9 => h9) rfl dX2_isIn_9 ?_
    refine lv_iload_n hx hb dX2_isIn_12 rfl (lv_at hl 1 rfl) ?_
    obtain ⟨g7, h⟩ := gd_some h
    refine r_ald (f := (gX2_in S)) (n := 12) (v := ((gX2_in S) ((p1).toNatClampNeg))) hx hb hK hP 1 0 rfl rfl (gIn_in g7) rfl dX2_isIn_13 ?_
    refine lv_iconst (v := (1 : Int32)) hx hb dX2_isIn_14 (by decide) ?_
    refine lv_icmp_ne (tgt := 22) hx hb dX2_isIn_15 (by decide) (fun cc => ?_) (fun cc => ?_)
    · have h := ite_n cc h
      exact Jj6  ls h (lv_sub hl [] rfl)
    · have h := ite_p cc h
      refine lv_iconst (v := (1 : Int32)) hx hb dX2_isIn_18 (by decide) ?_
      refine lv_goto (tgt := 23) hx hb dX2_isIn_19 (by decide) ?_
      exact Jj4 (1 : Int32) ls h (lv_sub hl [] rfl)
set_option maxHeartbeats 4000000 in
set_option maxRecDepth 100000 in
theorem qX2_countIn (l : Launch) (D : va_G) (cy : Nat → ClassId) (a : Nat → Nat) (o : Nat) (S : SX2)  (rs : Int32) (h : DX2_countIn S = some rs) : Met l yX2_countIn wsX2_countIn ({ frames := 2, cells := 0, slots := 0, locals := 42 } : Room) (va_Pc [.ref (a o)] (fun U => va_P D vwCl (wX2 cy a o S) U.heap ∧ gK D cy U)) (vp_Si (fun z => z = rs)) 0 0 (fun _ => False) := by
  refine Met.ofW (cc := cX2_countIn) (maxL := 3) (ret := (some .int)) (by decide) rfl ?_
  intro p e s m args below meth c s₁ B hml hv
  obtain ⟨rfl, hP, hG⟩ := hv
  have hx := B.exec
  have hb := B.bytes
  have hr := B.returns
  have hts := atoms_spec (ws := wsX2_countIn) B.pre
  have hown : s.vm.findClass RX2 = some m.cls := findClass_of_methodNamed B.named
  have hlocks := B.notSynchronized
  have hK := hG.1
  have hinX2 := (by decide +kernel : ∀ w ∈ wsX20, w ∈ wsX2_countIn)
  have hf15 := hts (.fieldLink RX2 15 "PianoRounds$Entrants" "count" "I") (by decide +kernel)
  have hl := lv_entry ([.ref (a o)]) (n := 3) (Nat.le_of_ble_eq_true rfl)
  rw [lg_entry_eq]
  generalize (lg_sl ([.ref (a o)]) ++ List.replicate (3 - (lg_sl ([.ref (a o)])).length) Slot.unset).toArray = ls at hl ⊢
  have hl : lv_has ls 3 [(0, .ref (a o))] := hl
  rw [DX2_countIn] at h
  refine lv_iconst (v := (0 : Int32)) hx hb dX2_countIn_0 (by decide) ?_
  refine lv_istore_n (lv' := [(1, .int (0 : Int32)), (0, .ref (a o))]) hx hb dX2_countIn_1 rfl hl (by decide) rfl (fun ls hl => ?_)
  refine lv_iconst (v := (0 : Int32)) hx hb dX2_countIn_2 (by decide) ?_
  refine lv_istore_n (lv' := [(2, .int (0 : Int32)), (1, .int (0 : Int32)), (0, .ref (a o))]) hx hb dX2_countIn_3 rfl hl (by decide) rfl (fun ls hl => ?_)
  have L10 : ∀ (k1 : Int32 → Option (Int32)) (hk1 : ∀ (v1_2 : Int32) (ls : Array Slot), k1 v1_2 = some rs → lv_has ls 3 [(1, .int v1_2)] → W p l e (headSpec wsX2_countIn ({ frames := 2, cells := 0, slots := 0, locals := 42 } : Room)).room s m ([.ref (a o)] : List Value).toArray below meth c s.heap [] 0 0 (MQ below (vp_Si (fun z => z = rs)) ([.ref (a o)] : List Value).toArray s 0 0 (fun _ => False)) (F0 m 29 ls [])) (f : Nat) (v1_4 : Int32) (v2_5 : Int32) (ls : Array Slot), DX2_countIn_L4 S k1 f v1_4 v2_5 = some rs → lv_has ls 3 [(0, .ref (a o)), (1, .int v1_4), (2, .int v2_5)] → W p l e (headSpec wsX2_countIn ({ frames := 2, cells := 0, slots := 0, locals := 42 } : Room)).room s m ([.ref (a o)] : List Value).toArray below meth c s.heap [] 0 0 (MQ below (vp_Si (fun z => z = rs)) ([.ref (a o)] : List Value).toArray s 0 0 (fun _ => False)) (F0 m 4 ls []) := by
    intro k1 hk1 f
    induction f with
    | zero =>
      intro v1_4 v2_5 ls h hl
      rw [DX2_countIn_L4] at h
      cases h
    | succ f ih =>
      intro v1_4 v2_5 ls h hl
      rw [DX2_countIn_L4] at h
      refine lv_iload_n hx hb dX2_countIn_4 rfl (lv_at hl 2 rfl) ?_
      refine lv_aload_n hx hb dX2_countIn_5 rfl (lv_at hl 0 rfl) ?_
      refine va_get (D := D) (ci := 2) (v := .int (gX2_count S)) (C := RX2) (T := TX2) (N := 2) hx hb hts hinX2 hown hK hP 0 rfl rfl 0 (by decide) hf15 (fun _ h9 => h9) rfl dX2_countIn_6 ?_
      refine lv_icmp_ge (tgt := 29) hx hb dX2_countIn_9 (by decide) (fun cc => ?_) (fun cc => ?_)
      · have h := ite_p cc h
        exact hk1 v1_4 ls h (lv_sub hl [1] rfl)
      · have h := ite_n cc h
        refine lv_aload_n hx hb dX2_countIn_12 rfl (lv_at hl 0 rfl) ?_
        refine lv_iload_n hx hb dX2_countIn_13 rfl (lv_at hl 2 rfl) ?_
        obtain ⟨x6, e7, h⟩ := bd_some h
        refine pcV (As := [.int v2_5]) (rest := []) (q0 := 0) (qX2_isIn l D cy a o S v2_5 x6 e7) ⟨hx, hb, hml, hown, hts⟩ (cwV 1 hts gX2_countIn_X2_isIn rfl rfl rfl (by decide +kernel) ⟨Nat.le_of_ble_eq_true rfl, Nat.le_of_ble_eq_true rfl⟩) hG hP rfl rfl rfl hl.1 rfl (Nat.le_of_ble_eq_true rfl) dX2_countIn_14 ⟨Nat.zero_le _, Nat.zero_le _⟩ ?_
        obtain ⟨j9, hj9, h⟩ := jn_elim h
        have Jj9 : ∀ (v1_8 : Int32) (ls : Array Slot), j9 v1_8 = some rs → lv_has ls 3 [(0, .ref (a o)), (1, .int v1_8), (2, .int v2_5)] → W p l e (headSpec wsX2_countIn ({ frames := 2, cells := 0, slots := 0, locals := 42 } : Room)).room s m ([.ref (a o)] : List Value).toArray below meth c s.heap [] 0 0 (MQ below (vp_Si (fun z => z = rs)) ([.ref (a o)] : List Value).toArray s 0 0 (fun _ => False)) (F0 m 23 ls []) := by
          intro v1_8 ls h hl
          rw [hj9] at h
          refine lv_iinc (v := (v2_5 + (1 : Int32))) (lv' := [(2, .int (v2_5 + (1 : Int32))), (0, .ref (a o)), (1, .int v1_8)]) hx hb dX2_countIn_23 hl (k := 2) rfl (by rfl) (by decide) rfl (fun ls hl => ?_)
          refine lv_goto (tgt := 4) hx hb dX2_countIn_26 (by decide) ?_
          exact ih v1_8 (v2_5 + (1 : Int32)) ls h (lv_sub hl [1, 2, 0] rfl)
        refine lv_if_eq (tgt := 23) hx hb dX2_countIn_17 (by decide) (fun cc => ?_) (fun cc => ?_)
        · have h := ite_p cc h
          exact Jj9 v1_4 ls h (lv_sub hl [0, 1, 2] rfl)
        · have h := ite_n cc h
          refine lv_iinc (v := (v1_4 + (1 : Int32))) (lv' := [(1, .int (v1_4 + (1 : Int32))), (0, .ref (a o)), (2, .int v2_5)]) hx hb dX2_countIn_20 hl (k := 1) rfl (by rfl) (by decide) rfl (fun ls hl => ?_)
          exact Jj9 (v1_4 + (1 : Int32)) ls h (lv_sub hl [1, 0, 2] rfl)
  refine L10  _ ?_ fu (0 : Int32) (0 : Int32) ls h (lv_sub hl [2, 1, 0] rfl)
  intro v1_3 ls h hl
  refine lv_iload_n hx hb dX2_countIn_29 rfl (lv_at hl 0 rfl) ?_
  exact W.iret (v := v1_3) hx hb hr (fun t ht hW => ⟨v1_3, rfl, some_in h, ht⟩) (fun q hq => nomatch hq) dX2_countIn_30
set_option maxHeartbeats 4000000 in
set_option maxRecDepth 100000 in
theorem qX9_count (l : Launch) (D : va_G) (cy : Nat → ClassId) (a : Nat → Nat) (o : Nat) (S : SX9)  (rs : Int32) (h : DX9_count S = some rs) : Met l yX9_count wsX9_count ({ frames := 0, cells := 0, slots := 0, locals := 0 } : Room) (va_Pc [.ref (a o)] (fun U => va_P D vwCl (wX9 cy a o S) U.heap ∧ gK D cy U)) (vp_Si (fun z => z = rs)) 0 0 (fun _ => False) := by
  refine Met.ofW (cc := cX9_count) (maxL := 6) (ret := (some .int)) (by decide) rfl ?_
  intro p e s m args below meth c s₁ B hml hv
  obtain ⟨rfl, hP, hG⟩ := hv
  have hx := B.exec
  have hb := B.bytes
  have hr := B.returns
  have hts := atoms_spec (ws := wsX9_count) B.pre
  have hown : s.vm.findClass RX9 = some m.cls := findClass_of_methodNamed B.named
  have hlocks := B.notSynchronized
  have hK := hG.1
  have hinX9 := (by decide +kernel : ∀ w ∈ wsX90, w ∈ wsX9_count)
  have hf9 := hts (.fieldLink RX9 9 "PianoRounds$Tie" "tied" "[I") (by decide +kernel)
  have hl := lv_entry ([.ref (a o)]) (n := 6) (Nat.le_of_ble_eq_true rfl)
  rw [lg_entry_eq]
  generalize (lg_sl ([.ref (a o)]) ++ List.replicate (6 - (lg_sl ([.ref (a o)])).length) Slot.unset).toArray = ls at hl ⊢
  have hl : lv_has ls 6 [(0, .ref (a o))] := hl
  rw [DX9_count] at h
  refine lv_iconst (v := (0 : Int32)) hx hb dX9_count_0 (by decide) ?_
  refine lv_istore_n (lv' := [(1, .int (0 : Int32)), (0, .ref (a o))]) hx hb dX9_count_1 rfl hl (by decide) rfl (fun ls hl => ?_)
  refine lv_aload_n hx hb dX9_count_2 rfl (lv_at hl 1 rfl) ?_
  refine va_get (D := D) (ci := 9) (v := .ref (a (o + 1))) (C := RX9) (T := TX9) (N := 4) hx hb hts hinX9 hown hK hP 0 rfl rfl 2 (by decide) hf9 (fun _ h9 => h9) rfl dX9_count_3 ?_
  refine lv_astore_n (lv' := [(2, .ref (a (o + 1))), (1, .int (0 : Int32)), (0, .ref (a o))]) hx hb dX9_count_6 rfl hl (by decide) rfl (fun ls hl => ?_)
  refine lv_aload_n hx hb dX9_count_7 rfl (lv_at hl 0 rfl) ?_
  refine va_alen (v := (12 : Int32)) hx hb hK hP 1 0 rfl rfl rfl dX9_count_8 ?_
  refine lv_istore_n (lv' := [(3, .int (12 : Int32)), (2, .ref (a (o + 1))), (1, .int (0 : Int32)), (0, .ref (a o))]) hx hb dX9_count_9 rfl hl (by decide) rfl (fun ls hl => ?_)
  refine lv_iconst (v := (0 : Int32)) hx hb dX9_count_10 (by decide) ?_
  refine lv_istore (lv' := [(4, .int (0 : Int32)), (3, .int (12 : Int32)), (2, .ref (a (o + 1))), (1, .int (0 : Int32)), (0, .ref (a o))]) hx hb dX9_count_11 hl (by decide) rfl (fun ls hl => ?_)
  have L8 : ∀ (c3_1 : Int32) (k2 : Int32 → Option (Int32)) (hk2 : ∀ (v1_3 : Int32) (ls : Array Slot), k2 v1_3 = some rs → lv_has ls 6 [(1, .int v1_3)] → W p l e (headSpec wsX9_count ({ frames := 0, cells := 0, slots := 0, locals := 0 } : Room)).room s m ([.ref (a o)] : List Value).toArray below meth c s.heap [] 0 0 (MQ below (vp_Si (fun z => z = rs)) ([.ref (a o)] : List Value).toArray s 0 0 (fun _ => False)) (F0 m 36 ls [])) (f : Nat) (v1_5 : Int32) (v4_6 : Int32) (ls : Array Slot), DX9_count_L13 S c3_1 k2 f v1_5 v4_6 = some rs → lv_has ls 6 [(1, .int v1_5), (2, .ref (a (o + 1))), (3, .int c3_1), (4, .int v4_6)] → W p l e (headSpec wsX9_count ({ frames := 0, cells := 0, slots := 0, locals := 0 } : Room)).room s m ([.ref (a o)] : List Value).toArray below meth c s.heap [] 0 0 (MQ below (vp_Si (fun z => z = rs)) ([.ref (a o)] : List Value).toArray s 0 0 (fun _ => False)) (F0 m 13 ls []) := by
    intro c3_1 k2 hk2 f
    induction f with
    | zero =>
      intro v1_5 v4_6 ls h hl
      rw [DX9_count_L13] at h
      cases h
    | succ f ih =>
      intro v1_5 v4_6 ls h hl
      rw [DX9_count_L13] at h
      refine lv_iload hx hb dX9_count_13 (lv_at hl 3 rfl) ?_
      refine lv_iload_n hx hb dX9_count_15 rfl (lv_at hl 2 rfl) ?_
      refine lv_icmp_ge (tgt := 36) hx hb dX9_count_16 (by decide) (fun cc => ?_) (fun cc => ?_)
      · have h := ite_p cc h
        exact hk2 v1_5 ls h (lv_sub hl [0] rfl)
      · have h := ite_n cc h
        refine lv_aload_n hx hb dX9_count_19 rfl (lv_at hl 1 rfl) ?_
        refine lv_iload hx hb dX9_count_20 (lv_at hl 3 rfl) ?_
        obtain ⟨g7, h⟩ := gd_some h
        refine r_ald (f := (gX9_tied S)) (n := 12) (v := ((gX9_tied S) ((v4_6).toNatClampNeg))) hx hb hK hP 1 0 rfl rfl (gIn_in g7) rfl dX9_count_22 ?_
        refine lv_istore (lv' := [(5, .int ((gX9_tied S) ((v4_6).toNatClampNeg))), (1, .int v1_5), (2, .ref (a (o + 1))), (3, .int c3_1), (4, .int v4_6)]) hx hb dX9_count_23 hl (by decide) rfl (fun ls hl => ?_)
        refine lv_iload_n hx hb dX9_count_25 rfl (lv_at hl 1 rfl) ?_
        refine lv_iload hx hb dX9_count_26 (lv_at hl 0 rfl) ?_
        refine lv_iadd hx hb dX9_count_28 ?_
        refine lv_istore_n (lv' := [(1, .int (v1_5 + ((gX9_tied S) ((v4_6).toNatClampNeg)))), (5, .int ((gX9_tied S) ((v4_6).toNatClampNeg))), (2, .ref (a (o + 1))), (3, .int c3_1), (4, .int v4_6)]) hx hb dX9_count_29 rfl hl (by decide) rfl (fun ls hl => ?_)
        refine lv_iinc (v := (v4_6 + (1 : Int32))) (lv' := [(4, .int (v4_6 + (1 : Int32))), (1, .int (v1_5 + ((gX9_tied S) ((v4_6).toNatClampNeg)))), (5, .int ((gX9_tied S) ((v4_6).toNatClampNeg))), (2, .ref (a (o + 1))), (3, .int c3_1)]) hx hb dX9_count_30 hl (k := 4) rfl (by rfl) (by decide) rfl (fun ls hl => ?_)
        refine lv_goto (tgt := 13) hx hb dX9_count_33 (by decide) ?_
        exact ih (v1_5 + ((gX9_tied S) ((v4_6).toNatClampNeg))) (v4_6 + (1 : Int32)) ls h (lv_sub hl [1, 3, 4, 0] rfl)
  refine L8 (12 : Int32) _ ?_ fu (0 : Int32) (0 : Int32) ls h (lv_sub hl [3, 2, 1, 0] rfl)
  intro v1_4 ls h hl
  refine lv_iload_n hx hb dX9_count_36 rfl (lv_at hl 0 rfl) ?_
  exact W.iret (v := v1_4) hx hb hr (fun t ht hW => ⟨v1_4, rfl, some_in h, ht⟩) (fun q hq => nomatch hq) dX9_count_37
