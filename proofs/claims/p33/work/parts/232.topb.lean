set_option maxHeartbeats 4000000 in
set_option maxRecDepth 100000 in
theorem qX11_requireIndex (l : Launch) (hl9 : l.stackTraces = false) (D : va_G) (cy : Nat → ClassId) (tt : Nat → Nat)   (p0 : Int32) (sz : Nat) (rs : Nat ⊕ (Unit)) (h : DX11_requireIndex p0 = some rs) : vx_Met l yX11_requireIndex wsX11_requireIndex ({ frames := 6, cells := cX rs, slots := sX rs, locals := 100 } : Room) (xP D cy tt sz [.int p0] ([] : va_W)) (va_Qv (fun (u : Unit) => Sum.inr u = rs) (fun _ t => mB D sz ([] : va_W) ([] : va_W) t) (va_A ([] : va_W) sz)) (xC D sz ([] : va_W) rs) (cX rs) (sX rs) (va_A ([] : va_W) sz) := by
  refine vx_ofW (cc := cX11_requireIndex) (maxL := 1) (ret := none) (by decide) rfl ?_
  intro p e s m args below meth c s₁ B hml htab hv
  obtain ⟨rfl, hsz, hP, hG, hD0, hX⟩ := hv
  have hx := B.exec
  have hb := B.bytes
  have hr := B.returns
  have hts := atoms_spec (ws := wsX11_requireIndex) B.pre
  have hown : s.vm.findClass RX11 = some m.cls := findClass_of_methodNamed B.named
  have hlocks := B.notSynchronized
  have hK := hG.1
  subst hsz
  have hD := hD0.self (sz := s.heap.size)
  have hA : ∀ q : Nat, s.heap.size ≤ q → (va_A ([] : va_W) s.heap.size) q := fun q h => Or.inr h
  have hS : va_S (va_A ([] : va_W) s.heap.size) s.heap s.heap [] := va_S.rf
  have hl := lv_entry ([.int p0]) (n := 1) (Nat.le_of_ble_eq_true rfl)
  rw [lg_entry_eq]
  generalize (lg_sl ([.int p0]) ++ List.replicate (1 - (lg_sl ([.int p0])).length) Slot.unset).toArray = ls at hl ⊢
  have hl : lv_has ls 1 [(0, .int p0)] := hl
  rw [DX11_requireIndex] at h
  refine lv_iload_n hx hb dX11_requireIndex_0 rfl (lv_at hl 0 rfl) ?_
  refine lv_if_ne (tgt := 12) hx hb dX11_requireIndex_1 (by decide) (fun cc => ?_) (fun cc => ?_)
  · have h := ite_n cc h
    refine vx_ret (W.widen (k := cX rs) (n := sX rs) (Nat.zero_le _) (Nat.zero_le _) ?_)
    exact W.vret hx hb hr (fun t ht hW => ⟨⟨(), rfl, some_in h, by rw [ht]; exact hP, hD⟩, hS.F ht⟩) hS.2.2 dX11_requireIndex_12
  · have h := ite_p cc h
    exact vx_throw0 (cls := "java/lang/IndexOutOfBoundsException") (names := ["java/lang/RuntimeException", "java/lang/Exception"]) (ik := 314) (ic := 316) (A := (va_A ([] : va_W) s.heap.size)) hx hb hl9 hown (by decide +kernel) (by decide +kernel) (hts (.classLink RX11 314 "java/lang/IndexOutOfBoundsException") (by decide +kernel)) (hts (.initialized "java/lang/IndexOutOfBoundsException") (by decide +kernel)) (vx_hat (B := castL) (fun w hw => hts w ((by decide +kernel : ∀ w ∈ (vx_at0 RX11 316 "java/lang/IndexOutOfBoundsException" ["java/lang/RuntimeException", "java/lang/Exception"]).filter goodWord, w ∈ wsX11_requireIndex) w hw)) (by decide +kernel) (castL_use hG.2.2.2)) (by decide +kernel) hX.1 hX.2.1 hS (hl.1.trans hml.symm) dX11_requireIndex_4 dX11_requireIndex_7 dX11_requireIndex_8 dX11_requireIndex_11 (fun x hx9 => (htab x hx9).elim) (Nat.le_of_ble_eq_true rfl) (Nat.le_of_ble_eq_true rfl) (by rw [← some_in h]; exact Nat.le_refl 1) (by rw [← some_in h]; exact Nat.le_refl 6) hlocks (fun t hvm hz hk => xThrow (k := 1) (by decide +kernel) (some_in h) hP hD hS hz hk) hS.2.2 (by rw [← some_in h]; exact Nat.le_refl 1) (by rw [← some_in h]; exact Nat.le_refl 6)
set_option maxHeartbeats 4000000 in
set_option maxRecDepth 100000 in
theorem qX11_work (l : Launch) (hl9 : l.stackTraces = false) (D : va_G) (cy : Nat → ClassId) (tt : Nat → Nat) (a : Nat → Nat) (o : Nat) (S : SX11n) (p1 : Int32) (p2 : Int32) (sz : Nat) (rs : Nat ⊕ (Int32)) (h : DX11_work S p1 p2 = some rs) : vx_Met l yX11_work wsX11_work ({ frames := 7, cells := cX rs, slots := sX rs, locals := 120 } : Room) (xP D cy tt sz [.ref (a o), .int p1, .int p2] (wX11n cy a o S)) (va_Qi (fun r (_ : Unit) => Sum.inr r = rs) (fun _ t => mB D sz (wX11n cy a o S) (wX11n cy a o S) t) (va_A (wX11n cy a o S) sz)) (xC D sz (wX11n cy a o S) rs) (cX rs) (sX rs) (va_A (wX11n cy a o S) sz) := by
  refine vx_ofW (cc := cX11_work) (maxL := 3) (ret := (some .int)) (by decide) rfl ?_
  intro p e s m args below meth c s₁ B hml htab hv
  obtain ⟨rfl, hsz, hP, hG, hD0, hX⟩ := hv
  have hx := B.exec
  have hb := B.bytes
  have hr := B.returns
  have hts := atoms_spec (ws := wsX11_work) B.pre
  have hown : s.vm.findClass RX11 = some m.cls := findClass_of_methodNamed B.named
  have hlocks := B.notSynchronized
  have hK := hG.1
  subst hsz
  have hD := hD0.self (sz := s.heap.size)
  have hA : ∀ q : Nat, s.heap.size ≤ q → (va_A (wX11n cy a o S) s.heap.size) q := fun q h => Or.inr h
  have hS : va_S (va_A (wX11n cy a o S) s.heap.size) s.heap s.heap [] := va_S.rf
  have hinX11 := (by decide +kernel : ∀ w ∈ wsX110, w ∈ wsX11_work)
  have hf10 := hts (.fieldLink RX11 10 "PianoRounds" "now" "LPianoRounds$Competition;") (by decide +kernel)
  have hinX0 := (by decide +kernel : ∀ w ∈ wsX00, w ∈ wsX11_work)
  have hf42 := va_Nw.use (A := ([.ref (a o), .int p1, .int p2] : List Value).toArray) (U := s) (w := .fieldLinkNest "PianoRounds" 42 "PianoRounds$Competition" "works" "LPianoRounds$Works;" "PianoRounds") rfl (hG.2.1 _ (by decide +kernel))
  have hl := lv_entry ([.ref (a o), .int p1, .int p2]) (n := 3) (Nat.le_of_ble_eq_true rfl)
  rw [lg_entry_eq]
  generalize (lg_sl ([.ref (a o), .int p1, .int p2]) ++ List.replicate (3 - (lg_sl ([.ref (a o), .int p1, .int p2])).length) Slot.unset).toArray = ls at hl ⊢
  have hl : lv_has ls 3 [(0, .ref (a o)), (1, .int p1), (2, .int p2)] := hl
  rw [DX11_work] at h
  refine lv_aload_n hx hb dX11_work_0 rfl (lv_at hl 0 rfl) ?_
  refine va_get (D := D) (ci := 11) (v := .ref (a (o + 1))) (C := RX11) (T := TX11) (N := 3) hx hb hts hinX11 hown hK hP 0 rfl rfl 0 (by decide) hf10 (fun _ h9 => h9) rfl dX11_work_1 ?_
  refine va_getN (D := D) (ci := 0) (v := .ref (a (o + 1 + 1))) (C := RX0) (T := TX0) (N := 14) hx hb hts hinX0 hown hK hP 1 rfl rfl 4 (by decide) hf42 (fun _ h9 => h9) rfl dX11_work_4 ?_
  refine lv_iload_n hx hb dX11_work_7 rfl (lv_at hl 1 rfl) ?_
  obtain ⟨x1, e2, h⟩ := bd_some h
  refine pcV (As := [.int p1]) (rest := []) (q0 := 0) (qX10_has l D cy a (o + 1 + 1) (gX0_works (gX11n_now S)) p1 x1 e2) ⟨hx, hb, hml, hown, hts⟩ (cwV 1 hts gX11_work_X10_has rfl rfl rfl (by decide +kernel) ⟨Nat.le_of_ble_eq_true rfl, Nat.le_of_ble_eq_true rfl⟩) hG (P_seg (X := ((hX11n a o S) ++ (hX0 a (o + 1) (gX11n_now S)))) (c := (wX10 cy a (o + 1 + 1) (gX0_works (gX11n_now S)))) (Y := ((wX2 cy a (o + 1 + 5) (gX0_entrants (gX11n_now S))) ++ ((rowsW (cy 2) (cy 0) a (o + 1 + 7) 4 6 (gX0_rules (gX11n_now S))) ++ ((wX4 cy a (o + 1 + 12) (gX0_programs (gX11n_now S))) ++ ((wX3 cy a (o + 1 + 14) (gX0_jury (gX11n_now S))) ++ ((wX7 cy a (o + 1 + 23) (gX0_stage (gX11n_now S))) ++ ((wX6 cy a (o + 1 + 26) (gX0_sheet (gX11n_now S))) ++ ((wX9 cy a (o + 1 + 35) (gX0_tie (gX11n_now S))) ++ ((rowsW (cy 2) (cy 0) a (o + 1 + 46) 4 12 (gX0_closedScores (gX11n_now S))) ++ (wX1 cy a (o + 1 + 51) (gX0_cut (gX11n_now S)))))))))))) hP (by simp only [wX0, wX11n, List.append_assoc, List.nil_append, List.append_nil] <;> rfl)) rfl rfl rfl hl.1 rfl (Nat.le_of_ble_eq_true rfl) dX11_work_8 ⟨Nat.zero_le _, Nat.zero_le _⟩ ?_
  rcases tx_some h with ⟨k9, e9, h⟩ | ⟨x3, e4, h⟩
  · refine tcT (fun st v t q => by obtain ⟨⟨u, -, hu, -⟩, -⟩ := q; cases hu) hG hX hP hD hS hA (pm0 (wX11n cy a o S)) (fun h1 h2 => vx_runS (As := [.int x1]) (rest := []) ⟨hx, hb, hml, hown, hts⟩ (qX11_requireIndex l hl9 D cy tt  x1 (s.heap).size (Sum.inl k9) e9) (va_cwS 1 hts gX11_work_X11_requireIndex rfl rfl rfl (by decide +kernel) ⟨Nat.le_of_ble_eq_true rfl, Nat.le_of_ble_eq_true rfl⟩) ⟨h1, h2⟩ rfl rfl hl.1 rfl (lv_room (Nat.le_of_ble_eq_true rfl)) dX11_work_11 ⟨(by rw [← h]; exact Nat.le_refl 1), (by rw [← h]; exact Nat.le_refl 6)⟩) (fun ce q9 H locs hP hS hce hcv hcl => ?_)
    exact vx_out (fun x hx9 => (htab x hx9).elim) hlocks hce hcv hcl (fun t ht hvm => xThrow rfl h hP hD hS (by rw [ht]; exact Nat.le_refl _) (fun q _ => by rw [ht])) hS.2.2 (by rw [← h]; exact Nat.le_refl 1) (by rw [← h]; exact Nat.le_refl 6)
  refine tcNv hG hX hP hD hS hA (pm0 (wX11n cy a o S)) (fun h1 h2 => vx_runS (As := [.int x1]) (rest := []) ⟨hx, hb, hml, hown, hts⟩ (qX11_requireIndex l hl9 D cy tt  x1 (s.heap).size (Sum.inr x3) e4) (va_cwS 1 hts gX11_work_X11_requireIndex rfl rfl rfl (by decide +kernel) ⟨Nat.le_of_ble_eq_true rfl, Nat.le_of_ble_eq_true rfl⟩) ⟨h1, h2⟩ rfl rfl hl.1 rfl (lv_room (Nat.le_of_ble_eq_true rfl)) dX11_work_11 ⟨Nat.zero_le _, Nat.zero_le _⟩) (c2 := 0) (s2 := 0) rfl rfl (fun H locs hP hS => ?_)
  refine lv_iload_n hx hb dX11_work_14 rfl (lv_at hl 2 rfl) ?_
  refine lv_iconst (v := (0 : Int32)) hx hb dX11_work_15 (by decide) ?_
  refine lv_iconst (v := (2 : Int32)) hx hb dX11_work_16 (by decide) ?_
  obtain ⟨x5, e6, h⟩ := bd_some h
  refine pcS (As := [.int p2, .int (0 : Int32), .int (2 : Int32)]) (rest := []) (qX11_isBetween l D cy  p2 (0 : Int32) (2 : Int32) x5 e6) ⟨hx, hb, hml, hown, hts⟩ (va_cwS 3 hts gX11_work_X11_isBetween rfl rfl rfl (by decide +kernel) ⟨Nat.le_of_ble_eq_true rfl, Nat.le_of_ble_eq_true rfl⟩) hG (hP.sub [] rfl) rfl hl.1 rfl (Nat.le_of_ble_eq_true rfl) dX11_work_17 ⟨Nat.zero_le _, Nat.zero_le _⟩ ?_
  rcases tx_some h with ⟨k9, e9, h⟩ | ⟨x7, e8, h⟩
  · refine tcT (fun st v t q => by obtain ⟨⟨u, -, hu, -⟩, -⟩ := q; cases hu) hG hX hP hD hS hA (pm0 (wX11n cy a o S)) (fun h1 h2 => vx_runS (As := [.int x5]) (rest := []) ⟨hx, hb, hml, hown, hts⟩ (qX11_requireArgument l hl9 D cy tt  x5 (H).size (Sum.inl k9) e9) (va_cwS 1 hts gX11_work_X11_requireArgument rfl rfl rfl (by decide +kernel) ⟨Nat.le_of_ble_eq_true rfl, Nat.le_of_ble_eq_true rfl⟩) ⟨h1, h2⟩ rfl rfl hl.1 rfl (lv_room (Nat.le_of_ble_eq_true rfl)) dX11_work_20 ⟨(by rw [← h]; exact Nat.le_refl 1), (by rw [← h]; exact Nat.le_refl 6)⟩) (fun ce q9 H locs hP hS hce hcv hcl => ?_)
    exact vx_out (fun x hx9 => (htab x hx9).elim) hlocks hce hcv hcl (fun t ht hvm => xThrow rfl h hP hD hS (by rw [ht]; exact Nat.le_refl _) (fun q _ => by rw [ht])) hS.2.2 (by rw [← h]; exact Nat.le_refl 1) (by rw [← h]; exact Nat.le_refl 6)
  refine tcNv hG hX hP hD hS hA (pm0 (wX11n cy a o S)) (fun h1 h2 => vx_runS (As := [.int x5]) (rest := []) ⟨hx, hb, hml, hown, hts⟩ (qX11_requireArgument l hl9 D cy tt  x5 (H).size (Sum.inr x7) e8) (va_cwS 1 hts gX11_work_X11_requireArgument rfl rfl rfl (by decide +kernel) ⟨Nat.le_of_ble_eq_true rfl, Nat.le_of_ble_eq_true rfl⟩) ⟨h1, h2⟩ rfl rfl hl.1 rfl (lv_room (Nat.le_of_ble_eq_true rfl)) dX11_work_20 ⟨Nat.zero_le _, Nat.zero_le _⟩) (c2 := 0) (s2 := 0) rfl rfl (fun H locs hP hS => ?_)
  refine lv_aload_n hx hb dX11_work_23 rfl (lv_at hl 0 rfl) ?_
  refine va_get (D := D) (ci := 11) (v := .ref (a (o + 1))) (C := RX11) (T := TX11) (N := 3) hx hb hts hinX11 hown hK hP 0 rfl rfl 0 (by decide) hf10 (fun _ h9 => h9) rfl dX11_work_24 ?_
  refine va_getN (D := D) (ci := 0) (v := .ref (a (o + 1 + 1))) (C := RX0) (T := TX0) (N := 14) hx hb hts hinX0 hown hK hP 1 rfl rfl 4 (by decide) hf42 (fun _ h9 => h9) rfl dX11_work_27 ?_
  refine lv_iload_n hx hb dX11_work_30 rfl (lv_at hl 1 rfl) ?_
  refine lv_iload_n hx hb dX11_work_31 rfl (lv_at hl 2 rfl) ?_
  obtain ⟨x9, e10, h⟩ := bd_some h
  refine pcV (As := [.int p1, .int p2]) (rest := []) (q0 := 0) (qX10_fact l D cy a (o + 1 + 1) (gX0_works (gX11n_now S)) p1 p2 x9 e10) ⟨hx, hb, hml, hown, hts⟩ (cwV 2 hts gX11_work_X10_fact rfl rfl rfl (by decide +kernel) ⟨Nat.le_of_ble_eq_true rfl, Nat.le_of_ble_eq_true rfl⟩) hG (P_seg (X := ((hX11n a o S) ++ (hX0 a (o + 1) (gX11n_now S)))) (c := (wX10 cy a (o + 1 + 1) (gX0_works (gX11n_now S)))) (Y := ((wX2 cy a (o + 1 + 5) (gX0_entrants (gX11n_now S))) ++ ((rowsW (cy 2) (cy 0) a (o + 1 + 7) 4 6 (gX0_rules (gX11n_now S))) ++ ((wX4 cy a (o + 1 + 12) (gX0_programs (gX11n_now S))) ++ ((wX3 cy a (o + 1 + 14) (gX0_jury (gX11n_now S))) ++ ((wX7 cy a (o + 1 + 23) (gX0_stage (gX11n_now S))) ++ ((wX6 cy a (o + 1 + 26) (gX0_sheet (gX11n_now S))) ++ ((wX9 cy a (o + 1 + 35) (gX0_tie (gX11n_now S))) ++ ((rowsW (cy 2) (cy 0) a (o + 1 + 46) 4 12 (gX0_closedScores (gX11n_now S))) ++ (wX1 cy a (o + 1 + 51) (gX0_cut (gX11n_now S)))))))))))) hP (by simp only [wX0, wX11n, List.append_assoc, List.nil_append, List.append_nil] <;> rfl)) rfl rfl rfl hl.1 rfl (Nat.le_of_ble_eq_true rfl) dX11_work_32 ⟨Nat.zero_le _, Nat.zero_le _⟩ ?_
  refine vx_ret (W.widen (k := cX rs) (n := sX rs) (Nat.zero_le _) (Nat.zero_le _) ?_)
  exact W.iret (v := x9) hx hb hr (fun t ht hW => ⟨⟨x9, (), rfl, some_in h, by rw [ht]; exact hP, hD⟩, hS.F ht⟩) hS.2.2 dX11_work_35
set_option maxHeartbeats 4000000 in
set_option maxRecDepth 100000 in
theorem qX11_addEntrant (l : Launch) (hl9 : l.stackTraces = false) (D : va_G) (cy : Nat → ClassId) (tt : Nat → Nat) (a : Nat → Nat) (o : Nat) (S : SX11)  (sz : Nat) (rs : Nat ⊕ (Int32 × SX11)) (h : DX11_addEntrant S = some rs) : vx_Met l yX11_addEntrant wsX11_addEntrant ({ frames := 7, cells := cX rs, slots := sX rs, locals := 206 } : Room) (xP D cy tt sz [.ref (a o)] (wX11 cy a o S)) (va_Qi (fun r (u : SX11) => Sum.inr (r, u) = rs) (fun u t => mB D sz (wX11 cy a o S) (wX11 cy a o u) t) (va_A (wX11 cy a o S) sz)) (xC D sz (wX11 cy a o S) rs) (cX rs) (sX rs) (va_A (wX11 cy a o S) sz) := by
  refine vx_ofW (cc := cX11_addEntrant) (maxL := 1) (ret := (some .int)) (by decide) rfl ?_
  intro p e s m args below meth c s₁ B hml htab hv
  obtain ⟨rfl, hsz, hP, hG, hD0, hX⟩ := hv
  have hx := B.exec
  have hb := B.bytes
  have hr := B.returns
  have hts := atoms_spec (ws := wsX11_addEntrant) B.pre
  have hown : s.vm.findClass RX11 = some m.cls := findClass_of_methodNamed B.named
  have hlocks := B.notSynchronized
  have hK := hG.1
  subst hsz
  have hD := hD0.self (sz := s.heap.size)
  have hA : ∀ q : Nat, s.heap.size ≤ q → (va_A (wX11 cy a o S) s.heap.size) q := fun q h => Or.inr h
  have hS : va_S (va_A (wX11 cy a o S) s.heap.size) s.heap s.heap [] := va_S.rf
  have hinX11 := (by decide +kernel : ∀ w ∈ wsX110, w ∈ wsX11_addEntrant)
  have hf10 := hts (.fieldLink RX11 10 "PianoRounds" "now" "LPianoRounds$Competition;") (by decide +kernel)
  have hinX0 := (by decide +kernel : ∀ w ∈ wsX00, w ∈ wsX11_addEntrant)
  have hf38 := va_Nw.use (A := ([.ref (a o)] : List Value).toArray) (U := s) (w := .fieldLinkNest "PianoRounds" 38 "PianoRounds$Competition" "state" "I" "PianoRounds") rfl (hG.2.1 _ (by decide +kernel))
  have hf19 := hts (.fieldLink RX11 19 "PianoRounds" "records" "LPianoRounds$Records;") (by decide +kernel)
  have hf73 := va_Nw.use (A := ([.ref (a o)] : List Value).toArray) (U := s) (w := .fieldLinkNest "PianoRounds" 73 "PianoRounds$Competition" "entrants" "LPianoRounds$Entrants;" "PianoRounds") rfl (hG.2.1 _ (by decide +kernel))
  have hinX2 := (by decide +kernel : ∀ w ∈ wsX20, w ∈ wsX11_addEntrant)
  have hf77 := va_Nw.use (A := ([.ref (a o)] : List Value).toArray) (U := s) (w := .fieldLinkNest "PianoRounds" 77 "PianoRounds$Entrants" "count" "I" "PianoRounds") rfl (hG.2.1 _ (by decide +kernel))
  have hl := lv_entry ([.ref (a o)]) (n := 1) (Nat.le_of_ble_eq_true rfl)
  rw [lg_entry_eq]
  generalize (lg_sl ([.ref (a o)]) ++ List.replicate (1 - (lg_sl ([.ref (a o)])).length) Slot.unset).toArray = ls at hl ⊢
  have hl : lv_has ls 1 [(0, .ref (a o))] := hl
  rw [DX11_addEntrant] at h
  refine lv_aload_n hx hb dX11_addEntrant_0 rfl (lv_at hl 0 rfl) ?_
  refine va_get (D := D) (ci := 11) (v := .ref (a (o + 1))) (C := RX11) (T := TX11) (N := 3) hx hb hts hinX11 hown hK hP 0 rfl rfl 0 (by decide) hf10 (fun _ h9 => h9) rfl dX11_addEntrant_1 ?_
  refine va_getN (D := D) (ci := 0) (v := .int (gX0_state (gX11_now S))) (C := RX0) (T := TX0) (N := 14) hx hb hts hinX0 hown hK hP 1 rfl rfl 0 (by decide) hf38 (fun _ h9 => h9) rfl dX11_addEntrant_4 ?_
  obtain ⟨j2, hj2, h⟩ := jn_elim h
  have Jj2 : ∀ (x1 : Int32) (ls : Array Slot), j2 x1 = some rs → lv_has ls 1 [(0, .ref (a o))] → W p l e (headSpec wsX11_addEntrant ({ frames := 7, cells := cX rs, slots := sX rs, locals := 206 } : Room)).room s m ([.ref (a o)] : List Value).toArray below meth c s.heap [] 0 0 (vx_MQ below (va_Qi (fun r (u : SX11) => Sum.inr (r, u) = rs) (fun u t => mB D s.heap.size (wX11 cy a o S) (wX11 cy a o u) t) (va_A (wX11 cy a o S) s.heap.size)) (xC D s.heap.size (wX11 cy a o S) rs) ([.ref (a o)] : List Value).toArray s (cX rs) (sX rs) (va_A (wX11 cy a o S) s.heap.size)) (F0 m 30 ls [.int x1]) := by
    intro x1 ls h hl
    rw [hj2] at h
    rcases tx_some h with ⟨k9, e9, h⟩ | ⟨x3, e4, h⟩
    · refine tcT (fun st v t q => by obtain ⟨⟨u, -, hu, -⟩, -⟩ := q; cases hu) hG hX hP hD hS hA (pm0 (wX11 cy a o S)) (fun h1 h2 => vx_runS (As := [.int x1]) (rest := []) ⟨hx, hb, hml, hown, hts⟩ (qX11_requireState l hl9 D cy tt  x1 (s.heap).size (Sum.inl k9) e9) (va_cwS 1 hts gX11_addEntrant_X11_requireState rfl rfl rfl (by decide +kernel) ⟨Nat.le_of_ble_eq_true rfl, Nat.le_of_ble_eq_true rfl⟩) ⟨h1, h2⟩ rfl rfl hl.1 rfl (lv_room (Nat.le_of_ble_eq_true rfl)) dX11_addEntrant_30 ⟨(by rw [← h]; exact Nat.le_refl 1), (by rw [← h]; exact Nat.le_refl 6)⟩) (fun ce q9 H locs hP hS hce hcv hcl => ?_)
      exact vx_out (fun x hx9 => (htab x hx9).elim) hlocks hce hcv hcl (fun t ht hvm => xThrow rfl h hP hD hS (by rw [ht]; exact Nat.le_refl _) (fun q _ => by rw [ht])) hS.2.2 (by rw [← h]; exact Nat.le_refl 1) (by rw [← h]; exact Nat.le_refl 6)
    refine tcNv hG hX hP hD hS hA (pm0 (wX11 cy a o S)) (fun h1 h2 => vx_runS (As := [.int x1]) (rest := []) ⟨hx, hb, hml, hown, hts⟩ (qX11_requireState l hl9 D cy tt  x1 (s.heap).size (Sum.inr x3) e4) (va_cwS 1 hts gX11_addEntrant_X11_requireState rfl rfl rfl (by decide +kernel) ⟨Nat.le_of_ble_eq_true rfl, Nat.le_of_ble_eq_true rfl⟩) ⟨h1, h2⟩ rfl rfl hl.1 rfl (lv_room (Nat.le_of_ble_eq_true rfl)) dX11_addEntrant_30 ⟨Nat.zero_le _, Nat.zero_le _⟩) (c2 := 0) (s2 := 0) rfl rfl (fun H locs hP hS => ?_)
    refine lv_aload_n hx hb dX11_addEntrant_33 rfl (lv_at hl 0 rfl) ?_
    refine va_get (D := D) (ci := 11) (v := .ref (a (o + 54))) (C := RX11) (T := TX11) (N := 3) hx hb hts hinX11 hown hK hP 0 rfl rfl 1 (by decide) hf19 (fun _ h9 => h9) rfl dX11_addEntrant_34 ?_
    refine lv_aload_n hx hb dX11_addEntrant_37 rfl (lv_at hl 0 rfl) ?_
    refine va_get (D := D) (ci := 11) (v := .ref (a (o + 1))) (C := RX11) (T := TX11) (N := 3) hx hb hts hinX11 hown hK hP 0 rfl rfl 0 (by decide) hf10 (fun _ h9 => h9) rfl dX11_addEntrant_38 ?_
    obtain ⟨x5, e6, h⟩ := bd_some h
    refine smVv (As := [.ref (a (o + 1))]) (rest := []) (ws' := (wX11 cy a o (uX11_records S x5))) (q0 := 0) (qX5_keep l D cy a (o + 54) a (o + 1) (gX11_records S) (gX11_now S)  (H).size x5 e6) ⟨hx, hb, hml, hown, hts⟩ (cwV 1 hts gX11_addEntrant_X5_keep rfl rfl rfl (by decide +kernel) ⟨Nat.le_of_ble_eq_true rfl, Nat.le_of_ble_eq_true rfl⟩) hG hP hD hS hA (pm2r (X := (hX11 a o S)) (c1 := (wX5 cy a (o + 54) (gX11_records S))) (Y := ([] : va_W)) (c2 := (wX0 cy a (o + 1) (gX11_now S))) (Z := (wX8 cy a (o + 268) (gX11_text S))) (show (wX11 cy a o S) = (hX11 a o S) ++ ((wX0 cy a (o + 1) (gX11_now S)) ++ (([] : va_W) ++ ((wX5 cy a (o + 54) (gX11_records S)) ++ (wX8 cy a (o + 268) (gX11_text S))))) from by simp only [wX11, List.append_assoc, List.nil_append, List.append_nil] <;> rfl)) (pm2r (X := (hX11 a o S)) (c1 := (wX5 cy a (o + 54) x5)) (Y := ([] : va_W)) (c2 := (wX0 cy a (o + 1) (gX11_now S))) (Z := (wX8 cy a (o + 268) (gX11_text S))) (show (wX11 cy a o (uX11_records S x5)) = (hX11 a o S) ++ ((wX0 cy a (o + 1) (gX11_now S)) ++ (([] : va_W) ++ ((wX5 cy a (o + 54) x5) ++ (wX8 cy a (o + 268) (gX11_text S))))) from by simp only [wX11, List.append_assoc, List.nil_append, List.append_nil] <;> rfl)) rfl rfl rfl hl.1 rfl (Nat.le_of_ble_eq_true rfl) dX11_addEntrant_41 ⟨Nat.zero_le _, Nat.zero_le _⟩ (fun H locs hP hD hS => ?_)
    obtain ⟨S7, eS8, h⟩ := lt_elim h
    have hP : va_P D vwCl (wX11 cy a o S7) H := by rw [eS8]; exact hP
    have hD : va_D (va_A (wX11 cy a o S) s.heap.size) (wX11 cy a o S7) := by rw [eS8]; exact hD
    refine lv_aload_n hx hb dX11_addEntrant_44 rfl (lv_at hl 0 rfl) ?_
    refine va_get (D := D) (ci := 11) (v := .ref (a (o + 1))) (C := RX11) (T := TX11) (N := 3) hx hb hts hinX11 hown hK hP 0 rfl rfl 0 (by decide) hf10 (fun _ h9 => h9) rfl dX11_addEntrant_45 ?_
    refine va_getN (D := D) (ci := 0) (v := .ref (a (o + 1 + 5))) (C := RX0) (T := TX0) (N := 14) hx hb hts hinX0 hown hK hP 1 rfl rfl 5 (by decide) hf73 (fun _ h9 => h9) rfl dX11_addEntrant_48 ?_
    obtain ⟨x9, e10, h⟩ := bd_some h
    refine smVi (As := []) (rest := []) (ws' := (wX11 cy a o (uX11_now S7 (uX0_entrants (gX11_now S7) x9.2)))) (q0 := 0) (qX2_append l D cy a (o + 1 + 5) (gX0_entrants (gX11_now S7))  (H).size x9 e10) ⟨hx, hb, hml, hown, hts⟩ (cwV 0 hts gX11_addEntrant_X2_append rfl rfl rfl (by decide +kernel) ⟨Nat.le_of_ble_eq_true rfl, Nat.le_of_ble_eq_true rfl⟩) hG hP hD hS hA (pm1 (X := ((hX11 a o S7) ++ ((hX0 a (o + 1) (gX11_now S7)) ++ (wX10 cy a (o + 1 + 1) (gX0_works (gX11_now S7)))))) (c := (wX2 cy a (o + 1 + 5) (gX0_entrants (gX11_now S7)))) (Y := ((rowsW (cy 2) (cy 0) a (o + 1 + 7) 4 6 (gX0_rules (gX11_now S7))) ++ ((wX4 cy a (o + 1 + 12) (gX0_programs (gX11_now S7))) ++ ((wX3 cy a (o + 1 + 14) (gX0_jury (gX11_now S7))) ++ ((wX7 cy a (o + 1 + 23) (gX0_stage (gX11_now S7))) ++ ((wX6 cy a (o + 1 + 26) (gX0_sheet (gX11_now S7))) ++ ((wX9 cy a (o + 1 + 35) (gX0_tie (gX11_now S7))) ++ ((rowsW (cy 2) (cy 0) a (o + 1 + 46) 4 12 (gX0_closedScores (gX11_now S7))) ++ ((wX1 cy a (o + 1 + 51) (gX0_cut (gX11_now S7))) ++ ((wX5 cy a (o + 54) (gX11_records S7)) ++ (wX8 cy a (o + 268) (gX11_text S7)))))))))))) (show (wX11 cy a o S7) = ((hX11 a o S7) ++ ((hX0 a (o + 1) (gX11_now S7)) ++ (wX10 cy a (o + 1 + 1) (gX0_works (gX11_now S7))))) ++ ((wX2 cy a (o + 1 + 5) (gX0_entrants (gX11_now S7))) ++ ((rowsW (cy 2) (cy 0) a (o + 1 + 7) 4 6 (gX0_rules (gX11_now S7))) ++ ((wX4 cy a (o + 1 + 12) (gX0_programs (gX11_now S7))) ++ ((wX3 cy a (o + 1 + 14) (gX0_jury (gX11_now S7))) ++ ((wX7 cy a (o + 1 + 23) (gX0_stage (gX11_now S7))) ++ ((wX6 cy a (o + 1 + 26) (gX0_sheet (gX11_now S7))) ++ ((wX9 cy a (o + 1 + 35) (gX0_tie (gX11_now S7))) ++ ((rowsW (cy 2) (cy 0) a (o + 1 + 46) 4 12 (gX0_closedScores (gX11_now S7))) ++ ((wX1 cy a (o + 1 + 51) (gX0_cut (gX11_now S7))) ++ ((wX5 cy a (o + 54) (gX11_records S7)) ++ (wX8 cy a (o + 268) (gX11_text S7)))))))))))) from by simp only [wX0, wX11, List.append_assoc, List.nil_append, List.append_nil] <;> rfl)) (pm1 (X := ((hX11 a o S7) ++ ((hX0 a (o + 1) (gX11_now S7)) ++ (wX10 cy a (o + 1 + 1) (gX0_works (gX11_now S7)))))) (c := (wX2 cy a (o + 1 + 5) x9.2)) (Y := ((rowsW (cy 2) (cy 0) a (o + 1 + 7) 4 6 (gX0_rules (gX11_now S7))) ++ ((wX4 cy a (o + 1 + 12) (gX0_programs (gX11_now S7))) ++ ((wX3 cy a (o + 1 + 14) (gX0_jury (gX11_now S7))) ++ ((wX7 cy a (o + 1 + 23) (gX0_stage (gX11_now S7))) ++ ((wX6 cy a (o + 1 + 26) (gX0_sheet (gX11_now S7))) ++ ((wX9 cy a (o + 1 + 35) (gX0_tie (gX11_now S7))) ++ ((rowsW (cy 2) (cy 0) a (o + 1 + 46) 4 12 (gX0_closedScores (gX11_now S7))) ++ ((wX1 cy a (o + 1 + 51) (gX0_cut (gX11_now S7))) ++ ((wX5 cy a (o + 54) (gX11_records S7)) ++ (wX8 cy a (o + 268) (gX11_text S7)))))))))))) (show (wX11 cy a o (uX11_now S7 (uX0_entrants (gX11_now S7) x9.2))) = ((hX11 a o S7) ++ ((hX0 a (o + 1) (gX11_now S7)) ++ (wX10 cy a (o + 1 + 1) (gX0_works (gX11_now S7))))) ++ ((wX2 cy a (o + 1 + 5) x9.2) ++ ((rowsW (cy 2) (cy 0) a (o + 1 + 7) 4 6 (gX0_rules (gX11_now S7))) ++ ((wX4 cy a (o + 1 + 12) (gX0_programs (gX11_now S7))) ++ ((wX3 cy a (o + 1 + 14) (gX0_jury (gX11_now S7))) ++ ((wX7 cy a (o + 1 + 23) (gX0_stage (gX11_now S7))) ++ ((wX6 cy a (o + 1 + 26) (gX0_sheet (gX11_now S7))) ++ ((wX9 cy a (o + 1 + 35) (gX0_tie (gX11_now S7))) ++ ((rowsW (cy 2) (cy 0) a (o + 1 + 46) 4 12 (gX0_closedScores (gX11_now S7))) ++ ((wX1 cy a (o + 1 + 51) (gX0_cut (gX11_now S7))) ++ ((wX5 cy a (o + 54) (gX11_records S7)) ++ (wX8 cy a (o + 268) (gX11_text S7)))))))))))) from by simp only [wX0, wX11, List.append_assoc, List.nil_append, List.append_nil] <;> rfl)) rfl rfl rfl hl.1 rfl (Nat.le_of_ble_eq_true rfl) dX11_addEntrant_51 ⟨Nat.zero_le _, Nat.zero_le _⟩ (fun H locs hP hD hS => ?_)
    obtain ⟨S11, eS12, h⟩ := lt_elim h
    have hP : va_P D vwCl (wX11 cy a o S11) H := by rw [eS12]; exact hP
    have hD : va_D (va_A (wX11 cy a o S) s.heap.size) (wX11 cy a o S11) := by rw [eS12]; exact hD
    refine vx_ret (W.widen (k := cX rs) (n := sX rs) (Nat.zero_le _) (Nat.zero_le _) ?_)
    exact W.iret (v := x9.1) hx hb hr (fun t ht hW => ⟨⟨x9.1, S11, rfl, some_in h, by rw [ht]; exact hP, hD⟩, hS.F ht⟩) hS.2.2 dX11_addEntrant_54
  obtain ⟨j13, hj13, h⟩ := jn_elim h
  have Jj13 : ∀ (ls : Array Slot), j13 () = some rs → lv_has ls 1 [(0, .ref (a o))] → W p l e (headSpec wsX11_addEntrant ({ frames := 7, cells := cX rs, slots := sX rs, locals := 206 } : Room)).room s m ([.ref (a o)] : List Value).toArray below meth c s.heap [] 0 0 (vx_MQ below (va_Qi (fun r (u : SX11) => Sum.inr (r, u) = rs) (fun u t => mB D s.heap.size (wX11 cy a o S) (wX11 cy a o u) t) (va_A (wX11 cy a o S) s.heap.size)) (xC D s.heap.size (wX11 cy a o S) rs) ([.ref (a o)] : List Value).toArray s (cX rs) (sX rs) (va_A (wX11 cy a o S) s.heap.size)) (F0 m 29 ls []) := by
    intro ls h hl
    rw [hj13] at h
    refine lv_iconst (v := (0 : Int32)) hx hb dX11_addEntrant_29 (by decide) ?_
    exact Jj2 (0 : Int32) ls h (lv_sub hl [0] rfl)
  refine lv_if_ne (tgt := 29) hx hb dX11_addEntrant_7 (by decide) (fun cc => ?_) (fun cc => ?_)
  · have h := ite_n cc h
    exact Jj13  ls h (lv_sub hl [0] rfl)
  · have h := ite_p cc h
    refine lv_aload_n hx hb dX11_addEntrant_10 rfl (lv_at hl 0 rfl) ?_
    refine va_get (D := D) (ci := 11) (v := .ref (a (o + 1))) (C := RX11) (T := TX11) (N := 3) hx hb hts hinX11 hown hK hP 0 rfl rfl 0 (by decide) hf10 (fun _ h9 => h9) rfl dX11_addEntrant_11 ?_
    refine va_getN (D := D) (ci := 0) (v := .ref (a (o + 1 + 5))) (C := RX0) (T := TX0) (N := 14) hx hb hts hinX0 hown hK hP 1 rfl rfl 5 (by decide) hf73 (fun _ h9 => h9) rfl dX11_addEntrant_14 ?_
    refine va_getN (D := D) (ci := 2) (v := .int (gX2_count (gX0_entrants (gX11_now S)))) (C := RX2) (T := TX2) (N := 2) hx hb hts hinX2 hown hK hP 6 rfl rfl 0 (by decide) hf77 (fun _ h9 => h9) rfl dX11_addEntrant_17 ?_
    refine lv_bipush (v := (12 : Int32)) hx hb dX11_addEntrant_20 (by decide) ?_
    refine lv_icmp_ge (tgt := 29) hx hb dX11_addEntrant_22 (by decide) (fun cc => ?_) (fun cc => ?_)
    · have h := ite_p cc h
      exact Jj13  ls h (lv_sub hl [0] rfl)
    · have h := ite_n cc h
      refine lv_iconst (v := (1 : Int32)) hx hb dX11_addEntrant_25 (by decide) ?_
      refine lv_goto (tgt := 30) hx hb dX11_addEntrant_26 (by decide) ?_
      exact Jj2 (1 : Int32) ls h (lv_sub hl [0] rfl)
set_option maxHeartbeats 4000000 in
set_option maxRecDepth 100000 in
theorem qX11_requireEntrant (l : Launch) (hl9 : l.stackTraces = false) (D : va_G) (cy : Nat → ClassId) (tt : Nat → Nat) (a : Nat → Nat) (o : Nat) (S : SX11n) (p1 : Int32) (sz : Nat) (rs : Nat ⊕ (Unit)) (h : DX11_requireEntrant S p1 = some rs) : vx_Met l yX11_requireEntrant wsX11_requireEntrant ({ frames := 7, cells := cX rs, slots := sX rs, locals := 120 } : Room) (xP D cy tt sz [.ref (a o), .int p1] (wX11n cy a o S)) (va_Qv (fun (u : Unit) => Sum.inr u = rs) (fun _ t => mB D sz (wX11n cy a o S) (wX11n cy a o S) t) (va_A (wX11n cy a o S) sz)) (xC D sz (wX11n cy a o S) rs) (cX rs) (sX rs) (va_A (wX11n cy a o S) sz) := by
  refine vx_ofW (cc := cX11_requireEntrant) (maxL := 2) (ret := none) (by decide) rfl ?_
  intro p e s m args below meth c s₁ B hml htab hv
  obtain ⟨rfl, hsz, hP, hG, hD0, hX⟩ := hv
  have hx := B.exec
  have hb := B.bytes
  have hr := B.returns
  have hts := atoms_spec (ws := wsX11_requireEntrant) B.pre
  have hown : s.vm.findClass RX11 = some m.cls := findClass_of_methodNamed B.named
  have hlocks := B.notSynchronized
  have hK := hG.1
  subst hsz
  have hD := hD0.self (sz := s.heap.size)
  have hA : ∀ q : Nat, s.heap.size ≤ q → (va_A (wX11n cy a o S) s.heap.size) q := fun q h => Or.inr h
  have hS : va_S (va_A (wX11n cy a o S) s.heap.size) s.heap s.heap [] := va_S.rf
  have hinX11 := (by decide +kernel : ∀ w ∈ wsX110, w ∈ wsX11_requireEntrant)
  have hf10 := hts (.fieldLink RX11 10 "PianoRounds" "now" "LPianoRounds$Competition;") (by decide +kernel)
  have hinX0 := (by decide +kernel : ∀ w ∈ wsX00, w ∈ wsX11_requireEntrant)
  have hf73 := va_Nw.use (A := ([.ref (a o), .int p1] : List Value).toArray) (U := s) (w := .fieldLinkNest "PianoRounds" 73 "PianoRounds$Competition" "entrants" "LPianoRounds$Entrants;" "PianoRounds") rfl (hG.2.1 _ (by decide +kernel))
  have hl := lv_entry ([.ref (a o), .int p1]) (n := 2) (Nat.le_of_ble_eq_true rfl)
  rw [lg_entry_eq]
  generalize (lg_sl ([.ref (a o), .int p1]) ++ List.replicate (2 - (lg_sl ([.ref (a o), .int p1])).length) Slot.unset).toArray = ls at hl ⊢
  have hl : lv_has ls 2 [(0, .ref (a o)), (1, .int p1)] := hl
  rw [DX11_requireEntrant] at h
  refine lv_aload_n hx hb dX11_requireEntrant_0 rfl (lv_at hl 0 rfl) ?_
  refine va_get (D := D) (ci := 11) (v := .ref (a (o + 1))) (C := RX11) (T := TX11) (N := 3) hx hb hts hinX11 hown hK hP 0 rfl rfl 0 (by decide) hf10 (fun _ h9 => h9) rfl dX11_requireEntrant_1 ?_
  refine va_getN (D := D) (ci := 0) (v := .ref (a (o + 1 + 5))) (C := RX0) (T := TX0) (N := 14) hx hb hts hinX0 hown hK hP 1 rfl rfl 5 (by decide) hf73 (fun _ h9 => h9) rfl dX11_requireEntrant_4 ?_
  refine lv_iload_n hx hb dX11_requireEntrant_7 rfl (lv_at hl 1 rfl) ?_
  obtain ⟨x1, e2, h⟩ := bd_some h
  refine pcV (As := [.int p1]) (rest := []) (q0 := 0) (qX2_has l D cy a (o + 1 + 5) (gX0_entrants (gX11n_now S)) p1 x1 e2) ⟨hx, hb, hml, hown, hts⟩ (cwV 1 hts gX11_requireEntrant_X2_has rfl rfl rfl (by decide +kernel) ⟨Nat.le_of_ble_eq_true rfl, Nat.le_of_ble_eq_true rfl⟩) hG (P_seg (X := ((hX11n a o S) ++ ((hX0 a (o + 1) (gX11n_now S)) ++ (wX10 cy a (o + 1 + 1) (gX0_works (gX11n_now S)))))) (c := (wX2 cy a (o + 1 + 5) (gX0_entrants (gX11n_now S)))) (Y := ((rowsW (cy 2) (cy 0) a (o + 1 + 7) 4 6 (gX0_rules (gX11n_now S))) ++ ((wX4 cy a (o + 1 + 12) (gX0_programs (gX11n_now S))) ++ ((wX3 cy a (o + 1 + 14) (gX0_jury (gX11n_now S))) ++ ((wX7 cy a (o + 1 + 23) (gX0_stage (gX11n_now S))) ++ ((wX6 cy a (o + 1 + 26) (gX0_sheet (gX11n_now S))) ++ ((wX9 cy a (o + 1 + 35) (gX0_tie (gX11n_now S))) ++ ((rowsW (cy 2) (cy 0) a (o + 1 + 46) 4 12 (gX0_closedScores (gX11n_now S))) ++ (wX1 cy a (o + 1 + 51) (gX0_cut (gX11n_now S))))))))))) hP (by simp only [wX0, wX11n, List.append_assoc, List.nil_append, List.append_nil] <;> rfl)) rfl rfl rfl hl.1 rfl (Nat.le_of_ble_eq_true rfl) dX11_requireEntrant_8 ⟨Nat.zero_le _, Nat.zero_le _⟩ ?_
  rcases tx_some h with ⟨k9, e9, h⟩ | ⟨x3, e4, h⟩
  · refine tcT (fun st v t q => by obtain ⟨⟨u, -, hu, -⟩, -⟩ := q; cases hu) hG hX hP hD hS hA (pm0 (wX11n cy a o S)) (fun h1 h2 => vx_runS (As := [.int x1]) (rest := []) ⟨hx, hb, hml, hown, hts⟩ (qX11_requireIndex l hl9 D cy tt  x1 (s.heap).size (Sum.inl k9) e9) (va_cwS 1 hts gX11_requireEntrant_X11_requireIndex rfl rfl rfl (by decide +kernel) ⟨Nat.le_of_ble_eq_true rfl, Nat.le_of_ble_eq_true rfl⟩) ⟨h1, h2⟩ rfl rfl hl.1 rfl (lv_room (Nat.le_of_ble_eq_true rfl)) dX11_requireEntrant_11 ⟨(by rw [← h]; exact Nat.le_refl 1), (by rw [← h]; exact Nat.le_refl 6)⟩) (fun ce q9 H locs hP hS hce hcv hcl => ?_)
    exact vx_out (fun x hx9 => (htab x hx9).elim) hlocks hce hcv hcl (fun t ht hvm => xThrow rfl h hP hD hS (by rw [ht]; exact Nat.le_refl _) (fun q _ => by rw [ht])) hS.2.2 (by rw [← h]; exact Nat.le_refl 1) (by rw [← h]; exact Nat.le_refl 6)
  refine tcNv hG hX hP hD hS hA (pm0 (wX11n cy a o S)) (fun h1 h2 => vx_runS (As := [.int x1]) (rest := []) ⟨hx, hb, hml, hown, hts⟩ (qX11_requireIndex l hl9 D cy tt  x1 (s.heap).size (Sum.inr x3) e4) (va_cwS 1 hts gX11_requireEntrant_X11_requireIndex rfl rfl rfl (by decide +kernel) ⟨Nat.le_of_ble_eq_true rfl, Nat.le_of_ble_eq_true rfl⟩) ⟨h1, h2⟩ rfl rfl hl.1 rfl (lv_room (Nat.le_of_ble_eq_true rfl)) dX11_requireEntrant_11 ⟨Nat.zero_le _, Nat.zero_le _⟩) (c2 := 0) (s2 := 0) rfl rfl (fun H locs hP hS => ?_)
  refine vx_ret (W.widen (k := cX rs) (n := sX rs) (Nat.zero_le _) (Nat.zero_le _) ?_)
  exact W.vret hx hb hr (fun t ht hW => ⟨⟨(), rfl, some_in h, by rw [ht]; exact hP, hD⟩, hS.F ht⟩) hS.2.2 dX11_requireEntrant_14
set_option maxHeartbeats 4000000 in
set_option maxRecDepth 100000 in
theorem qX11_requireJurorAndEntrant (l : Launch) (hl9 : l.stackTraces = false) (D : va_G) (cy : Nat → ClassId) (tt : Nat → Nat) (a : Nat → Nat) (o : Nat) (S : SX11n) (p1 : Int32) (p2 : Int32) (sz : Nat) (rs : Nat ⊕ (Unit)) (h : DX11_requireJurorAndEntrant S p1 p2 = some rs) : vx_Met l yX11_requireJurorAndEntrant wsX11_requireJurorAndEntrant ({ frames := 8, cells := cX rs, slots := sX rs, locals := 141 } : Room) (xP D cy tt sz [.ref (a o), .int p1, .int p2] (wX11n cy a o S)) (va_Qv (fun (u : Unit) => Sum.inr u = rs) (fun _ t => mB D sz (wX11n cy a o S) (wX11n cy a o S) t) (va_A (wX11n cy a o S) sz)) (xC D sz (wX11n cy a o S) rs) (cX rs) (sX rs) (va_A (wX11n cy a o S) sz) := by
  refine vx_ofW (cc := cX11_requireJurorAndEntrant) (maxL := 3) (ret := none) (by decide) rfl ?_
  intro p e s m args below meth c s₁ B hml htab hv
  obtain ⟨rfl, hsz, hP, hG, hD0, hX⟩ := hv
  have hx := B.exec
  have hb := B.bytes
  have hr := B.returns
  have hts := atoms_spec (ws := wsX11_requireJurorAndEntrant) B.pre
  have hown : s.vm.findClass RX11 = some m.cls := findClass_of_methodNamed B.named
  have hlocks := B.notSynchronized
  have hK := hG.1
  subst hsz
  have hD := hD0.self (sz := s.heap.size)
  have hA : ∀ q : Nat, s.heap.size ≤ q → (va_A (wX11n cy a o S) s.heap.size) q := fun q h => Or.inr h
  have hS : va_S (va_A (wX11n cy a o S) s.heap.size) s.heap s.heap [] := va_S.rf
  have hinX11 := (by decide +kernel : ∀ w ∈ wsX110, w ∈ wsX11_requireJurorAndEntrant)
  have hf10 := hts (.fieldLink RX11 10 "PianoRounds" "now" "LPianoRounds$Competition;") (by decide +kernel)
  have hinX0 := (by decide +kernel : ∀ w ∈ wsX00, w ∈ wsX11_requireJurorAndEntrant)
  have hf87 := va_Nw.use (A := ([.ref (a o), .int p1, .int p2] : List Value).toArray) (U := s) (w := .fieldLinkNest "PianoRounds" 87 "PianoRounds$Competition" "jury" "LPianoRounds$Jury;" "PianoRounds") rfl (hG.2.1 _ (by decide +kernel))
  have hl := lv_entry ([.ref (a o), .int p1, .int p2]) (n := 3) (Nat.le_of_ble_eq_true rfl)
  rw [lg_entry_eq]
  generalize (lg_sl ([.ref (a o), .int p1, .int p2]) ++ List.replicate (3 - (lg_sl ([.ref (a o), .int p1, .int p2])).length) Slot.unset).toArray = ls at hl ⊢
  have hl : lv_has ls 3 [(0, .ref (a o)), (1, .int p1), (2, .int p2)] := hl
  rw [DX11_requireJurorAndEntrant] at h
  refine lv_aload_n hx hb dX11_requireJurorAndEntrant_0 rfl (lv_at hl 0 rfl) ?_
  refine va_get (D := D) (ci := 11) (v := .ref (a (o + 1))) (C := RX11) (T := TX11) (N := 3) hx hb hts hinX11 hown hK hP 0 rfl rfl 0 (by decide) hf10 (fun _ h9 => h9) rfl dX11_requireJurorAndEntrant_1 ?_
  refine va_getN (D := D) (ci := 0) (v := .ref (a (o + 1 + 14))) (C := RX0) (T := TX0) (N := 14) hx hb hts hinX0 hown hK hP 1 rfl rfl 8 (by decide) hf87 (fun _ h9 => h9) rfl dX11_requireJurorAndEntrant_4 ?_
  refine lv_iload_n hx hb dX11_requireJurorAndEntrant_7 rfl (lv_at hl 1 rfl) ?_
  obtain ⟨x1, e2, h⟩ := bd_some h
  refine pcV (As := [.int p1]) (rest := []) (q0 := 0) (qX3_has l D cy a (o + 1 + 14) (gX0_jury (gX11n_now S)) p1 x1 e2) ⟨hx, hb, hml, hown, hts⟩ (cwV 1 hts gX11_requireJurorAndEntrant_X3_has rfl rfl rfl (by decide +kernel) ⟨Nat.le_of_ble_eq_true rfl, Nat.le_of_ble_eq_true rfl⟩) hG (P_seg (X := ((hX11n a o S) ++ ((hX0 a (o + 1) (gX11n_now S)) ++ ((wX10 cy a (o + 1 + 1) (gX0_works (gX11n_now S))) ++ ((wX2 cy a (o + 1 + 5) (gX0_entrants (gX11n_now S))) ++ ((rowsW (cy 2) (cy 0) a (o + 1 + 7) 4 6 (gX0_rules (gX11n_now S))) ++ (wX4 cy a (o + 1 + 12) (gX0_programs (gX11n_now S))))))))) (c := (wX3 cy a (o + 1 + 14) (gX0_jury (gX11n_now S)))) (Y := ((wX7 cy a (o + 1 + 23) (gX0_stage (gX11n_now S))) ++ ((wX6 cy a (o + 1 + 26) (gX0_sheet (gX11n_now S))) ++ ((wX9 cy a (o + 1 + 35) (gX0_tie (gX11n_now S))) ++ ((rowsW (cy 2) (cy 0) a (o + 1 + 46) 4 12 (gX0_closedScores (gX11n_now S))) ++ (wX1 cy a (o + 1 + 51) (gX0_cut (gX11n_now S)))))))) hP (by simp only [wX0, wX11n, List.append_assoc, List.nil_append, List.append_nil] <;> rfl)) rfl rfl rfl hl.1 rfl (Nat.le_of_ble_eq_true rfl) dX11_requireJurorAndEntrant_8 ⟨Nat.zero_le _, Nat.zero_le _⟩ ?_
  rcases tx_some h with ⟨k9, e9, h⟩ | ⟨x3, e4, h⟩
  · refine tcT (fun st v t q => by obtain ⟨⟨u, -, hu, -⟩, -⟩ := q; cases hu) hG hX hP hD hS hA (pm0 (wX11n cy a o S)) (fun h1 h2 => vx_runS (As := [.int x1]) (rest := []) ⟨hx, hb, hml, hown, hts⟩ (qX11_requireIndex l hl9 D cy tt  x1 (s.heap).size (Sum.inl k9) e9) (va_cwS 1 hts gX11_requireJurorAndEntrant_X11_requireIndex rfl rfl rfl (by decide +kernel) ⟨Nat.le_of_ble_eq_true rfl, Nat.le_of_ble_eq_true rfl⟩) ⟨h1, h2⟩ rfl rfl hl.1 rfl (lv_room (Nat.le_of_ble_eq_true rfl)) dX11_requireJurorAndEntrant_11 ⟨(by rw [← h]; exact Nat.le_refl 1), (by rw [← h]; exact Nat.le_refl 6)⟩) (fun ce q9 H locs hP hS hce hcv hcl => ?_)
    exact vx_out (fun x hx9 => (htab x hx9).elim) hlocks hce hcv hcl (fun t ht hvm => xThrow rfl h hP hD hS (by rw [ht]; exact Nat.le_refl _) (fun q _ => by rw [ht])) hS.2.2 (by rw [← h]; exact Nat.le_refl 1) (by rw [← h]; exact Nat.le_refl 6)
  refine tcNv hG hX hP hD hS hA (pm0 (wX11n cy a o S)) (fun h1 h2 => vx_runS (As := [.int x1]) (rest := []) ⟨hx, hb, hml, hown, hts⟩ (qX11_requireIndex l hl9 D cy tt  x1 (s.heap).size (Sum.inr x3) e4) (va_cwS 1 hts gX11_requireJurorAndEntrant_X11_requireIndex rfl rfl rfl (by decide +kernel) ⟨Nat.le_of_ble_eq_true rfl, Nat.le_of_ble_eq_true rfl⟩) ⟨h1, h2⟩ rfl rfl hl.1 rfl (lv_room (Nat.le_of_ble_eq_true rfl)) dX11_requireJurorAndEntrant_11 ⟨Nat.zero_le _, Nat.zero_le _⟩) (c2 := 0) (s2 := 0) rfl rfl (fun H locs hP hS => ?_)
  refine lv_aload_n hx hb dX11_requireJurorAndEntrant_14 rfl (lv_at hl 0 rfl) ?_
  refine lv_iload_n hx hb dX11_requireJurorAndEntrant_15 rfl (lv_at hl 2 rfl) ?_
  rcases tx_some h with ⟨k9, e9, h⟩ | ⟨x5, e6, h⟩
  · refine tcT (fun st v t q => by obtain ⟨⟨u, -, hu, -⟩, -⟩ := q; cases hu) hG hX hP hD hS hA (pm1 (X := ([] : va_W)) (c := (wX11n cy a o S)) (Y := ([] : va_W)) (show (wX11n cy a o S) = ([] : va_W) ++ ((wX11n cy a o S) ++ ([] : va_W)) from by simp only [List.append_assoc, List.nil_append, List.append_nil] <;> rfl)) (fun h1 h2 => vx_runV (As := [.int p2]) (rest := []) ⟨hx, hb, hml, hown, hts⟩ (qX11_requireEntrant l hl9 D cy tt a o S p2 (H).size (Sum.inl k9) e9) (cwV 1 hts gX11_requireJurorAndEntrant_X11_requireEntrant rfl rfl rfl (by decide +kernel) ⟨Nat.le_of_ble_eq_true rfl, Nat.le_of_ble_eq_true rfl⟩) ⟨h1, va_recv hK hP (ci := 11) (q0 := 0) rfl rfl, h2⟩ rfl rfl hl.1 rfl (lv_room (Nat.le_of_ble_eq_true rfl)) dX11_requireJurorAndEntrant_16 ⟨(by rw [← h]; exact Nat.le_refl 1), (by rw [← h]; exact Nat.le_refl 6)⟩) (fun ce q9 H locs hP hS hce hcv hcl => ?_)
    exact vx_out (fun x hx9 => (htab x hx9).elim) hlocks hce hcv hcl (fun t ht hvm => xThrow rfl h hP hD hS (by rw [ht]; exact Nat.le_refl _) (fun q _ => by rw [ht])) hS.2.2 (by rw [← h]; exact Nat.le_refl 1) (by rw [← h]; exact Nat.le_refl 6)
  refine tcNv hG hX hP hD hS hA (pm1 (X := ([] : va_W)) (c := (wX11n cy a o S)) (Y := ([] : va_W)) (show (wX11n cy a o S) = ([] : va_W) ++ ((wX11n cy a o S) ++ ([] : va_W)) from by simp only [List.append_assoc, List.nil_append, List.append_nil] <;> rfl)) (fun h1 h2 => vx_runV (As := [.int p2]) (rest := []) ⟨hx, hb, hml, hown, hts⟩ (qX11_requireEntrant l hl9 D cy tt a o S p2 (H).size (Sum.inr x5) e6) (cwV 1 hts gX11_requireJurorAndEntrant_X11_requireEntrant rfl rfl rfl (by decide +kernel) ⟨Nat.le_of_ble_eq_true rfl, Nat.le_of_ble_eq_true rfl⟩) ⟨h1, va_recv hK hP (ci := 11) (q0 := 0) rfl rfl, h2⟩ rfl rfl hl.1 rfl (lv_room (Nat.le_of_ble_eq_true rfl)) dX11_requireJurorAndEntrant_16 ⟨Nat.zero_le _, Nat.zero_le _⟩) (c2 := 0) (s2 := 0) rfl rfl (fun H locs hP hS => ?_)
  refine vx_ret (W.widen (k := cX rs) (n := sX rs) (Nat.zero_le _) (Nat.zero_le _) ?_)
  exact W.vret hx hb hr (fun t ht hW => ⟨⟨(), rfl, some_in h, by rw [ht]; exact hP, hD⟩, hS.F ht⟩) hS.2.2 dX11_requireJurorAndEntrant_19
set_option maxHeartbeats 4000000 in
set_option maxRecDepth 100000 in
theorem qX11_bar (l : Launch) (hl9 : l.stackTraces = false) (D : va_G) (cy : Nat → ClassId) (tt : Nat → Nat) (a : Nat → Nat) (o : Nat) (S : SX11) (p1 : Int32) (p2 : Int32) (p3 : Int32) (sz : Nat) (rs : Nat ⊕ (Int32 × SX11)) (h : DX11_bar S p1 p2 p3 = some rs) : vx_Met l yX11_bar wsX11_bar ({ frames := 9, cells := cX rs, slots := sX rs, locals := 206 } : Room) (xP D cy tt sz [.ref (a o), .int p1, .int p2, .int p3] (wX11 cy a o S)) (va_Qi (fun r (u : SX11) => Sum.inr (r, u) = rs) (fun u t => mB D sz (wX11 cy a o S) (wX11 cy a o u) t) (va_A (wX11 cy a o S) sz)) (xC D sz (wX11 cy a o S) rs) (cX rs) (sX rs) (va_A (wX11 cy a o S) sz) := by
  refine vx_ofW (cc := cX11_bar) (maxL := 5) (ret := (some .boolean)) (by decide) rfl ?_
  intro p e s m args below meth c s₁ B hml htab hv
  obtain ⟨rfl, hsz, hP, hG, hD0, hX⟩ := hv
  have hx := B.exec
  have hb := B.bytes
  have hr := B.returns
  have hts := atoms_spec (ws := wsX11_bar) B.pre
  have hown : s.vm.findClass RX11 = some m.cls := findClass_of_methodNamed B.named
  have hlocks := B.notSynchronized
  have hK := hG.1
  subst hsz
  have hD := hD0.self (sz := s.heap.size)
  have hA : ∀ q : Nat, s.heap.size ≤ q → (va_A (wX11 cy a o S) s.heap.size) q := fun q h => Or.inr h
  have hS : va_S (va_A (wX11 cy a o S) s.heap.size) s.heap s.heap [] := va_S.rf
  have hinX11 := (by decide +kernel : ∀ w ∈ wsX110, w ∈ wsX11_bar)
  have hf19 := hts (.fieldLink RX11 19 "PianoRounds" "records" "LPianoRounds$Records;") (by decide +kernel)
  have hf10 := hts (.fieldLink RX11 10 "PianoRounds" "now" "LPianoRounds$Competition;") (by decide +kernel)
  have hinX0 := (by decide +kernel : ∀ w ∈ wsX00, w ∈ wsX11_bar)
  have hf87 := va_Nw.use (A := ([.ref (a o), .int p1, .int p2, .int p3] : List Value).toArray) (U := s) (w := .fieldLinkNest "PianoRounds" 87 "PianoRounds$Competition" "jury" "LPianoRounds$Jury;" "PianoRounds") rfl (hG.2.1 _ (by decide +kernel))
  have hl := lv_entry ([.ref (a o), .int p1, .int p2, .int p3]) (n := 5) (Nat.le_of_ble_eq_true rfl)
  rw [lg_entry_eq]
  generalize (lg_sl ([.ref (a o), .int p1, .int p2, .int p3]) ++ List.replicate (5 - (lg_sl ([.ref (a o), .int p1, .int p2, .int p3])).length) Slot.unset).toArray = ls at hl ⊢
  have hl : lv_has ls 5 [(0, .ref (a o)), (1, .int p1), (2, .int p2), (3, .int p3)] := hl
  rw [DX11_bar] at h
  refine lv_aload_n hx hb dX11_bar_0 rfl (lv_at hl 0 rfl) ?_
  refine lv_iload_n hx hb dX11_bar_1 rfl (lv_at hl 1 rfl) ?_
  refine lv_iload_n hx hb dX11_bar_2 rfl (lv_at hl 2 rfl) ?_
  rcases tx_some h with ⟨k9, e9, h⟩ | ⟨x1, e2, h⟩
  · refine tcT (fun st v t q => by obtain ⟨⟨u, -, hu, -⟩, -⟩ := q; cases hu) hG hX hP hD hS hA (pm1 (X := ([] : va_W)) (c := (wX11n cy a o (gX11_now S))) (Y := ((wX5 cy a (o + 54) (gX11_records S)) ++ (wX8 cy a (o + 268) (gX11_text S)))) (show (wX11 cy a o S) = ([] : va_W) ++ ((wX11n cy a o (gX11_now S)) ++ ((wX5 cy a (o + 54) (gX11_records S)) ++ (wX8 cy a (o + 268) (gX11_text S)))) from by simp only [wX11, wX11n, List.append_assoc, List.nil_append, List.append_nil] <;> rfl)) (fun h1 h2 => vx_runV (As := [.int p1, .int p2]) (rest := []) ⟨hx, hb, hml, hown, hts⟩ (qX11_requireJurorAndEntrant l hl9 D cy tt a o (gX11_now S) p1 p2 (s.heap).size (Sum.inl k9) e9) (cwV 2 hts gX11_bar_X11_requireJurorAndEntrant rfl rfl rfl (by decide +kernel) ⟨Nat.le_of_ble_eq_true rfl, Nat.le_of_ble_eq_true rfl⟩) ⟨h1, va_recv hK hP (ci := 11) (q0 := 0) rfl rfl, h2⟩ rfl rfl hl.1 rfl (lv_room (Nat.le_of_ble_eq_true rfl)) dX11_bar_3 ⟨(by rw [← h]; exact Nat.le_refl 1), (by rw [← h]; exact Nat.le_refl 6)⟩) (fun ce q9 H locs hP hS hce hcv hcl => ?_)
    exact vx_out (fun x hx9 => (htab x hx9).elim) hlocks hce hcv hcl (fun t ht hvm => xThrow rfl h hP hD hS (by rw [ht]; exact Nat.le_refl _) (fun q _ => by rw [ht])) hS.2.2 (by rw [← h]; exact Nat.le_refl 1) (by rw [← h]; exact Nat.le_refl 6)
  refine tcNv hG hX hP hD hS hA (pm1 (X := ([] : va_W)) (c := (wX11n cy a o (gX11_now S))) (Y := ((wX5 cy a (o + 54) (gX11_records S)) ++ (wX8 cy a (o + 268) (gX11_text S)))) (show (wX11 cy a o S) = ([] : va_W) ++ ((wX11n cy a o (gX11_now S)) ++ ((wX5 cy a (o + 54) (gX11_records S)) ++ (wX8 cy a (o + 268) (gX11_text S)))) from by simp only [wX11, wX11n, List.append_assoc, List.nil_append, List.append_nil] <;> rfl)) (fun h1 h2 => vx_runV (As := [.int p1, .int p2]) (rest := []) ⟨hx, hb, hml, hown, hts⟩ (qX11_requireJurorAndEntrant l hl9 D cy tt a o (gX11_now S) p1 p2 (s.heap).size (Sum.inr x1) e2) (cwV 2 hts gX11_bar_X11_requireJurorAndEntrant rfl rfl rfl (by decide +kernel) ⟨Nat.le_of_ble_eq_true rfl, Nat.le_of_ble_eq_true rfl⟩) ⟨h1, va_recv hK hP (ci := 11) (q0 := 0) rfl rfl, h2⟩ rfl rfl hl.1 rfl (lv_room (Nat.le_of_ble_eq_true rfl)) dX11_bar_3 ⟨Nat.zero_le _, Nat.zero_le _⟩) (c2 := 0) (s2 := 0) rfl rfl (fun H locs hP hS => ?_)
  refine lv_aload_n hx hb dX11_bar_6 rfl (lv_at hl 0 rfl) ?_
  refine va_get (D := D) (ci := 11) (v := .ref (a (o + 54))) (C := RX11) (T := TX11) (N := 3) hx hb hts hinX11 hown hK hP 0 rfl rfl 1 (by decide) hf19 (fun _ h9 => h9) rfl dX11_bar_7 ?_
  refine lv_aload_n hx hb dX11_bar_10 rfl (lv_at hl 0 rfl) ?_
  refine va_get (D := D) (ci := 11) (v := .ref (a (o + 1))) (C := RX11) (T := TX11) (N := 3) hx hb hts hinX11 hown hK hP 0 rfl rfl 0 (by decide) hf10 (fun _ h9 => h9) rfl dX11_bar_11 ?_
  obtain ⟨x3, e4, h⟩ := bd_some h
  refine smVv (As := [.ref (a (o + 1))]) (rest := []) (ws' := (wX11 cy a o (uX11_records S x3))) (q0 := 0) (qX5_keep l D cy a (o + 54) a (o + 1) (gX11_records S) (gX11_now S)  (H).size x3 e4) ⟨hx, hb, hml, hown, hts⟩ (cwV 1 hts gX11_bar_X5_keep rfl rfl rfl (by decide +kernel) ⟨Nat.le_of_ble_eq_true rfl, Nat.le_of_ble_eq_true rfl⟩) hG hP hD hS hA (pm2r (X := (hX11 a o S)) (c1 := (wX5 cy a (o + 54) (gX11_records S))) (Y := ([] : va_W)) (c2 := (wX0 cy a (o + 1) (gX11_now S))) (Z := (wX8 cy a (o + 268) (gX11_text S))) (show (wX11 cy a o S) = (hX11 a o S) ++ ((wX0 cy a (o + 1) (gX11_now S)) ++ (([] : va_W) ++ ((wX5 cy a (o + 54) (gX11_records S)) ++ (wX8 cy a (o + 268) (gX11_text S))))) from by simp only [wX11, List.append_assoc, List.nil_append, List.append_nil] <;> rfl)) (pm2r (X := (hX11 a o S)) (c1 := (wX5 cy a (o + 54) x3)) (Y := ([] : va_W)) (c2 := (wX0 cy a (o + 1) (gX11_now S))) (Z := (wX8 cy a (o + 268) (gX11_text S))) (show (wX11 cy a o (uX11_records S x3)) = (hX11 a o S) ++ ((wX0 cy a (o + 1) (gX11_now S)) ++ (([] : va_W) ++ ((wX5 cy a (o + 54) x3) ++ (wX8 cy a (o + 268) (gX11_text S))))) from by simp only [wX11, List.append_assoc, List.nil_append, List.append_nil] <;> rfl)) rfl rfl rfl hl.1 rfl (Nat.le_of_ble_eq_true rfl) dX11_bar_14 ⟨Nat.zero_le _, Nat.zero_le _⟩ (fun H locs hP hD hS => ?_)
  obtain ⟨S5, eS6, h⟩ := lt_elim h
  have hP : va_P D vwCl (wX11 cy a o S5) H := by rw [eS6]; exact hP
  have hD : va_D (va_A (wX11 cy a o S) s.heap.size) (wX11 cy a o S5) := by rw [eS6]; exact hD
  refine lv_aload_n hx hb dX11_bar_17 rfl (lv_at hl 0 rfl) ?_
  refine va_get (D := D) (ci := 11) (v := .ref (a (o + 1))) (C := RX11) (T := TX11) (N := 3) hx hb hts hinX11 hown hK hP 0 rfl rfl 0 (by decide) hf10 (fun _ h9 => h9) rfl dX11_bar_18 ?_
  refine va_getN (D := D) (ci := 0) (v := .ref (a (o + 1 + 14))) (C := RX0) (T := TX0) (N := 14) hx hb hts hinX0 hown hK hP 1 rfl rfl 8 (by decide) hf87 (fun _ h9 => h9) rfl dX11_bar_21 ?_
  refine lv_iload_n hx hb dX11_bar_24 rfl (lv_at hl 1 rfl) ?_
  refine lv_iload_n hx hb dX11_bar_25 rfl (lv_at hl 2 rfl) ?_
  obtain ⟨x7, e8, h⟩ := bd_some h
  refine pcV (As := [.int p1, .int p2]) (rest := []) (q0 := 0) (qX3_isBarred l D cy a (o + 1 + 14) (gX0_jury (gX11_now S5)) p1 p2 x7 e8) ⟨hx, hb, hml, hown, hts⟩ (cwV 2 hts gX11_bar_X3_isBarred rfl rfl rfl (by decide +kernel) ⟨Nat.le_of_ble_eq_true rfl, Nat.le_of_ble_eq_true rfl⟩) hG (P_seg (X := ((hX11 a o S5) ++ ((hX0 a (o + 1) (gX11_now S5)) ++ ((wX10 cy a (o + 1 + 1) (gX0_works (gX11_now S5))) ++ ((wX2 cy a (o + 1 + 5) (gX0_entrants (gX11_now S5))) ++ ((rowsW (cy 2) (cy 0) a (o + 1 + 7) 4 6 (gX0_rules (gX11_now S5))) ++ (wX4 cy a (o + 1 + 12) (gX0_programs (gX11_now S5))))))))) (c := (wX3 cy a (o + 1 + 14) (gX0_jury (gX11_now S5)))) (Y := ((wX7 cy a (o + 1 + 23) (gX0_stage (gX11_now S5))) ++ ((wX6 cy a (o + 1 + 26) (gX0_sheet (gX11_now S5))) ++ ((wX9 cy a (o + 1 + 35) (gX0_tie (gX11_now S5))) ++ ((rowsW (cy 2) (cy 0) a (o + 1 + 46) 4 12 (gX0_closedScores (gX11_now S5))) ++ ((wX1 cy a (o + 1 + 51) (gX0_cut (gX11_now S5))) ++ ((wX5 cy a (o + 54) (gX11_records S5)) ++ (wX8 cy a (o + 268) (gX11_text S5))))))))) hP (by simp only [wX0, wX11, List.append_assoc, List.nil_append, List.append_nil] <;> rfl)) rfl rfl rfl hl.1 rfl (Nat.le_of_ble_eq_true rfl) dX11_bar_26 ⟨Nat.zero_le _, Nat.zero_le _⟩ ?_
  refine lv_istore (lv' := [(4, .int x7), (0, .ref (a o)), (1, .int p1), (2, .int p2), (3, .int p3)]) hx hb dX11_bar_29 hl (by decide) rfl (fun ls hl => ?_)
  refine lv_aload_n hx hb dX11_bar_31 rfl (lv_at hl 1 rfl) ?_
  refine va_get (D := D) (ci := 11) (v := .ref (a (o + 1))) (C := RX11) (T := TX11) (N := 3) hx hb hts hinX11 hown hK hP 0 rfl rfl 0 (by decide) hf10 (fun _ h9 => h9) rfl dX11_bar_32 ?_
  refine va_getN (D := D) (ci := 0) (v := .ref (a (o + 1 + 14))) (C := RX0) (T := TX0) (N := 14) hx hb hts hinX0 hown hK hP 1 rfl rfl 8 (by decide) hf87 (fun _ h9 => h9) rfl dX11_bar_35 ?_
  refine lv_iload_n hx hb dX11_bar_38 rfl (lv_at hl 2 rfl) ?_
  refine lv_iload_n hx hb dX11_bar_39 rfl (lv_at hl 3 rfl) ?_
  refine lv_iload_n hx hb dX11_bar_40 rfl (lv_at hl 4 rfl) ?_
  obtain ⟨x9, e10, h⟩ := bd_some h
  refine smVv (As := [.int p1, .int p2, .int p3]) (rest := []) (ws' := (wX11 cy a o (uX11_now S5 (uX0_jury (gX11_now S5) x9)))) (q0 := 0) (qX3_setBarred l D cy a (o + 1 + 14) (gX0_jury (gX11_now S5)) p1 p2 p3 (H).size x9 e10) ⟨hx, hb, hml, hown, hts⟩ (cwV 3 hts gX11_bar_X3_setBarred rfl rfl rfl (by decide +kernel) ⟨Nat.le_of_ble_eq_true rfl, Nat.le_of_ble_eq_true rfl⟩) hG hP hD hS hA (pm1 (X := ((hX11 a o S5) ++ ((hX0 a (o + 1) (gX11_now S5)) ++ ((wX10 cy a (o + 1 + 1) (gX0_works (gX11_now S5))) ++ ((wX2 cy a (o + 1 + 5) (gX0_entrants (gX11_now S5))) ++ ((rowsW (cy 2) (cy 0) a (o + 1 + 7) 4 6 (gX0_rules (gX11_now S5))) ++ (wX4 cy a (o + 1 + 12) (gX0_programs (gX11_now S5))))))))) (c := (wX3 cy a (o + 1 + 14) (gX0_jury (gX11_now S5)))) (Y := ((wX7 cy a (o + 1 + 23) (gX0_stage (gX11_now S5))) ++ ((wX6 cy a (o + 1 + 26) (gX0_sheet (gX11_now S5))) ++ ((wX9 cy a (o + 1 + 35) (gX0_tie (gX11_now S5))) ++ ((rowsW (cy 2) (cy 0) a (o + 1 + 46) 4 12 (gX0_closedScores (gX11_now S5))) ++ ((wX1 cy a (o + 1 + 51) (gX0_cut (gX11_now S5))) ++ ((wX5 cy a (o + 54) (gX11_records S5)) ++ (wX8 cy a (o + 268) (gX11_text S5))))))))) (show (wX11 cy a o S5) = ((hX11 a o S5) ++ ((hX0 a (o + 1) (gX11_now S5)) ++ ((wX10 cy a (o + 1 + 1) (gX0_works (gX11_now S5))) ++ ((wX2 cy a (o + 1 + 5) (gX0_entrants (gX11_now S5))) ++ ((rowsW (cy 2) (cy 0) a (o + 1 + 7) 4 6 (gX0_rules (gX11_now S5))) ++ (wX4 cy a (o + 1 + 12) (gX0_programs (gX11_now S5)))))))) ++ ((wX3 cy a (o + 1 + 14) (gX0_jury (gX11_now S5))) ++ ((wX7 cy a (o + 1 + 23) (gX0_stage (gX11_now S5))) ++ ((wX6 cy a (o + 1 + 26) (gX0_sheet (gX11_now S5))) ++ ((wX9 cy a (o + 1 + 35) (gX0_tie (gX11_now S5))) ++ ((rowsW (cy 2) (cy 0) a (o + 1 + 46) 4 12 (gX0_closedScores (gX11_now S5))) ++ ((wX1 cy a (o + 1 + 51) (gX0_cut (gX11_now S5))) ++ ((wX5 cy a (o + 54) (gX11_records S5)) ++ (wX8 cy a (o + 268) (gX11_text S5))))))))) from by simp only [wX0, wX11, List.append_assoc, List.nil_append, List.append_nil] <;> rfl)) (pm1 (X := ((hX11 a o S5) ++ ((hX0 a (o + 1) (gX11_now S5)) ++ ((wX10 cy a (o + 1 + 1) (gX0_works (gX11_now S5))) ++ ((wX2 cy a (o + 1 + 5) (gX0_entrants (gX11_now S5))) ++ ((rowsW (cy 2) (cy 0) a (o + 1 + 7) 4 6 (gX0_rules (gX11_now S5))) ++ (wX4 cy a (o + 1 + 12) (gX0_programs (gX11_now S5))))))))) (c := (wX3 cy a (o + 1 + 14) x9)) (Y := ((wX7 cy a (o + 1 + 23) (gX0_stage (gX11_now S5))) ++ ((wX6 cy a (o + 1 + 26) (gX0_sheet (gX11_now S5))) ++ ((wX9 cy a (o + 1 + 35) (gX0_tie (gX11_now S5))) ++ ((rowsW (cy 2) (cy 0) a (o + 1 + 46) 4 12 (gX0_closedScores (gX11_now S5))) ++ ((wX1 cy a (o + 1 + 51) (gX0_cut (gX11_now S5))) ++ ((wX5 cy a (o + 54) (gX11_records S5)) ++ (wX8 cy a (o + 268) (gX11_text S5))))))))) (show (wX11 cy a o (uX11_now S5 (uX0_jury (gX11_now S5) x9))) = ((hX11 a o S5) ++ ((hX0 a (o + 1) (gX11_now S5)) ++ ((wX10 cy a (o + 1 + 1) (gX0_works (gX11_now S5))) ++ ((wX2 cy a (o + 1 + 5) (gX0_entrants (gX11_now S5))) ++ ((rowsW (cy 2) (cy 0) a (o + 1 + 7) 4 6 (gX0_rules (gX11_now S5))) ++ (wX4 cy a (o + 1 + 12) (gX0_programs (gX11_now S5)))))))) ++ ((wX3 cy a (o + 1 + 14) x9) ++ ((wX7 cy a (o + 1 + 23) (gX0_stage (gX11_now S5))) ++ ((wX6 cy a (o + 1 + 26) (gX0_sheet (gX11_now S5))) ++ ((wX9 cy a (o + 1 + 35) (gX0_tie (gX11_now S5))) ++ ((rowsW (cy 2) (cy 0) a (o + 1 + 46) 4 12 (gX0_closedScores (gX11_now S5))) ++ ((wX1 cy a (o + 1 + 51) (gX0_cut (gX11_now S5))) ++ ((wX5 cy a (o + 54) (gX11_records S5)) ++ (wX8 cy a (o + 268) (gX11_text S5))))))))) from by simp only [wX0, wX11, List.append_assoc, List.nil_append, List.append_nil] <;> rfl)) rfl rfl rfl hl.1 rfl (Nat.le_of_ble_eq_true rfl) dX11_bar_41 ⟨Nat.zero_le _, Nat.zero_le _⟩ (fun H locs hP hD hS => ?_)
  obtain ⟨S11, eS12, h⟩ := lt_elim h
  have hP : va_P D vwCl (wX11 cy a o S11) H := by rw [eS12]; exact hP
  have hD : va_D (va_A (wX11 cy a o S) s.heap.size) (wX11 cy a o S11) := by rw [eS12]; exact hD
  refine lv_iload hx hb dX11_bar_44 (lv_at hl 0 rfl) ?_
  obtain ⟨g13, h⟩ := gd_some h
  refine vx_ret (W.widen (k := cX rs) (n := sX rs) (Nat.zero_le _) (Nat.zero_le _) ?_)
  exact W.zret (v := x7) hx hb hr (zN g13) (fun t ht hW => ⟨⟨x7, S11, rfl, some_in h, by rw [ht]; exact hP, hD⟩, hS.F ht⟩) hS.2.2 dX11_bar_46
