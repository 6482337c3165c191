set_option maxHeartbeats 4000000 in
set_option maxRecDepth 100000 in
theorem qX11_neededMark (l : Launch) (hl9 : l.stackTraces = false) (D : va_G) (cy : Nat → ClassId) (tt : Nat → Nat) (a : Nat → Nat) (o : Nat) (S : SX11n) (p1 : Int32) (p2 : Int32) (p3 : Int32) (sz : Nat) (rs : Nat ⊕ (Int32)) (h : DX11_neededMark S p1 p2 p3 = some rs) : vx_Met l yX11_neededMark wsX11_neededMark ({ frames := 9, cells := cX rs, slots := sX rs, locals := 163 } : Room) (xP D cy tt sz [.ref (a o), .int p1, .int p2, .int p3] (wX11n cy a o S)) (va_Qi (fun r (_ : Unit) => Sum.inr r = rs) (fun _ t => mB D sz (wX11n cy a o S) (wX11n cy a o S) t) (va_A (wX11n cy a o S) sz)) (xC D sz (wX11n cy a o S) rs) (cX rs) (sX rs) (va_A (wX11n cy a o S) sz) := by
  refine vx_ofW (cc := cX11_neededMark) (maxL := 5) (ret := (some .int)) (by decide) rfl ?_
  intro p e s m args below meth c s₁ B hml htab hv
  obtain ⟨rfl, hsz, hP, hG, hD0, hX⟩ := hv
  have hx := B.exec
  have hb := B.bytes
  have hr := B.returns
  have hts := atoms_spec (ws := wsX11_neededMark) B.pre
  have hown : s.vm.findClass RX11 = some m.cls := findClass_of_methodNamed B.named
  have hlocks := B.notSynchronized
  have hK := hG.1
  subst hsz
  have hD := hD0.self (sz := s.heap.size)
  have hA : ∀ q : Nat, s.heap.size ≤ q → (va_A (wX11n cy a o S) s.heap.size) q := fun q h => Or.inr h
  have hS : va_S (va_A (wX11n cy a o S) s.heap.size) s.heap s.heap [] := va_S.rf
  have hinX11 := (by decide +kernel : ∀ w ∈ wsX110, w ∈ wsX11_neededMark)
  have hf10 := hts (.fieldLink RX11 10 "PianoRounds" "now" "LPianoRounds$Competition;") (by decide +kernel)
  have hinX0 := (by decide +kernel : ∀ w ∈ wsX00, w ∈ wsX11_neededMark)
  have hf38 := va_Nw.use (A := ([.ref (a o), .int p1, .int p2, .int p3] : List Value).toArray) (U := s) (w := .fieldLinkNest "PianoRounds" 38 "PianoRounds$Competition" "state" "I" "PianoRounds") rfl (hG.2.1 _ (by decide +kernel))
  have hf164 := va_Nw.use (A := ([.ref (a o), .int p1, .int p2, .int p3] : List Value).toArray) (U := s) (w := .fieldLinkNest "PianoRounds" 164 "PianoRounds$Competition" "stage" "LPianoRounds$Stage;" "PianoRounds") rfl (hG.2.1 _ (by decide +kernel))
  have hf87 := va_Nw.use (A := ([.ref (a o), .int p1, .int p2, .int p3] : List Value).toArray) (U := s) (w := .fieldLinkNest "PianoRounds" 87 "PianoRounds$Competition" "jury" "LPianoRounds$Jury;" "PianoRounds") rfl (hG.2.1 _ (by decide +kernel))
  have hl := lv_entry ([.ref (a o), .int p1, .int p2, .int p3]) (n := 5) (Nat.le_of_ble_eq_true rfl)
  rw [lg_entry_eq]
  generalize (lg_sl ([.ref (a o), .int p1, .int p2, .int p3]) ++ List.replicate (5 - (lg_sl ([.ref (a o), .int p1, .int p2, .int p3])).length) Slot.unset).toArray = ls at hl ⊢
  have hl : lv_has ls 5 [(0, .ref (a o)), (1, .int p1), (2, .int p2), (3, .int p3)] := hl
  rw [DX11_neededMark] at h
  refine lv_aload_n hx hb dX11_neededMark_0 rfl (lv_at hl 0 rfl) ?_
  refine lv_iload_n hx hb dX11_neededMark_1 rfl (lv_at hl 1 rfl) ?_
  refine lv_iload_n hx hb dX11_neededMark_2 rfl (lv_at hl 2 rfl) ?_
  rcases tx_some h with ⟨k9, e9, h⟩ | ⟨x1, e2, h⟩
  · refine tcT (fun st v t q => by obtain ⟨⟨u, -, hu, -⟩, -⟩ := q; cases hu) hG hX hP hD hS hA (pm1 (X := ([] : va_W)) (c := (wX11n cy a o S)) (Y := ([] : va_W)) (show (wX11n cy a o S) = ([] : va_W) ++ ((wX11n cy a o S) ++ ([] : va_W)) from by simp only [List.append_assoc, List.nil_append, List.append_nil] <;> rfl)) (fun h1 h2 => vx_runV (As := [.int p1, .int p2]) (rest := []) ⟨hx, hb, hml, hown, hts⟩ (qX11_requireJurorAndEntrant l hl9 D cy tt a o S p1 p2 (s.heap).size (Sum.inl k9) e9) (cwV 2 hts gX11_neededMark_X11_requireJurorAndEntrant rfl rfl rfl (by decide +kernel) ⟨Nat.le_of_ble_eq_true rfl, Nat.le_of_ble_eq_true rfl⟩) ⟨h1, va_recv hK hP (ci := 11) (q0 := 0) rfl rfl, h2⟩ rfl rfl hl.1 rfl (lv_room (Nat.le_of_ble_eq_true rfl)) dX11_neededMark_3 ⟨(by rw [← h]; exact Nat.le_refl 1), (by rw [← h]; exact Nat.le_refl 6)⟩) (fun ce q9 H locs hP hS hce hcv hcl => ?_)
    exact vx_out (fun x hx9 => (htab x hx9).elim) hlocks hce hcv hcl (fun t ht hvm => xThrow rfl h hP hD hS (by rw [ht]; exact Nat.le_refl _) (fun q _ => by rw [ht])) hS.2.2 (by rw [← h]; exact Nat.le_refl 1) (by rw [← h]; exact Nat.le_refl 6)
  refine tcNv hG hX hP hD hS hA (pm1 (X := ([] : va_W)) (c := (wX11n cy a o S)) (Y := ([] : va_W)) (show (wX11n cy a o S) = ([] : va_W) ++ ((wX11n cy a o S) ++ ([] : va_W)) from by simp only [List.append_assoc, List.nil_append, List.append_nil] <;> rfl)) (fun h1 h2 => vx_runV (As := [.int p1, .int p2]) (rest := []) ⟨hx, hb, hml, hown, hts⟩ (qX11_requireJurorAndEntrant l hl9 D cy tt a o S p1 p2 (s.heap).size (Sum.inr x1) e2) (cwV 2 hts gX11_neededMark_X11_requireJurorAndEntrant rfl rfl rfl (by decide +kernel) ⟨Nat.le_of_ble_eq_true rfl, Nat.le_of_ble_eq_true rfl⟩) ⟨h1, va_recv hK hP (ci := 11) (q0 := 0) rfl rfl, h2⟩ rfl rfl hl.1 rfl (lv_room (Nat.le_of_ble_eq_true rfl)) dX11_neededMark_3 ⟨Nat.zero_le _, Nat.zero_le _⟩) (c2 := 0) (s2 := 0) rfl rfl (fun H locs hP hS => ?_)
  refine lv_iload_n hx hb dX11_neededMark_6 rfl (lv_at hl 3 rfl) ?_
  refine lv_iconst (v := (0 : Int32)) hx hb dX11_neededMark_7 (by decide) ?_
  refine lv_ldcw (v := (100000 : Int32)) hx hb hown (hts (.constant RX11 267 (100000 : Int32)) (by decide +kernel)) dX11_neededMark_8 ?_
  obtain ⟨x3, e4, h⟩ := bd_some h
  refine pcS (As := [.int p3, .int (0 : Int32), .int (100000 : Int32)]) (rest := []) (qX11_isBetween l D cy  p3 (0 : Int32) (100000 : Int32) x3 e4) ⟨hx, hb, hml, hown, hts⟩ (va_cwS 3 hts gX11_neededMark_X11_isBetween rfl rfl rfl (by decide +kernel) ⟨Nat.le_of_ble_eq_true rfl, Nat.le_of_ble_eq_true rfl⟩) hG (hP.sub [] rfl) rfl hl.1 rfl (Nat.le_of_ble_eq_true rfl) dX11_neededMark_11 ⟨Nat.zero_le _, Nat.zero_le _⟩ ?_
  rcases tx_some h with ⟨k9, e9, h⟩ | ⟨x5, e6, h⟩
  · refine tcT (fun st v t q => by obtain ⟨⟨u, -, hu, -⟩, -⟩ := q; cases hu) hG hX hP hD hS hA (pm0 (wX11n cy a o S)) (fun h1 h2 => vx_runS (As := [.int x3]) (rest := []) ⟨hx, hb, hml, hown, hts⟩ (qX11_requireArgument l hl9 D cy tt  x3 (H).size (Sum.inl k9) e9) (va_cwS 1 hts gX11_neededMark_X11_requireArgument rfl rfl rfl (by decide +kernel) ⟨Nat.le_of_ble_eq_true rfl, Nat.le_of_ble_eq_true rfl⟩) ⟨h1, h2⟩ rfl rfl hl.1 rfl (lv_room (Nat.le_of_ble_eq_true rfl)) dX11_neededMark_14 ⟨(by rw [← h]; exact Nat.le_refl 1), (by rw [← h]; exact Nat.le_refl 6)⟩) (fun ce q9 H locs hP hS hce hcv hcl => ?_)
    exact vx_out (fun x hx9 => (htab x hx9).elim) hlocks hce hcv hcl (fun t ht hvm => xThrow rfl h hP hD hS (by rw [ht]; exact Nat.le_refl _) (fun q _ => by rw [ht])) hS.2.2 (by rw [← h]; exact Nat.le_refl 1) (by rw [← h]; exact Nat.le_refl 6)
  refine tcNv hG hX hP hD hS hA (pm0 (wX11n cy a o S)) (fun h1 h2 => vx_runS (As := [.int x3]) (rest := []) ⟨hx, hb, hml, hown, hts⟩ (qX11_requireArgument l hl9 D cy tt  x3 (H).size (Sum.inr x5) e6) (va_cwS 1 hts gX11_neededMark_X11_requireArgument rfl rfl rfl (by decide +kernel) ⟨Nat.le_of_ble_eq_true rfl, Nat.le_of_ble_eq_true rfl⟩) ⟨h1, h2⟩ rfl rfl hl.1 rfl (lv_room (Nat.le_of_ble_eq_true rfl)) dX11_neededMark_14 ⟨Nat.zero_le _, Nat.zero_le _⟩) (c2 := 0) (s2 := 0) rfl rfl (fun H locs hP hS => ?_)
  refine lv_aload_n hx hb dX11_neededMark_17 rfl (lv_at hl 0 rfl) ?_
  refine va_get (D := D) (ci := 11) (v := .ref (a (o + 1))) (C := RX11) (T := TX11) (N := 3) hx hb hts hinX11 hown hK hP 0 rfl rfl 0 (by decide) hf10 (fun _ h9 => h9) rfl dX11_neededMark_18 ?_
  refine va_getN (D := D) (ci := 0) (v := .int (gX0_state (gX11n_now S))) (C := RX0) (T := TX0) (N := 14) hx hb hts hinX0 hown hK hP 1 rfl rfl 0 (by decide) hf38 (fun _ h9 => h9) rfl dX11_neededMark_21 ?_
  refine lv_iconst (v := (1 : Int32)) hx hb dX11_neededMark_24 (by decide) ?_
  obtain ⟨j8, hj8, h⟩ := jn_elim h
  have Jj8 : ∀ (x7 : Int32) (ls : Array Slot), j8 x7 = some rs → lv_has ls 5 [(0, .ref (a o)), (1, .int p1), (2, .int p2), (3, .int p3)] → W p l e (headSpec wsX11_neededMark ({ frames := 9, cells := cX rs, slots := sX rs, locals := 163 } : Room)).room s m ([.ref (a o), .int p1, .int p2, .int p3] : List Value).toArray below meth c H locs 0 0 (vx_MQ below (va_Qi (fun r (_ : Unit) => Sum.inr r = rs) (fun _ t => mB D s.heap.size (wX11n cy a o S) (wX11n cy a o S) t) (va_A (wX11n cy a o S) s.heap.size)) (xC D s.heap.size (wX11n cy a o S) rs) ([.ref (a o), .int p1, .int p2, .int p3] : List Value).toArray s (cX rs) (sX rs) (va_A (wX11n cy a o S) s.heap.size)) (F0 m 33 ls [.int x7]) := by
    intro x7 ls h hl
    rw [hj8] at h
    rcases tx_some h with ⟨k9, e9, h⟩ | ⟨x9, e10, h⟩
    · refine tcT (fun st v t q => by obtain ⟨⟨u, -, hu, -⟩, -⟩ := q; cases hu) hG hX hP hD hS hA (pm0 (wX11n cy a o S)) (fun h1 h2 => vx_runS (As := [.int x7]) (rest := []) ⟨hx, hb, hml, hown, hts⟩ (qX11_requireState l hl9 D cy tt  x7 (H).size (Sum.inl k9) e9) (va_cwS 1 hts gX11_neededMark_X11_requireState rfl rfl rfl (by decide +kernel) ⟨Nat.le_of_ble_eq_true rfl, Nat.le_of_ble_eq_true rfl⟩) ⟨h1, h2⟩ rfl rfl hl.1 rfl (lv_room (Nat.le_of_ble_eq_true rfl)) dX11_neededMark_33 ⟨(by rw [← h]; exact Nat.le_refl 1), (by rw [← h]; exact Nat.le_refl 6)⟩) (fun ce q9 H locs hP hS hce hcv hcl => ?_)
      exact vx_out (fun x hx9 => (htab x hx9).elim) hlocks hce hcv hcl (fun t ht hvm => xThrow rfl h hP hD hS (by rw [ht]; exact Nat.le_refl _) (fun q _ => by rw [ht])) hS.2.2 (by rw [← h]; exact Nat.le_refl 1) (by rw [← h]; exact Nat.le_refl 6)
    refine tcNv hG hX hP hD hS hA (pm0 (wX11n cy a o S)) (fun h1 h2 => vx_runS (As := [.int x7]) (rest := []) ⟨hx, hb, hml, hown, hts⟩ (qX11_requireState l hl9 D cy tt  x7 (H).size (Sum.inr x9) e10) (va_cwS 1 hts gX11_neededMark_X11_requireState rfl rfl rfl (by decide +kernel) ⟨Nat.le_of_ble_eq_true rfl, Nat.le_of_ble_eq_true rfl⟩) ⟨h1, h2⟩ rfl rfl hl.1 rfl (lv_room (Nat.le_of_ble_eq_true rfl)) dX11_neededMark_33 ⟨Nat.zero_le _, Nat.zero_le _⟩) (c2 := 0) (s2 := 0) rfl rfl (fun H locs hP hS => ?_)
    refine lv_aload_n hx hb dX11_neededMark_36 rfl (lv_at hl 0 rfl) ?_
    refine va_get (D := D) (ci := 11) (v := .ref (a (o + 1))) (C := RX11) (T := TX11) (N := 3) hx hb hts hinX11 hown hK hP 0 rfl rfl 0 (by decide) hf10 (fun _ h9 => h9) rfl dX11_neededMark_37 ?_
    refine va_getN (D := D) (ci := 0) (v := .ref (a (o + 1 + 23))) (C := RX0) (T := TX0) (N := 14) hx hb hts hinX0 hown hK hP 1 rfl rfl 9 (by decide) hf164 (fun _ h9 => h9) rfl dX11_neededMark_40 ?_
    refine lv_iload_n hx hb dX11_neededMark_43 rfl (lv_at hl 2 rfl) ?_
    obtain ⟨x11, e12, h⟩ := bd_some h
    refine pcV (As := [.int p2]) (rest := []) (q0 := 0) (qX7_hasPlayed l D cy a (o + 1 + 23) (gX0_stage (gX11n_now S)) p2 x11 e12) ⟨hx, hb, hml, hown, hts⟩ (cwV 1 hts gX11_neededMark_X7_hasPlayed rfl rfl rfl (by decide +kernel) ⟨Nat.le_of_ble_eq_true rfl, Nat.le_of_ble_eq_true rfl⟩) hG (P_seg (X := ((hX11n a o S) ++ ((hX0 a (o + 1) (gX11n_now S)) ++ ((wX10 cy a (o + 1 + 1) (gX0_works (gX11n_now S))) ++ ((wX2 cy a (o + 1 + 5) (gX0_entrants (gX11n_now S))) ++ ((rowsW (cy 2) (cy 0) a (o + 1 + 7) 4 6 (gX0_rules (gX11n_now S))) ++ ((wX4 cy a (o + 1 + 12) (gX0_programs (gX11n_now S))) ++ (wX3 cy a (o + 1 + 14) (gX0_jury (gX11n_now S)))))))))) (c := (wX7 cy a (o + 1 + 23) (gX0_stage (gX11n_now S)))) (Y := ((wX6 cy a (o + 1 + 26) (gX0_sheet (gX11n_now S))) ++ ((wX9 cy a (o + 1 + 35) (gX0_tie (gX11n_now S))) ++ ((rowsW (cy 2) (cy 0) a (o + 1 + 46) 4 12 (gX0_closedScores (gX11n_now S))) ++ (wX1 cy a (o + 1 + 51) (gX0_cut (gX11n_now S))))))) hP (by simp only [wX0, wX11n, List.append_assoc, List.nil_append, List.append_nil] <;> rfl)) rfl rfl rfl hl.1 rfl (Nat.le_of_ble_eq_true rfl) dX11_neededMark_44 ⟨Nat.zero_le _, Nat.zero_le _⟩ ?_
    obtain ⟨j14, hj14, h⟩ := jn_elim h
    have Jj14 : ∀ (x13 : Int32) (ls : Array Slot), j14 x13 = some rs → lv_has ls 5 [(0, .ref (a o)), (1, .int p1), (2, .int p2), (3, .int p3)] → W p l e (headSpec wsX11_neededMark ({ frames := 9, cells := cX rs, slots := sX rs, locals := 163 } : Room)).room s m ([.ref (a o), .int p1, .int p2, .int p3] : List Value).toArray below meth c H locs 0 0 (vx_MQ below (va_Qi (fun r (_ : Unit) => Sum.inr r = rs) (fun _ t => mB D s.heap.size (wX11n cy a o S) (wX11n cy a o S) t) (va_A (wX11n cy a o S) s.heap.size)) (xC D s.heap.size (wX11n cy a o S) rs) ([.ref (a o), .int p1, .int p2, .int p3] : List Value).toArray s (cX rs) (sX rs) (va_A (wX11n cy a o S) s.heap.size)) (F0 m 70 ls [.int x13]) := by
      intro x13 ls h hl
      rw [hj14] at h
      rcases tx_some h with ⟨k9, e9, h⟩ | ⟨x15, e16, h⟩
      · refine tcT (fun st v t q => by obtain ⟨⟨u, -, hu, -⟩, -⟩ := q; cases hu) hG hX hP hD hS hA (pm0 (wX11n cy a o S)) (fun h1 h2 => vx_runS (As := [.int x13]) (rest := []) ⟨hx, hb, hml, hown, hts⟩ (qX11_requireState l hl9 D cy tt  x13 (H).size (Sum.inl k9) e9) (va_cwS 1 hts gX11_neededMark_X11_requireState rfl rfl rfl (by decide +kernel) ⟨Nat.le_of_ble_eq_true rfl, Nat.le_of_ble_eq_true rfl⟩) ⟨h1, h2⟩ rfl rfl hl.1 rfl (lv_room (Nat.le_of_ble_eq_true rfl)) dX11_neededMark_70 ⟨(by rw [← h]; exact Nat.le_refl 1), (by rw [← h]; exact Nat.le_refl 6)⟩) (fun ce q9 H locs hP hS hce hcv hcl => ?_)
        exact vx_out (fun x hx9 => (htab x hx9).elim) hlocks hce hcv hcl (fun t ht hvm => xThrow rfl h hP hD hS (by rw [ht]; exact Nat.le_refl _) (fun q _ => by rw [ht])) hS.2.2 (by rw [← h]; exact Nat.le_refl 1) (by rw [← h]; exact Nat.le_refl 6)
      refine tcNv hG hX hP hD hS hA (pm0 (wX11n cy a o S)) (fun h1 h2 => vx_runS (As := [.int x13]) (rest := []) ⟨hx, hb, hml, hown, hts⟩ (qX11_requireState l hl9 D cy tt  x13 (H).size (Sum.inr x15) e16) (va_cwS 1 hts gX11_neededMark_X11_requireState rfl rfl rfl (by decide +kernel) ⟨Nat.le_of_ble_eq_true rfl, Nat.le_of_ble_eq_true rfl⟩) ⟨h1, h2⟩ rfl rfl hl.1 rfl (lv_room (Nat.le_of_ble_eq_true rfl)) dX11_neededMark_70 ⟨Nat.zero_le _, Nat.zero_le _⟩) (c2 := 0) (s2 := 0) rfl rfl (fun H locs hP hS => ?_)
      refine lv_iconst (v := (0 : Int32)) hx hb dX11_neededMark_73 (by decide) ?_
      refine lv_istore (lv' := [(4, .int (0 : Int32)), (0, .ref (a o)), (1, .int p1), (2, .int p2), (3, .int p3)]) hx hb dX11_neededMark_74 hl (by decide) rfl (fun ls hl => ?_)
      have L27 : ∀ (c1_17 : Int32) (c2_18 : Int32) (c3_19 : Int32) (k20 : Int32 → Option (Nat ⊕ (Int32))) (hk20 : ∀ (v4_21 : Int32) (ls : Array Slot), k20 v4_21 = some rs → lv_has ls 5 [(4, .int v4_21)] → W p l e (headSpec wsX11_neededMark ({ frames := 9, cells := cX rs, slots := sX rs, locals := 163 } : Room)).room s m ([.ref (a o), .int p1, .int p2, .int p3] : List Value).toArray below meth c H locs 0 0 (vx_MQ below (va_Qi (fun r (_ : Unit) => Sum.inr r = rs) (fun _ t => mB D s.heap.size (wX11n cy a o S) (wX11n cy a o S) t) (va_A (wX11n cy a o S) s.heap.size)) (xC D s.heap.size (wX11n cy a o S) rs) ([.ref (a o), .int p1, .int p2, .int p3] : List Value).toArray s (cX rs) (sX rs) (va_A (wX11n cy a o S) s.heap.size)) (F0 m 98 ls [])) (k23 : Unit → Option (Nat ⊕ (Int32))) (hk23 : ∀ (ls : Array Slot), k23 () = some rs → lv_has ls 5 [] → W p l e (headSpec wsX11_neededMark ({ frames := 9, cells := cX rs, slots := sX rs, locals := 163 } : Room)).room s m ([.ref (a o), .int p1, .int p2, .int p3] : List Value).toArray below meth c H locs 0 0 (vx_MQ below (va_Qi (fun r (_ : Unit) => Sum.inr r = rs) (fun _ t => mB D s.heap.size (wX11n cy a o S) (wX11n cy a o S) t) (va_A (wX11n cy a o S) s.heap.size)) (xC D s.heap.size (wX11n cy a o S) rs) ([.ref (a o), .int p1, .int p2, .int p3] : List Value).toArray s (cX rs) (sX rs) (va_A (wX11n cy a o S) s.heap.size)) (F0 m 107 ls [])) (f : Nat) (v4_24 : Int32) (ls : Array Slot), DX11_neededMark_L76 S c1_17 c2_18 c3_19 k20 k23 f v4_24 = some rs → lv_has ls 5 [(0, .ref (a o)), (1, .int c1_17), (2, .int c2_18), (3, .int c3_19), (4, .int v4_24)] → W p l e (headSpec wsX11_neededMark ({ frames := 9, cells := cX rs, slots := sX rs, locals := 163 } : Room)).room s m ([.ref (a o), .int p1, .int p2, .int p3] : List Value).toArray below meth c H locs 0 0 (vx_MQ below (va_Qi (fun r (_ : Unit) => Sum.inr r = rs) (fun _ t => mB D s.heap.size (wX11n cy a o S) (wX11n cy a o S) t) (va_A (wX11n cy a o S) s.heap.size)) (xC D s.heap.size (wX11n cy a o S) rs) ([.ref (a o), .int p1, .int p2, .int p3] : List Value).toArray s (cX rs) (sX rs) (va_A (wX11n cy a o S) s.heap.size)) (F0 m 76 ls []) := by
        intro c1_17 c2_18 c3_19 k20 hk20 k23 hk23 f
        induction f with
        | zero =>
          intro v4_24 ls h hl
          rw [DX11_neededMark_L76] at h
          cases h
        | succ f ih =>
          intro v4_24 ls h hl
          rw [DX11_neededMark_L76] at h
          refine lv_iload hx hb dX11_neededMark_76 (lv_at hl 4 rfl) ?_
          refine lv_bipush (v := (100 : Int32)) hx hb dX11_neededMark_78 (by decide) ?_
          refine lv_icmp_gt (tgt := 107) hx hb dX11_neededMark_80 (by decide) (fun cc => ?_) (fun cc => ?_)
          · have h := ite_p cc h
            exact hk23  ls h (lv_sub hl [] rfl)
          · have h := ite_n cc h
            refine lv_aload_n hx hb dX11_neededMark_83 rfl (lv_at hl 0 rfl) ?_
            refine va_get (D := D) (ci := 11) (v := .ref (a (o + 1))) (C := RX11) (T := TX11) (N := 3) hx hb hts hinX11 hown hK hP 0 rfl rfl 0 (by decide) hf10 (fun _ h9 => h9) rfl dX11_neededMark_84 ?_
            refine lv_iload_n hx hb dX11_neededMark_87 rfl (lv_at hl 1 rfl) ?_
            refine lv_iload_n hx hb dX11_neededMark_88 rfl (lv_at hl 2 rfl) ?_
            refine lv_iload hx hb dX11_neededMark_89 (lv_at hl 4 rfl) ?_
            obtain ⟨x25, e26, h⟩ := bd_some h
            refine pcV (As := [.int c1_17, .int c2_18, .int v4_24]) (rest := []) (q0 := 0) (qX0_scoreWith l D cy a (o + 1) (gX11n_now S) c1_17 c2_18 v4_24 x25 e26) ⟨hx, hb, hml, hown, hts⟩ (cwV 3 hts gX11_neededMark_X0_scoreWith rfl rfl rfl (by decide +kernel) ⟨Nat.le_of_ble_eq_true rfl, Nat.le_of_ble_eq_true rfl⟩) hG (P_seg (X := (hX11n a o S)) (c := (wX0 cy a (o + 1) (gX11n_now S))) (Y := ([] : va_W)) hP (by simp only [wX11n, List.append_assoc, List.nil_append, List.append_nil] <;> rfl)) rfl rfl rfl hl.1 rfl (Nat.le_of_ble_eq_true rfl) dX11_neededMark_91 ⟨Nat.zero_le _, Nat.zero_le _⟩ ?_
            refine lv_iload_n hx hb dX11_neededMark_94 rfl (lv_at hl 3 rfl) ?_
            refine lv_icmp_lt (tgt := 101) hx hb dX11_neededMark_95 (by decide) (fun cc => ?_) (fun cc => ?_)
            · have h := ite_p cc h
              refine lv_iinc (v := (v4_24 + (1 : Int32))) (lv' := [(4, .int (v4_24 + (1 : Int32))), (0, .ref (a o)), (1, .int c1_17), (2, .int c2_18), (3, .int c3_19)]) hx hb dX11_neededMark_101 hl (k := 4) rfl (by rfl) (by decide) rfl (fun ls hl => ?_)
              refine lv_goto (tgt := 76) hx hb dX11_neededMark_104 (by decide) ?_
              exact ih (v4_24 + (1 : Int32)) ls h (lv_sub hl [1, 2, 3, 4, 0] rfl)
            · have h := ite_n cc h
              exact hk20 v4_24 ls h (lv_sub hl [4] rfl)
      refine L27 p1 p2 p3 _ ?_ _ ?_ fu (0 : Int32) ls h (lv_sub hl [1, 2, 3, 4, 0] rfl)
      · intro v4_22 ls h hl
        refine lv_iload hx hb dX11_neededMark_98 (lv_at hl 0 rfl) ?_
        refine vx_ret (W.widen (k := cX rs) (n := sX rs) (Nat.zero_le _) (Nat.zero_le _) ?_)
        exact W.iret (v := v4_22) hx hb hr (fun t ht hW => ⟨⟨v4_22, (), rfl, some_in h, by rw [ht]; exact hP, hD⟩, hS.F ht⟩) hS.2.2 dX11_neededMark_100
      · intro ls h hl
        refine lv_iconst (v := (-1 : Int32)) hx hb dX11_neededMark_107 (by decide) ?_
        refine vx_ret (W.widen (k := cX rs) (n := sX rs) (Nat.zero_le _) (Nat.zero_le _) ?_)
        exact W.iret (v := (-1 : Int32)) hx hb hr (fun t ht hW => ⟨⟨(-1 : Int32), (), rfl, some_in h, by rw [ht]; exact hP, hD⟩, hS.F ht⟩) hS.2.2 dX11_neededMark_108
    obtain ⟨j28, hj28, h⟩ := jn_elim h
    have Jj28 : ∀ (ls : Array Slot), j28 () = some rs → lv_has ls 5 [(0, .ref (a o)), (1, .int p1), (2, .int p2), (3, .int p3)] → W p l e (headSpec wsX11_neededMark ({ frames := 9, cells := cX rs, slots := sX rs, locals := 163 } : Room)).room s m ([.ref (a o), .int p1, .int p2, .int p3] : List Value).toArray below meth c H locs 0 0 (vx_MQ below (va_Qi (fun r (_ : Unit) => Sum.inr r = rs) (fun _ t => mB D s.heap.size (wX11n cy a o S) (wX11n cy a o S) t) (va_A (wX11n cy a o S) s.heap.size)) (xC D s.heap.size (wX11n cy a o S) rs) ([.ref (a o), .int p1, .int p2, .int p3] : List Value).toArray s (cX rs) (sX rs) (va_A (wX11n cy a o S) s.heap.size)) (F0 m 69 ls []) := by
      intro ls h hl
      rw [hj28] at h
      refine lv_iconst (v := (0 : Int32)) hx hb dX11_neededMark_69 (by decide) ?_
      exact Jj14 (0 : Int32) ls h (lv_sub hl [0, 1, 2, 3] rfl)
    refine lv_if_eq (tgt := 69) hx hb dX11_neededMark_47 (by decide) (fun cc => ?_) (fun cc => ?_)
    · have h := ite_p cc h
      exact Jj28  ls h (lv_sub hl [0, 1, 2, 3] rfl)
    · have h := ite_n cc h
      refine lv_aload_n hx hb dX11_neededMark_50 rfl (lv_at hl 0 rfl) ?_
      refine va_get (D := D) (ci := 11) (v := .ref (a (o + 1))) (C := RX11) (T := TX11) (N := 3) hx hb hts hinX11 hown hK hP 0 rfl rfl 0 (by decide) hf10 (fun _ h9 => h9) rfl dX11_neededMark_51 ?_
      refine va_getN (D := D) (ci := 0) (v := .ref (a (o + 1 + 14))) (C := RX0) (T := TX0) (N := 14) hx hb hts hinX0 hown hK hP 1 rfl rfl 8 (by decide) hf87 (fun _ h9 => h9) rfl dX11_neededMark_54 ?_
      refine lv_iload_n hx hb dX11_neededMark_57 rfl (lv_at hl 1 rfl) ?_
      refine lv_iload_n hx hb dX11_neededMark_58 rfl (lv_at hl 2 rfl) ?_
      obtain ⟨x29, e30, h⟩ := bd_some h
      refine pcV (As := [.int p1, .int p2]) (rest := []) (q0 := 0) (qX3_isBarred l D cy a (o + 1 + 14) (gX0_jury (gX11n_now S)) p1 p2 x29 e30) ⟨hx, hb, hml, hown, hts⟩ (cwV 2 hts gX11_neededMark_X3_isBarred rfl rfl rfl (by decide +kernel) ⟨Nat.le_of_ble_eq_true rfl, Nat.le_of_ble_eq_true rfl⟩) hG (P_seg (X := ((hX11n a o S) ++ ((hX0 a (o + 1) (gX11n_now S)) ++ ((wX10 cy a (o + 1 + 1) (gX0_works (gX11n_now S))) ++ ((wX2 cy a (o + 1 + 5) (gX0_entrants (gX11n_now S))) ++ ((rowsW (cy 2) (cy 0) a (o + 1 + 7) 4 6 (gX0_rules (gX11n_now S))) ++ (wX4 cy a (o + 1 + 12) (gX0_programs (gX11n_now S))))))))) (c := (wX3 cy a (o + 1 + 14) (gX0_jury (gX11n_now S)))) (Y := ((wX7 cy a (o + 1 + 23) (gX0_stage (gX11n_now S))) ++ ((wX6 cy a (o + 1 + 26) (gX0_sheet (gX11n_now S))) ++ ((wX9 cy a (o + 1 + 35) (gX0_tie (gX11n_now S))) ++ ((rowsW (cy 2) (cy 0) a (o + 1 + 46) 4 12 (gX0_closedScores (gX11n_now S))) ++ (wX1 cy a (o + 1 + 51) (gX0_cut (gX11n_now S)))))))) hP (by simp only [wX0, wX11n, List.append_assoc, List.nil_append, List.append_nil] <;> rfl)) rfl rfl rfl hl.1 rfl (Nat.le_of_ble_eq_true rfl) dX11_neededMark_59 ⟨Nat.zero_le _, Nat.zero_le _⟩ ?_
      refine lv_if_ne (tgt := 69) hx hb dX11_neededMark_62 (by decide) (fun cc => ?_) (fun cc => ?_)
      · have h := ite_n cc h
        exact Jj28  ls h (lv_sub hl [0, 1, 2, 3] rfl)
      · have h := ite_p cc h
        refine lv_iconst (v := (1 : Int32)) hx hb dX11_neededMark_65 (by decide) ?_
        refine lv_goto (tgt := 70) hx hb dX11_neededMark_66 (by decide) ?_
        exact Jj14 (1 : Int32) ls h (lv_sub hl [0, 1, 2, 3] rfl)
  refine lv_icmp_ne (tgt := 32) hx hb dX11_neededMark_25 (by decide) (fun cc => ?_) (fun cc => ?_)
  · have h := ite_n cc h
    refine lv_iconst (v := (0 : Int32)) hx hb dX11_neededMark_32 (by decide) ?_
    exact Jj8 (0 : Int32) ls h (lv_sub hl [0, 1, 2, 3] rfl)
  · have h := ite_p cc h
    refine lv_iconst (v := (1 : Int32)) hx hb dX11_neededMark_28 (by decide) ?_
    refine lv_goto (tgt := 33) hx hb dX11_neededMark_29 (by decide) ?_
    exact Jj8 (1 : Int32) ls h (lv_sub hl [0, 1, 2, 3] rfl)
set_option maxHeartbeats 4000000 in
set_option maxRecDepth 100000 in
theorem qX11_strangestJuror (l : Launch) (D : va_G) (cy : Nat → ClassId) (a : Nat → Nat) (o : Nat) (S : SX11n)  (rs : Int32) (h : DX11_strangestJuror S = some rs) : Met l yX11_strangestJuror wsX11_strangestJuror ({ frames := 3, cells := 0, slots := 0, locals := 79 } : Room) (va_Pc [.ref (a o)] (fun U => va_P D vwCl (wX11n cy a o S) U.heap ∧ gK D cy U)) (vp_Si (fun z => z = rs)) 0 0 (fun _ => False) := by
  refine Met.ofW (cc := cX11_strangestJuror) (maxL := 5) (ret := (some .int)) (by decide) rfl ?_
  intro p e s m args below meth c s₁ B hml hv
  obtain ⟨rfl, hP, hG⟩ := hv
  have hx := B.exec
  have hb := B.bytes
  have hr := B.returns
  have hts := atoms_spec (ws := wsX11_strangestJuror) B.pre
  have hown : s.vm.findClass RX11 = some m.cls := findClass_of_methodNamed B.named
  have hlocks := B.notSynchronized
  have hK := hG.1
  have hinX11 := (by decide +kernel : ∀ w ∈ wsX110, w ∈ wsX11_strangestJuror)
  have hf10 := hts (.fieldLink RX11 10 "PianoRounds" "now" "LPianoRounds$Competition;") (by decide +kernel)
  have hinX0 := (by decide +kernel : ∀ w ∈ wsX00, w ∈ wsX11_strangestJuror)
  have hf38 := va_Nw.use (A := ([.ref (a o)] : List Value).toArray) (U := s) (w := .fieldLinkNest "PianoRounds" 38 "PianoRounds$Competition" "state" "I" "PianoRounds") rfl (hG.2.1 _ (by decide +kernel))
  have hf87 := va_Nw.use (A := ([.ref (a o)] : List Value).toArray) (U := s) (w := .fieldLinkNest "PianoRounds" 87 "PianoRounds$Competition" "jury" "LPianoRounds$Jury;" "PianoRounds") rfl (hG.2.1 _ (by decide +kernel))
  have hinX3 := (by decide +kernel : ∀ w ∈ wsX30, w ∈ wsX11_strangestJuror)
  have hf271 := va_Nw.use (A := ([.ref (a o)] : List Value).toArray) (U := s) (w := .fieldLinkNest "PianoRounds" 271 "PianoRounds$Jury" "size" "I" "PianoRounds") rfl (hG.2.1 _ (by decide +kernel))
  have hl := lv_entry ([.ref (a o)]) (n := 5) (Nat.le_of_ble_eq_true rfl)
  rw [lg_entry_eq]
  generalize (lg_sl ([.ref (a o)]) ++ List.replicate (5 - (lg_sl ([.ref (a o)])).length) Slot.unset).toArray = ls at hl ⊢
  have hl : lv_has ls 5 [(0, .ref (a o))] := hl
  rw [DX11_strangestJuror] at h
  refine lv_aload_n hx hb dX11_strangestJuror_0 rfl (lv_at hl 0 rfl) ?_
  refine va_get (D := D) (ci := 11) (v := .ref (a (o + 1))) (C := RX11) (T := TX11) (N := 3) hx hb hts hinX11 hown hK hP 0 rfl rfl 0 (by decide) hf10 (fun _ h9 => h9) rfl dX11_strangestJuror_1 ?_
  refine va_getN (D := D) (ci := 0) (v := .int (gX0_state (gX11n_now S))) (C := RX0) (T := TX0) (N := 14) hx hb hts hinX0 hown hK hP 1 rfl rfl 0 (by decide) hf38 (fun _ h9 => h9) rfl dX11_strangestJuror_4 ?_
  refine lv_iconst (v := (1 : Int32)) hx hb dX11_strangestJuror_7 (by decide) ?_
  refine lv_icmp_eq (tgt := 13) hx hb dX11_strangestJuror_8 (by decide) (fun cc => ?_) (fun cc => ?_)
  · have h := ite_p cc h
    refine lv_iconst (v := (-1 : Int32)) hx hb dX11_strangestJuror_13 (by decide) ?_
    refine lv_istore_n (lv' := [(1, .int (-1 : Int32)), (0, .ref (a o))]) hx hb dX11_strangestJuror_14 rfl hl (by decide) rfl (fun ls hl => ?_)
    refine lv_iconst (v := (-1 : Int32)) hx hb dX11_strangestJuror_15 (by decide) ?_
    refine lv_istore_n (lv' := [(2, .int (-1 : Int32)), (1, .int (-1 : Int32)), (0, .ref (a o))]) hx hb dX11_strangestJuror_16 rfl hl (by decide) rfl (fun ls hl => ?_)
    refine lv_iconst (v := (0 : Int32)) hx hb dX11_strangestJuror_17 (by decide) ?_
    refine lv_istore_n (lv' := [(3, .int (0 : Int32)), (2, .int (-1 : Int32)), (1, .int (-1 : Int32)), (0, .ref (a o))]) hx hb dX11_strangestJuror_18 rfl hl (by decide) rfl (fun ls hl => ?_)
    have L12 : ∀ (k1 : Int32 → Option (Int32)) (hk1 : ∀ (v1_2 : Int32) (ls : Array Slot), k1 v1_2 = some rs → lv_has ls 5 [(1, .int v1_2)] → W p l e (headSpec wsX11_strangestJuror ({ frames := 3, cells := 0, slots := 0, locals := 79 } : Room)).room s m ([.ref (a o)] : List Value).toArray below meth c s.heap [] 0 0 (MQ below (vp_Si (fun z => z = rs)) ([.ref (a o)] : List Value).toArray s 0 0 (fun _ => False)) (F0 m 60 ls [])) (f : Nat) (v1_4 : Int32) (v2_5 : Int32) (v3_6 : Int32) (ls : Array Slot), DX11_strangestJuror_L19 S k1 f v1_4 v2_5 v3_6 = some rs → lv_has ls 5 [(0, .ref (a o)), (1, .int v1_4), (2, .int v2_5), (3, .int v3_6)] → W p l e (headSpec wsX11_strangestJuror ({ frames := 3, cells := 0, slots := 0, locals := 79 } : Room)).room s m ([.ref (a o)] : List Value).toArray below meth c s.heap [] 0 0 (MQ below (vp_Si (fun z => z = rs)) ([.ref (a o)] : List Value).toArray s 0 0 (fun _ => False)) (F0 m 19 ls []) := by
      intro k1 hk1 f
      induction f with
      | zero =>
        intro v1_4 v2_5 v3_6 ls h hl
        rw [DX11_strangestJuror_L19] at h
        cases h
      | succ f ih =>
        intro v1_4 v2_5 v3_6 ls h hl
        rw [DX11_strangestJuror_L19] at h
        refine lv_iload_n hx hb dX11_strangestJuror_19 rfl (lv_at hl 3 rfl) ?_
        refine lv_aload_n hx hb dX11_strangestJuror_20 rfl (lv_at hl 0 rfl) ?_
        refine va_get (D := D) (ci := 11) (v := .ref (a (o + 1))) (C := RX11) (T := TX11) (N := 3) hx hb hts hinX11 hown hK hP 0 rfl rfl 0 (by decide) hf10 (fun _ h9 => h9) rfl dX11_strangestJuror_21 ?_
        refine va_getN (D := D) (ci := 0) (v := .ref (a (o + 1 + 14))) (C := RX0) (T := TX0) (N := 14) hx hb hts hinX0 hown hK hP 1 rfl rfl 8 (by decide) hf87 (fun _ h9 => h9) rfl dX11_strangestJuror_24 ?_
        refine va_getN (D := D) (ci := 3) (v := .int (gX3_size (gX0_jury (gX11n_now S)))) (C := RX3) (T := TX3) (N := 2) hx hb hts hinX3 hown hK hP 15 rfl rfl 0 (by decide) hf271 (fun _ h9 => h9) rfl dX11_strangestJuror_27 ?_
        refine lv_icmp_ge (tgt := 60) hx hb dX11_strangestJuror_30 (by decide) (fun cc => ?_) (fun cc => ?_)
        · have h := ite_p cc h
          exact hk1 v1_4 ls h (lv_sub hl [1] rfl)
        · have h := ite_n cc h
          refine lv_aload_n hx hb dX11_strangestJuror_33 rfl (lv_at hl 0 rfl) ?_
          refine va_get (D := D) (ci := 11) (v := .ref (a (o + 1))) (C := RX11) (T := TX11) (N := 3) hx hb hts hinX11 hown hK hP 0 rfl rfl 0 (by decide) hf10 (fun _ h9 => h9) rfl dX11_strangestJuror_34 ?_
          refine lv_iload_n hx hb dX11_strangestJuror_37 rfl (lv_at hl 3 rfl) ?_
          obtain ⟨x7, e8, h⟩ := bd_some h
          refine pcV (As := [.int v3_6]) (rest := []) (q0 := 0) (qX0_distanceOf l D cy a (o + 1) (gX11n_now S) v3_6 x7 e8) ⟨hx, hb, hml, hown, hts⟩ (cwV 1 hts gX11_strangestJuror_X0_distanceOf rfl rfl rfl (by decide +kernel) ⟨Nat.le_of_ble_eq_true rfl, Nat.le_of_ble_eq_true rfl⟩) hG (P_seg (X := (hX11n a o S)) (c := (wX0 cy a (o + 1) (gX11n_now S))) (Y := ([] : va_W)) hP (by simp only [wX11n, List.append_assoc, List.nil_append, List.append_nil] <;> rfl)) rfl rfl rfl hl.1 rfl (Nat.le_of_ble_eq_true rfl) dX11_strangestJuror_38 ⟨Nat.zero_le _, Nat.zero_le _⟩ ?_
          refine lv_istore (lv' := [(4, .int x7), (0, .ref (a o)), (1, .int v1_4), (2, .int v2_5), (3, .int v3_6)]) hx hb dX11_strangestJuror_41 hl (by decide) rfl (fun ls hl => ?_)
          refine lv_iload hx hb dX11_strangestJuror_43 (lv_at hl 0 rfl) ?_
          refine lv_iload_n hx hb dX11_strangestJuror_45 rfl (lv_at hl 3 rfl) ?_
          obtain ⟨j11, hj11, h⟩ := jn_elim h
          have Jj11 : ∀ (v1_9 : Int32) (v2_10 : Int32) (ls : Array Slot), j11 v1_9 v2_10 = some rs → lv_has ls 5 [(0, .ref (a o)), (1, .int v1_9), (2, .int v2_10), (3, .int v3_6)] → W p l e (headSpec wsX11_strangestJuror ({ frames := 3, cells := 0, slots := 0, locals := 79 } : Room)).room s m ([.ref (a o)] : List Value).toArray below meth c s.heap [] 0 0 (MQ below (vp_Si (fun z => z = rs)) ([.ref (a o)] : List Value).toArray s 0 0 (fun _ => False)) (F0 m 54 ls []) := by
            intro v1_9 v2_10 ls h hl
            rw [hj11] at h
            refine lv_iinc (v := (v3_6 + (1 : Int32))) (lv' := [(3, .int (v3_6 + (1 : Int32))), (0, .ref (a o)), (1, .int v1_9), (2, .int v2_10)]) hx hb dX11_strangestJuror_54 hl (k := 3) rfl (by rfl) (by decide) rfl (fun ls hl => ?_)
            refine lv_goto (tgt := 19) hx hb dX11_strangestJuror_57 (by decide) ?_
            exact ih v1_9 v2_10 (v3_6 + (1 : Int32)) ls h (lv_sub hl [1, 2, 3, 0] rfl)
          refine lv_icmp_le (tgt := 54) hx hb dX11_strangestJuror_46 (by decide) (fun cc => ?_) (fun cc => ?_)
          · have h := ite_p cc h
            exact Jj11 v1_4 v2_5 ls h (lv_sub hl [1, 2, 3, 4] rfl)
          · have h := ite_n cc h
            refine lv_iload hx hb dX11_strangestJuror_49 (lv_at hl 0 rfl) ?_
            refine lv_istore_n (lv' := [(2, .int x7), (4, .int x7), (0, .ref (a o)), (1, .int v1_4), (3, .int v3_6)]) hx hb dX11_strangestJuror_51 rfl hl (by decide) rfl (fun ls hl => ?_)
            refine lv_iload_n hx hb dX11_strangestJuror_52 rfl (lv_at hl 4 rfl) ?_
            refine lv_istore_n (lv' := [(1, .int v3_6), (2, .int x7), (4, .int x7), (0, .ref (a o)), (3, .int v3_6)]) hx hb dX11_strangestJuror_53 rfl hl (by decide) rfl (fun ls hl => ?_)
            exact Jj11 v3_6 x7 ls h (lv_sub hl [3, 0, 1, 4] rfl)
    refine L12  _ ?_ fu (-1 : Int32) (-1 : Int32) (0 : Int32) ls h (lv_sub hl [3, 2, 1, 0] rfl)
    intro v1_3 ls h hl
    refine lv_iload_n hx hb dX11_strangestJuror_60 rfl (lv_at hl 0 rfl) ?_
    exact W.iret (v := v1_3) hx hb hr (fun t ht hW => ⟨v1_3, rfl, some_in h, ht⟩) (fun q hq => nomatch hq) dX11_strangestJuror_61
  · have h := ite_n cc h
    refine lv_iconst (v := (-1 : Int32)) hx hb dX11_strangestJuror_11 (by decide) ?_
    exact W.iret (v := (-1 : Int32)) hx hb hr (fun t ht hW => ⟨(-1 : Int32), rfl, some_in h, ht⟩) (fun q hq => nomatch hq) dX11_strangestJuror_12
set_option maxHeartbeats 4000000 in
set_option maxRecDepth 100000 in
theorem qX11_type (l : Launch) (hl9 : l.stackTraces = false) (D : va_G) (cy : Nat → ClassId) (tt : Nat → Nat) (a : Nat → Nat) (o : Nat) (S : SX11) (p1 : Int32) (sz : Nat) (rs : Nat ⊕ (Int32 × SX11)) (h : DX11_type S p1 = some rs) : vx_Met l yX11_type wsX11_type ({ frames := 7, cells := cX rs, slots := sX rs, locals := 120 } : Room) (xP D cy tt sz [.ref (a o), .int p1] (wX11 cy a o S)) (va_Qi (fun r (u : SX11) => Sum.inr (r, u) = rs) (fun u t => mB D sz (wX11 cy a o S) (wX11 cy a o u) t) (va_A (wX11 cy a o S) sz)) (xC D sz (wX11 cy a o S) rs) (cX rs) (sX rs) (va_A (wX11 cy a o S) sz) := by
  refine vx_ofW (cc := cX11_type) (maxL := 2) (ret := (some .int)) (by decide) rfl ?_
  intro p e s m args below meth c s₁ B hml htab hv
  obtain ⟨rfl, hsz, hP, hG, hD0, hX⟩ := hv
  have hx := B.exec
  have hb := B.bytes
  have hr := B.returns
  have hts := atoms_spec (ws := wsX11_type) B.pre
  have hown : s.vm.findClass RX11 = some m.cls := findClass_of_methodNamed B.named
  have hlocks := B.notSynchronized
  have hK := hG.1
  subst hsz
  have hD := hD0.self (sz := s.heap.size)
  have hA : ∀ q : Nat, s.heap.size ≤ q → (va_A (wX11 cy a o S) s.heap.size) q := fun q h => Or.inr h
  have hS : va_S (va_A (wX11 cy a o S) s.heap.size) s.heap s.heap [] := va_S.rf
  have hinX11 := (by decide +kernel : ∀ w ∈ wsX110, w ∈ wsX11_type)
  have hf26 := hts (.fieldLink RX11 26 "PianoRounds" "text" "LPianoRounds$Text;") (by decide +kernel)
  have hinX8 := (by decide +kernel : ∀ w ∈ wsX80, w ∈ wsX11_type)
  have hf277 := va_Nw.use (A := ([.ref (a o), .int p1] : List Value).toArray) (U := s) (w := .fieldLinkNest "PianoRounds" 277 "PianoRounds$Text" "length" "I" "PianoRounds") rfl (hG.2.1 _ (by decide +kernel))
  have hl := lv_entry ([.ref (a o), .int p1]) (n := 2) (Nat.le_of_ble_eq_true rfl)
  rw [lg_entry_eq]
  generalize (lg_sl ([.ref (a o), .int p1]) ++ List.replicate (2 - (lg_sl ([.ref (a o), .int p1])).length) Slot.unset).toArray = ls at hl ⊢
  have hl : lv_has ls 2 [(0, .ref (a o)), (1, .int p1)] := hl
  rw [DX11_type] at h
  refine lv_iload_n hx hb dX11_type_0 rfl (lv_at hl 1 rfl) ?_
  refine lv_bipush (v := (32 : Int32)) hx hb dX11_type_1 (by decide) ?_
  refine lv_bipush (v := (126 : Int32)) hx hb dX11_type_3 (by decide) ?_
  obtain ⟨x1, e2, h⟩ := bd_some h
  refine pcS (As := [.int p1, .int (32 : Int32), .int (126 : Int32)]) (rest := []) (qX11_isBetween l D cy  p1 (32 : Int32) (126 : Int32) x1 e2) ⟨hx, hb, hml, hown, hts⟩ (va_cwS 3 hts gX11_type_X11_isBetween rfl rfl rfl (by decide +kernel) ⟨Nat.le_of_ble_eq_true rfl, Nat.le_of_ble_eq_true rfl⟩) hG (hP.sub [] rfl) rfl hl.1 rfl (Nat.le_of_ble_eq_true rfl) dX11_type_5 ⟨Nat.zero_le _, Nat.zero_le _⟩ ?_
  rcases tx_some h with ⟨k9, e9, h⟩ | ⟨x3, e4, h⟩
  · refine tcT (fun st v t q => by obtain ⟨⟨u, -, hu, -⟩, -⟩ := q; cases hu) hG hX hP hD hS hA (pm0 (wX11 cy a o S)) (fun h1 h2 => vx_runS (As := [.int x1]) (rest := []) ⟨hx, hb, hml, hown, hts⟩ (qX11_requireArgument l hl9 D cy tt  x1 (s.heap).size (Sum.inl k9) e9) (va_cwS 1 hts gX11_type_X11_requireArgument rfl rfl rfl (by decide +kernel) ⟨Nat.le_of_ble_eq_true rfl, Nat.le_of_ble_eq_true rfl⟩) ⟨h1, h2⟩ rfl rfl hl.1 rfl (lv_room (Nat.le_of_ble_eq_true rfl)) dX11_type_8 ⟨(by rw [← h]; exact Nat.le_refl 1), (by rw [← h]; exact Nat.le_refl 6)⟩) (fun ce q9 H locs hP hS hce hcv hcl => ?_)
    exact vx_out (fun x hx9 => (htab x hx9).elim) hlocks hce hcv hcl (fun t ht hvm => xThrow rfl h hP hD hS (by rw [ht]; exact Nat.le_refl _) (fun q _ => by rw [ht])) hS.2.2 (by rw [← h]; exact Nat.le_refl 1) (by rw [← h]; exact Nat.le_refl 6)
  refine tcNv hG hX hP hD hS hA (pm0 (wX11 cy a o S)) (fun h1 h2 => vx_runS (As := [.int x1]) (rest := []) ⟨hx, hb, hml, hown, hts⟩ (qX11_requireArgument l hl9 D cy tt  x1 (s.heap).size (Sum.inr x3) e4) (va_cwS 1 hts gX11_type_X11_requireArgument rfl rfl rfl (by decide +kernel) ⟨Nat.le_of_ble_eq_true rfl, Nat.le_of_ble_eq_true rfl⟩) ⟨h1, h2⟩ rfl rfl hl.1 rfl (lv_room (Nat.le_of_ble_eq_true rfl)) dX11_type_8 ⟨Nat.zero_le _, Nat.zero_le _⟩) (c2 := 0) (s2 := 0) rfl rfl (fun H locs hP hS => ?_)
  refine lv_aload_n hx hb dX11_type_11 rfl (lv_at hl 0 rfl) ?_
  refine va_get (D := D) (ci := 11) (v := .ref (a (o + 268))) (C := RX11) (T := TX11) (N := 3) hx hb hts hinX11 hown hK hP 0 rfl rfl 2 (by decide) hf26 (fun _ h9 => h9) rfl dX11_type_12 ?_
  refine va_getN (D := D) (ci := 8) (v := .int (gX8_length (gX11_text S))) (C := RX8) (T := TX8) (N := 5) hx hb hts hinX8 hown hK hP 268 rfl rfl 0 (by decide) hf277 (fun _ h9 => h9) rfl dX11_type_15 ?_
  refine lv_bipush (v := (40 : Int32)) hx hb dX11_type_18 (by decide) ?_
  obtain ⟨j6, hj6, h⟩ := jn_elim h
  have Jj6 : ∀ (x5 : Int32) (ls : Array Slot), j6 x5 = some rs → lv_has ls 2 [(0, .ref (a o)), (1, .int p1)] → W p l e (headSpec wsX11_type ({ frames := 7, cells := cX rs, slots := sX rs, locals := 120 } : Room)).room s m ([.ref (a o), .int p1] : List Value).toArray below meth c H locs 0 0 (vx_MQ below (va_Qi (fun r (u : SX11) => Sum.inr (r, u) = rs) (fun u t => mB D s.heap.size (wX11 cy a o S) (wX11 cy a o u) t) (va_A (wX11 cy a o S) s.heap.size)) (xC D s.heap.size (wX11 cy a o S) rs) ([.ref (a o), .int p1] : List Value).toArray s (cX rs) (sX rs) (va_A (wX11 cy a o S) s.heap.size)) (F0 m 28 ls [.int x5]) := by
    intro x5 ls h hl
    rw [hj6] at h
    rcases tx_some h with ⟨k9, e9, h⟩ | ⟨x7, e8, h⟩
    · refine tcT (fun st v t q => by obtain ⟨⟨u, -, hu, -⟩, -⟩ := q; cases hu) hG hX hP hD hS hA (pm0 (wX11 cy a o S)) (fun h1 h2 => vx_runS (As := [.int x5]) (rest := []) ⟨hx, hb, hml, hown, hts⟩ (qX11_requireState l hl9 D cy tt  x5 (H).size (Sum.inl k9) e9) (va_cwS 1 hts gX11_type_X11_requireState rfl rfl rfl (by decide +kernel) ⟨Nat.le_of_ble_eq_true rfl, Nat.le_of_ble_eq_true rfl⟩) ⟨h1, h2⟩ rfl rfl hl.1 rfl (lv_room (Nat.le_of_ble_eq_true rfl)) dX11_type_28 ⟨(by rw [← h]; exact Nat.le_refl 1), (by rw [← h]; exact Nat.le_refl 6)⟩) (fun ce q9 H locs hP hS hce hcv hcl => ?_)
      exact vx_out (fun x hx9 => (htab x hx9).elim) hlocks hce hcv hcl (fun t ht hvm => xThrow rfl h hP hD hS (by rw [ht]; exact Nat.le_refl _) (fun q _ => by rw [ht])) hS.2.2 (by rw [← h]; exact Nat.le_refl 1) (by rw [← h]; exact Nat.le_refl 6)
    refine tcNv hG hX hP hD hS hA (pm0 (wX11 cy a o S)) (fun h1 h2 => vx_runS (As := [.int x5]) (rest := []) ⟨hx, hb, hml, hown, hts⟩ (qX11_requireState l hl9 D cy tt  x5 (H).size (Sum.inr x7) e8) (va_cwS 1 hts gX11_type_X11_requireState rfl rfl rfl (by decide +kernel) ⟨Nat.le_of_ble_eq_true rfl, Nat.le_of_ble_eq_true rfl⟩) ⟨h1, h2⟩ rfl rfl hl.1 rfl (lv_room (Nat.le_of_ble_eq_true rfl)) dX11_type_28 ⟨Nat.zero_le _, Nat.zero_le _⟩) (c2 := 0) (s2 := 0) rfl rfl (fun H locs hP hS => ?_)
    refine lv_aload_n hx hb dX11_type_31 rfl (lv_at hl 0 rfl) ?_
    refine va_get (D := D) (ci := 11) (v := .ref (a (o + 268))) (C := RX11) (T := TX11) (N := 3) hx hb hts hinX11 hown hK hP 0 rfl rfl 2 (by decide) hf26 (fun _ h9 => h9) rfl dX11_type_32 ?_
    refine lv_iload_n hx hb dX11_type_35 rfl (lv_at hl 1 rfl) ?_
    obtain ⟨x9, e10, h⟩ := bd_some h
    refine smVi (As := [.int p1]) (rest := []) (ws' := (wX11 cy a o (uX11_text S x9.2))) (q0 := 0) (qX8_append l D cy a (o + 268) (gX11_text S) p1 (H).size x9 e10) ⟨hx, hb, hml, hown, hts⟩ (cwV 1 hts gX11_type_X8_append rfl rfl rfl (by decide +kernel) ⟨Nat.le_of_ble_eq_true rfl, Nat.le_of_ble_eq_true rfl⟩) hG hP hD hS hA (pm1 (X := ((hX11 a o S) ++ ((wX0 cy a (o + 1) (gX11_now S)) ++ (wX5 cy a (o + 54) (gX11_records S))))) (c := (wX8 cy a (o + 268) (gX11_text S))) (Y := ([] : va_W)) (show (wX11 cy a o S) = ((hX11 a o S) ++ ((wX0 cy a (o + 1) (gX11_now S)) ++ (wX5 cy a (o + 54) (gX11_records S)))) ++ ((wX8 cy a (o + 268) (gX11_text S)) ++ ([] : va_W)) from by simp only [wX11, List.append_assoc, List.nil_append, List.append_nil] <;> rfl)) (pm1 (X := ((hX11 a o S) ++ ((wX0 cy a (o + 1) (gX11_now S)) ++ (wX5 cy a (o + 54) (gX11_records S))))) (c := (wX8 cy a (o + 268) x9.2)) (Y := ([] : va_W)) (show (wX11 cy a o (uX11_text S x9.2)) = ((hX11 a o S) ++ ((wX0 cy a (o + 1) (gX11_now S)) ++ (wX5 cy a (o + 54) (gX11_records S)))) ++ ((wX8 cy a (o + 268) x9.2) ++ ([] : va_W)) from by simp only [wX11, List.append_assoc, List.nil_append, List.append_nil] <;> rfl)) rfl rfl rfl hl.1 rfl (Nat.le_of_ble_eq_true rfl) dX11_type_36 ⟨Nat.zero_le _, Nat.zero_le _⟩ (fun H locs hP hD hS => ?_)
    obtain ⟨S11, eS12, h⟩ := lt_elim h
    have hP : va_P D vwCl (wX11 cy a o S11) H := by rw [eS12]; exact hP
    have hD : va_D (va_A (wX11 cy a o S) s.heap.size) (wX11 cy a o S11) := by rw [eS12]; exact hD
    refine vx_ret (W.widen (k := cX rs) (n := sX rs) (Nat.zero_le _) (Nat.zero_le _) ?_)
    exact W.iret (v := x9.1) hx hb hr (fun t ht hW => ⟨⟨x9.1, S11, rfl, some_in h, by rw [ht]; exact hP, hD⟩, hS.F ht⟩) hS.2.2 dX11_type_39
  refine lv_icmp_ge (tgt := 27) hx hb dX11_type_20 (by decide) (fun cc => ?_) (fun cc => ?_)
  · have h := ite_p cc h
    refine lv_iconst (v := (0 : Int32)) hx hb dX11_type_27 (by decide) ?_
    exact Jj6 (0 : Int32) ls h (lv_sub hl [0, 1] rfl)
  · have h := ite_n cc h
    refine lv_iconst (v := (1 : Int32)) hx hb dX11_type_23 (by decide) ?_
    refine lv_goto (tgt := 28) hx hb dX11_type_24 (by decide) ?_
    exact Jj6 (1 : Int32) ls h (lv_sub hl [0, 1] rfl)
set_option maxHeartbeats 4000000 in
set_option maxRecDepth 100000 in
theorem qX11_clearText (l : Launch) (D : va_G) (cy : Nat → ClassId) (a : Nat → Nat) (o : Nat) (S : SX11)  (sz : Nat) (rs : Int32 × SX11) (h : DX11_clearText S = some rs) : Met l yX11_clearText wsX11_clearText ({ frames := 0, cells := 0, slots := 0, locals := 0 } : Room) (mP D cy sz [.ref (a o)] (wX11 cy a o S)) (va_Qi (fun r (u : SX11) => (r, u) = rs) (fun u t => mB D sz (wX11 cy a o S) (wX11 cy a o u) t) (va_A (wX11 cy a o S) sz)) 0 0 (va_A (wX11 cy a o S) sz) := by
  refine Met.ofW (cc := cX11_clearText) (maxL := 2) (ret := (some .int)) (by decide) rfl ?_
  intro p e s m args below meth c s₁ B hml hv
  obtain ⟨rfl, hsz, hP, hG, hD0⟩ := hv
  have hx := B.exec
  have hb := B.bytes
  have hr := B.returns
  have hts := atoms_spec (ws := wsX11_clearText) B.pre
  have hown : s.vm.findClass RX11 = some m.cls := findClass_of_methodNamed B.named
  have hlocks := B.notSynchronized
  have hK := hG.1
  subst hsz
  have hD := hD0.self (sz := s.heap.size)
  have hA : ∀ q : Nat, s.heap.size ≤ q → (va_A (wX11 cy a o S) s.heap.size) q := fun q h => Or.inr h
  have hS : va_S (va_A (wX11 cy a o S) s.heap.size) s.heap s.heap [] := va_S.rf
  have hinX11 := (by decide +kernel : ∀ w ∈ wsX110, w ∈ wsX11_clearText)
  have hf26 := hts (.fieldLink RX11 26 "PianoRounds" "text" "LPianoRounds$Text;") (by decide +kernel)
  have hinX8 := (by decide +kernel : ∀ w ∈ wsX80, w ∈ wsX11_clearText)
  have hf277 := va_Nw.use (A := ([.ref (a o)] : List Value).toArray) (U := s) (w := .fieldLinkNest "PianoRounds" 277 "PianoRounds$Text" "length" "I" "PianoRounds") rfl (hG.2.1 _ (by decide +kernel))
  have hl := lv_entry ([.ref (a o)]) (n := 2) (Nat.le_of_ble_eq_true rfl)
  rw [lg_entry_eq]
  generalize (lg_sl ([.ref (a o)]) ++ List.replicate (2 - (lg_sl ([.ref (a o)])).length) Slot.unset).toArray = ls at hl ⊢
  have hl : lv_has ls 2 [(0, .ref (a o))] := hl
  rw [DX11_clearText] at h
  refine lv_aload_n hx hb dX11_clearText_0 rfl (lv_at hl 0 rfl) ?_
  refine va_get (D := D) (ci := 11) (v := .ref (a (o + 268))) (C := RX11) (T := TX11) (N := 3) hx hb hts hinX11 hown hK hP 0 rfl rfl 2 (by decide) hf26 (fun _ h9 => h9) rfl dX11_clearText_1 ?_
  refine va_getN (D := D) (ci := 8) (v := .int (gX8_length (gX11_text S))) (C := RX8) (T := TX8) (N := 5) hx hb hts hinX8 hown hK hP 268 rfl rfl 0 (by decide) hf277 (fun _ h9 => h9) rfl dX11_clearText_4 ?_
  refine lv_istore_n (lv' := [(1, .int (gX8_length (gX11_text S))), (0, .ref (a o))]) hx hb dX11_clearText_7 rfl hl (by decide) rfl (fun ls hl => ?_)
  refine lv_aload_n hx hb dX11_clearText_8 rfl (lv_at hl 1 rfl) ?_
  refine va_get (D := D) (ci := 11) (v := .ref (a (o + 268))) (C := RX11) (T := TX11) (N := 3) hx hb hts hinX11 hown hK hP 0 rfl rfl 2 (by decide) hf26 (fun _ h9 => h9) rfl dX11_clearText_9 ?_
  refine lv_iconst (v := (0 : Int32)) hx hb dX11_clearText_12 (by decide) ?_
  refine va_putN (D := D) (ci := 8) (v := .int (0 : Int32)) (ty := .int) (C := RX8) (T := TX8) (N := 5) hx hb hts hinX8 tyX8 tyX8_ok nmX8 hown hK hP hD hS 268 rfl rfl 0 (by decide) hf277 (fun _ h9 => h9) rfl (by decide +kernel) rfl rfl (Nat.le_of_ble_eq_true rfl) dX11_clearText_13 (fun H locs hP hD hS => ?_)
  have hP : va_P D vwCl (wX11 cy a o (uX11_text S (uX8_length (gX11_text S) (0 : Int32)))) H := Eq.mp (congrArg (fun w => va_P D vwCl w H) (clT cy a o S)) hP
  have hD : va_D (va_A (wX11 cy a o S) s.heap.size) (wX11 cy a o (uX11_text S (uX8_length (gX11_text S) (0 : Int32)))) := Eq.mp (congrArg (fun w => va_D (va_A (wX11 cy a o S) s.heap.size) w) (clT cy a o S)) hD
  obtain ⟨S1, eS2, h⟩ := lt_elim h
  have hP : va_P D vwCl (wX11 cy a o S1) H := by rw [eS2]; exact hP
  have hD : va_D (va_A (wX11 cy a o S) s.heap.size) (wX11 cy a o S1) := by rw [eS2]; exact hD
  refine lv_iload_n hx hb dX11_clearText_16 rfl (lv_at hl 0 rfl) ?_
  exact W.iret (v := (gX8_length (gX11_text S))) hx hb hr (fun t ht hW => ⟨⟨(gX8_length (gX11_text S)), S1, rfl, some_in h, by rw [ht]; exact hP, hD⟩, hS.F ht⟩) hS.2.2 dX11_clearText_17
set_option maxHeartbeats 4000000 in
set_option maxRecDepth 100000 in
theorem qX11_fault (l : Launch) (D : va_G) (cy : Nat → ClassId) (a : Nat → Nat) (o : Nat) (S : SX11)  (sz : Nat) (rs : Int32 × SX11) (h : DX11_fault S = some rs) : Met l yX11_fault wsX11_fault ({ frames := 4, cells := 0, slots := 0, locals := 91 } : Room) (mP D cy sz [.ref (a o)] (wX11 cy a o S)) (va_Qi (fun r (u : SX11) => (r, u) = rs) (fun u t => mB D sz (wX11 cy a o S) (wX11 cy a o u) t) (va_A (wX11 cy a o S) sz)) 0 0 (va_A (wX11 cy a o S) sz) := by
  refine Met.ofW (cc := cX11_fault) (maxL := 1) (ret := (some .int)) (by decide) rfl ?_
  intro p e s m args below meth c s₁ B hml hv
  obtain ⟨rfl, hsz, hP, hG, hD0⟩ := hv
  have hx := B.exec
  have hb := B.bytes
  have hr := B.returns
  have hts := atoms_spec (ws := wsX11_fault) B.pre
  have hown : s.vm.findClass RX11 = some m.cls := findClass_of_methodNamed B.named
  have hlocks := B.notSynchronized
  have hK := hG.1
  subst hsz
  have hD := hD0.self (sz := s.heap.size)
  have hA : ∀ q : Nat, s.heap.size ≤ q → (va_A (wX11 cy a o S) s.heap.size) q := fun q h => Or.inr h
  have hS : va_S (va_A (wX11 cy a o S) s.heap.size) s.heap s.heap [] := va_S.rf
  have hinX11 := (by decide +kernel : ∀ w ∈ wsX110, w ∈ wsX11_fault)
  have hf26 := hts (.fieldLink RX11 26 "PianoRounds" "text" "LPianoRounds$Text;") (by decide +kernel)
  have hf10 := hts (.fieldLink RX11 10 "PianoRounds" "now" "LPianoRounds$Competition;") (by decide +kernel)
  have hinX0 := (by decide +kernel : ∀ w ∈ wsX00, w ∈ wsX11_fault)
  have hf42 := va_Nw.use (A := ([.ref (a o)] : List Value).toArray) (U := s) (w := .fieldLinkNest "PianoRounds" 42 "PianoRounds$Competition" "works" "LPianoRounds$Works;" "PianoRounds") rfl (hG.2.1 _ (by decide +kernel))
  have hinX10 := (by decide +kernel : ∀ w ∈ wsX100, w ∈ wsX11_fault)
  have hf46 := va_Nw.use (A := ([.ref (a o)] : List Value).toArray) (U := s) (w := .fieldLinkNest "PianoRounds" 46 "PianoRounds$Works" "count" "I" "PianoRounds") rfl (hG.2.1 _ (by decide +kernel))
  have hl := lv_entry ([.ref (a o)]) (n := 1) (Nat.le_of_ble_eq_true rfl)
  rw [lg_entry_eq]
  generalize (lg_sl ([.ref (a o)]) ++ List.replicate (1 - (lg_sl ([.ref (a o)])).length) Slot.unset).toArray = ls at hl ⊢
  have hl : lv_has ls 1 [(0, .ref (a o))] := hl
  rw [DX11_fault] at h
  refine lv_aload_n hx hb dX11_fault_0 rfl (lv_at hl 0 rfl) ?_
  refine va_get (D := D) (ci := 11) (v := .ref (a (o + 268))) (C := RX11) (T := TX11) (N := 3) hx hb hts hinX11 hown hK hP 0 rfl rfl 2 (by decide) hf26 (fun _ h9 => h9) rfl dX11_fault_1 ?_
  refine lv_aload_n hx hb dX11_fault_4 rfl (lv_at hl 0 rfl) ?_
  refine va_get (D := D) (ci := 11) (v := .ref (a (o + 1))) (C := RX11) (T := TX11) (N := 3) hx hb hts hinX11 hown hK hP 0 rfl rfl 0 (by decide) hf10 (fun _ h9 => h9) rfl dX11_fault_5 ?_
  refine va_getN (D := D) (ci := 0) (v := .ref (a (o + 1 + 1))) (C := RX0) (T := TX0) (N := 14) hx hb hts hinX0 hown hK hP 1 rfl rfl 4 (by decide) hf42 (fun _ h9 => h9) rfl dX11_fault_8 ?_
  refine va_getN (D := D) (ci := 10) (v := .int (gX10_count (gX0_works (gX11_now S)))) (C := RX10) (T := TX10) (N := 4) hx hb hts hinX10 hown hK hP 2 rfl rfl 0 (by decide) hf46 (fun _ h9 => h9) rfl dX11_fault_11 ?_
  obtain ⟨x1, e2, h⟩ := bd_some h
  refine smVi (As := [.int (gX10_count (gX0_works (gX11_now S)))]) (rest := []) (ws' := (wX11 cy a o (uX11_text S x1.2))) (q0 := 0) (qX8_faultAmong l D cy a (o + 268) (gX11_text S) (gX10_count (gX0_works (gX11_now S))) (s.heap).size x1 e2) ⟨hx, hb, hml, hown, hts⟩ (cwV 1 hts gX11_fault_X8_faultAmong rfl rfl rfl (by decide +kernel) ⟨Nat.le_of_ble_eq_true rfl, Nat.le_of_ble_eq_true rfl⟩) hG hP hD hS hA (pm1 (X := ((hX11 a o S) ++ ((wX0 cy a (o + 1) (gX11_now S)) ++ (wX5 cy a (o + 54) (gX11_records S))))) (c := (wX8 cy a (o + 268) (gX11_text S))) (Y := ([] : va_W)) (show (wX11 cy a o S) = ((hX11 a o S) ++ ((wX0 cy a (o + 1) (gX11_now S)) ++ (wX5 cy a (o + 54) (gX11_records S)))) ++ ((wX8 cy a (o + 268) (gX11_text S)) ++ ([] : va_W)) from by simp only [wX11, List.append_assoc, List.nil_append, List.append_nil] <;> rfl)) (pm1 (X := ((hX11 a o S) ++ ((wX0 cy a (o + 1) (gX11_now S)) ++ (wX5 cy a (o + 54) (gX11_records S))))) (c := (wX8 cy a (o + 268) x1.2)) (Y := ([] : va_W)) (show (wX11 cy a o (uX11_text S x1.2)) = ((hX11 a o S) ++ ((wX0 cy a (o + 1) (gX11_now S)) ++ (wX5 cy a (o + 54) (gX11_records S)))) ++ ((wX8 cy a (o + 268) x1.2) ++ ([] : va_W)) from by simp only [wX11, List.append_assoc, List.nil_append, List.append_nil] <;> rfl)) rfl rfl rfl hl.1 rfl (Nat.le_of_ble_eq_true rfl) dX11_fault_14 ⟨Nat.zero_le _, Nat.zero_le _⟩ (fun H locs hP hD hS => ?_)
  obtain ⟨S3, eS4, h⟩ := lt_elim h
  have hP : va_P D vwCl (wX11 cy a o S3) H := by rw [eS4]; exact hP
  have hD : va_D (va_A (wX11 cy a o S) s.heap.size) (wX11 cy a o S3) := by rw [eS4]; exact hD
  exact W.iret (v := x1.1) hx hb hr (fun t ht hW => ⟨⟨x1.1, S3, rfl, some_in h, by rw [ht]; exact hP, hD⟩, hS.F ht⟩) hS.2.2 dX11_fault_17
set_option maxHeartbeats 4000000 in
set_option maxRecDepth 100000 in
theorem qX11_undo (l : Launch) (hl9 : l.stackTraces = false) (D : va_G) (cy : Nat → ClassId) (tt : Nat → Nat) (a : Nat → Nat) (o : Nat) (S : SX11)  (sz : Nat) (rs : Nat ⊕ (Int32 × SX11)) (h : DX11_undo S = some rs) : vx_Met l yX11_undo wsX11_undo ({ frames := 7, cells := cX rs, slots := sX rs, locals := 206 } : Room) (xP D cy tt sz [.ref (a o)] (wX11 cy a o S)) (va_Qi (fun r (u : SX11) => Sum.inr (r, u) = rs) (fun u t => mB D sz (wX11 cy a o S) (wX11 cy a o u) t) (va_A (wX11 cy a o S) sz)) (xC D sz (wX11 cy a o S) rs) (cX rs) (sX rs) (va_A (wX11 cy a o S) sz) := by
  refine vx_ofW (cc := cX11_undo) (maxL := 1) (ret := (some .int)) (by decide) rfl ?_
  intro p e s m args below meth c s₁ B hml htab hv
  obtain ⟨rfl, hsz, hP, hG, hD0, hX⟩ := hv
  have hx := B.exec
  have hb := B.bytes
  have hr := B.returns
  have hts := atoms_spec (ws := wsX11_undo) B.pre
  have hown : s.vm.findClass RX11 = some m.cls := findClass_of_methodNamed B.named
  have hlocks := B.notSynchronized
  have hK := hG.1
  subst hsz
  have hD := hD0.self (sz := s.heap.size)
  have hA : ∀ q : Nat, s.heap.size ≤ q → (va_A (wX11 cy a o S) s.heap.size) q := fun q h => Or.inr h
  have hS : va_S (va_A (wX11 cy a o S) s.heap.size) s.heap s.heap [] := va_S.rf
  have hinX11 := (by decide +kernel : ∀ w ∈ wsX110, w ∈ wsX11_undo)
  have hf19 := hts (.fieldLink RX11 19 "PianoRounds" "records" "LPianoRounds$Records;") (by decide +kernel)
  have hinX5 := (by decide +kernel : ∀ w ∈ wsX50, w ∈ wsX11_undo)
  have hf282 := va_Nw.use (A := ([.ref (a o)] : List Value).toArray) (U := s) (w := .fieldLinkNest "PianoRounds" 282 "PianoRounds$Records" "count" "I" "PianoRounds") rfl (hG.2.1 _ (by decide +kernel))
  have hf10 := hts (.fieldLink RX11 10 "PianoRounds" "now" "LPianoRounds$Competition;") (by decide +kernel)
  have hl := lv_entry ([.ref (a o)]) (n := 1) (Nat.le_of_ble_eq_true rfl)
  rw [lg_entry_eq]
  generalize (lg_sl ([.ref (a o)]) ++ List.replicate (1 - (lg_sl ([.ref (a o)])).length) Slot.unset).toArray = ls at hl ⊢
  have hl : lv_has ls 1 [(0, .ref (a o))] := hl
  rw [DX11_undo] at h
  refine lv_aload_n hx hb dX11_undo_0 rfl (lv_at hl 0 rfl) ?_
  refine va_get (D := D) (ci := 11) (v := .ref (a (o + 54))) (C := RX11) (T := TX11) (N := 3) hx hb hts hinX11 hown hK hP 0 rfl rfl 1 (by decide) hf19 (fun _ h9 => h9) rfl dX11_undo_1 ?_
  refine va_getN (D := D) (ci := 5) (v := .int (gX5_count (gX11_records S))) (C := RX5) (T := TX5) (N := 2) hx hb hts hinX5 hown hK hP 54 rfl rfl 0 (by decide) hf282 (fun _ h9 => h9) rfl dX11_undo_4 ?_
  obtain ⟨j2, hj2, h⟩ := jn_elim h
  have Jj2 : ∀ (x1 : Int32) (ls : Array Slot), j2 x1 = some rs → lv_has ls 1 [(0, .ref (a o))] → W p l e (headSpec wsX11_undo ({ frames := 7, cells := cX rs, slots := sX rs, locals := 206 } : Room)).room s m ([.ref (a o)] : List Value).toArray below meth c s.heap [] 0 0 (vx_MQ below (va_Qi (fun r (u : SX11) => Sum.inr (r, u) = rs) (fun u t => mB D s.heap.size (wX11 cy a o S) (wX11 cy a o u) t) (va_A (wX11 cy a o S) s.heap.size)) (xC D s.heap.size (wX11 cy a o S) rs) ([.ref (a o)] : List Value).toArray s (cX rs) (sX rs) (va_A (wX11 cy a o S) s.heap.size)) (F0 m 15 ls [.int x1]) := by
    intro x1 ls h hl
    rw [hj2] at h
    rcases tx_some h with ⟨k9, e9, h⟩ | ⟨x3, e4, h⟩
    · refine tcT (fun st v t q => by obtain ⟨⟨u, -, hu, -⟩, -⟩ := q; cases hu) hG hX hP hD hS hA (pm0 (wX11 cy a o S)) (fun h1 h2 => vx_runS (As := [.int x1]) (rest := []) ⟨hx, hb, hml, hown, hts⟩ (qX11_requireState l hl9 D cy tt  x1 (s.heap).size (Sum.inl k9) e9) (va_cwS 1 hts gX11_undo_X11_requireState rfl rfl rfl (by decide +kernel) ⟨Nat.le_of_ble_eq_true rfl, Nat.le_of_ble_eq_true rfl⟩) ⟨h1, h2⟩ rfl rfl hl.1 rfl (lv_room (Nat.le_of_ble_eq_true rfl)) dX11_undo_15 ⟨(by rw [← h]; exact Nat.le_refl 1), (by rw [← h]; exact Nat.le_refl 6)⟩) (fun ce q9 H locs hP hS hce hcv hcl => ?_)
      exact vx_out (fun x hx9 => (htab x hx9).elim) hlocks hce hcv hcl (fun t ht hvm => xThrow rfl h hP hD hS (by rw [ht]; exact Nat.le_refl _) (fun q _ => by rw [ht])) hS.2.2 (by rw [← h]; exact Nat.le_refl 1) (by rw [← h]; exact Nat.le_refl 6)
    refine tcNv hG hX hP hD hS hA (pm0 (wX11 cy a o S)) (fun h1 h2 => vx_runS (As := [.int x1]) (rest := []) ⟨hx, hb, hml, hown, hts⟩ (qX11_requireState l hl9 D cy tt  x1 (s.heap).size (Sum.inr x3) e4) (va_cwS 1 hts gX11_undo_X11_requireState rfl rfl rfl (by decide +kernel) ⟨Nat.le_of_ble_eq_true rfl, Nat.le_of_ble_eq_true rfl⟩) ⟨h1, h2⟩ rfl rfl hl.1 rfl (lv_room (Nat.le_of_ble_eq_true rfl)) dX11_undo_15 ⟨Nat.zero_le _, Nat.zero_le _⟩) (c2 := 0) (s2 := 0) rfl rfl (fun H locs hP hS => ?_)
    refine lv_aload_n hx hb dX11_undo_18 rfl (lv_at hl 0 rfl) ?_
    refine va_get (D := D) (ci := 11) (v := .ref (a (o + 54))) (C := RX11) (T := TX11) (N := 3) hx hb hts hinX11 hown hK hP 0 rfl rfl 1 (by decide) hf19 (fun _ h9 => h9) rfl dX11_undo_19 ?_
    refine lv_aload_n hx hb dX11_undo_22 rfl (lv_at hl 0 rfl) ?_
    refine va_get (D := D) (ci := 11) (v := .ref (a (o + 1))) (C := RX11) (T := TX11) (N := 3) hx hb hts hinX11 hown hK hP 0 rfl rfl 0 (by decide) hf10 (fun _ h9 => h9) rfl dX11_undo_23 ?_
    obtain ⟨x5, e6, h⟩ := bd_some h
    refine smVi (As := [.ref (a (o + 1))]) (rest := []) (ws' := (wX11 cy a o (uX11_records (uX11_now S x5.2.2) x5.2.1))) (q0 := 0) (qX5_restore l D cy a (o + 54) a (o + 1) (gX11_records S) (gX11_now S)  (H).size x5 e6) ⟨hx, hb, hml, hown, hts⟩ (cwV 1 hts gX11_undo_X5_restore rfl rfl rfl (by decide +kernel) ⟨Nat.le_of_ble_eq_true rfl, Nat.le_of_ble_eq_true rfl⟩) hG hP hD hS hA (pm2r (X := (hX11 a o S)) (c1 := (wX5 cy a (o + 54) (gX11_records S))) (Y := ([] : va_W)) (c2 := (wX0 cy a (o + 1) (gX11_now S))) (Z := (wX8 cy a (o + 268) (gX11_text S))) (show (wX11 cy a o S) = (hX11 a o S) ++ ((wX0 cy a (o + 1) (gX11_now S)) ++ (([] : va_W) ++ ((wX5 cy a (o + 54) (gX11_records S)) ++ (wX8 cy a (o + 268) (gX11_text S))))) from by simp only [wX11, List.append_assoc, List.nil_append, List.append_nil] <;> rfl)) (pm2r (X := (hX11 a o S)) (c1 := (wX5 cy a (o + 54) x5.2.1)) (Y := ([] : va_W)) (c2 := (wX0 cy a (o + 1) x5.2.2)) (Z := (wX8 cy a (o + 268) (gX11_text S))) (show (wX11 cy a o (uX11_records (uX11_now S x5.2.2) x5.2.1)) = (hX11 a o S) ++ ((wX0 cy a (o + 1) x5.2.2) ++ (([] : va_W) ++ ((wX5 cy a (o + 54) x5.2.1) ++ (wX8 cy a (o + 268) (gX11_text S))))) from by simp only [wX11, List.append_assoc, List.nil_append, List.append_nil] <;> rfl)) rfl rfl rfl hl.1 rfl (Nat.le_of_ble_eq_true rfl) dX11_undo_26 ⟨Nat.zero_le _, Nat.zero_le _⟩ (fun H locs hP hD hS => ?_)
    obtain ⟨S7, eS8, h⟩ := lt_elim h
    have hP : va_P D vwCl (wX11 cy a o S7) H := by rw [eS8]; exact hP
    have hD : va_D (va_A (wX11 cy a o S) s.heap.size) (wX11 cy a o S7) := by rw [eS8]; exact hD
    refine vx_ret (W.widen (k := cX rs) (n := sX rs) (Nat.zero_le _) (Nat.zero_le _) ?_)
    exact W.iret (v := x5.1) hx hb hr (fun t ht hW => ⟨⟨x5.1, S7, rfl, some_in h, by rw [ht]; exact hP, hD⟩, hS.F ht⟩) hS.2.2 dX11_undo_29
  refine lv_if_le (tgt := 14) hx hb dX11_undo_7 (by decide) (fun cc => ?_) (fun cc => ?_)
  · have h := ite_p cc h
    refine lv_iconst (v := (0 : Int32)) hx hb dX11_undo_14 (by decide) ?_
    exact Jj2 (0 : Int32) ls h (lv_sub hl [0] rfl)
  · have h := ite_n cc h
    refine lv_iconst (v := (1 : Int32)) hx hb dX11_undo_10 (by decide) ?_
    refine lv_goto (tgt := 15) hx hb dX11_undo_11 (by decide) ?_
    exact Jj2 (1 : Int32) ls h (lv_sub hl [0] rfl)
set_option maxHeartbeats 4000000 in
set_option maxRecDepth 100000 in
theorem qX11_mix (l : Launch) (D : va_G) (cy : Nat → ClassId)   (p0 : Int64) (p2 : Int32) (rs : Int64) (h : DX11_mix p0 p2 = some rs) : Met l yX11_mix wsX11_mix ({ frames := 0, cells := 0, slots := 0, locals := 0 } : Room) (va_Pc [.long p0, .int p2] (fun U => va_P D vwCl ([] : va_W) U.heap ∧ gK D cy U)) (vp_Sl (fun z => z = rs)) 0 0 (fun _ => False) := by
  refine Met.ofW (cc := cX11_mix) (maxL := 3) (ret := (some .long)) (by decide) rfl ?_
  intro p e s m args below meth c s₁ B hml hv
  obtain ⟨rfl, hP, hG⟩ := hv
  have hx := B.exec
  have hb := B.bytes
  have hr := B.returns
  have hts := atoms_spec (ws := wsX11_mix) B.pre
  have hown : s.vm.findClass RX11 = some m.cls := findClass_of_methodNamed B.named
  have hlocks := B.notSynchronized
  have hK := hG.1
  have hl := lv_entry ([.long p0, .int p2]) (n := 3) (Nat.le_of_ble_eq_true rfl)
  rw [lg_entry_eq]
  generalize (lg_sl ([.long p0, .int p2]) ++ List.replicate (3 - (lg_sl ([.long p0, .int p2])).length) Slot.unset).toArray = ls at hl ⊢
  have hl : lv_has ls 3 [(0, .long p0), (2, .int p2)] := hl
  rw [DX11_mix] at h
  refine lv_ldc2 (v := (31 : Int64)) hx hb hown (hts (.constantLong RX11 312 (31 : Int64)) (by decide +kernel)) dX11_mix_0 ?_
  refine lv_lload_n hx hb dX11_mix_3 rfl (lv_at hl 0 rfl) ?_
  refine lv_lmul hx hb dX11_mix_4 ?_
  refine lv_iload_n hx hb dX11_mix_5 rfl (lv_at hl 1 rfl) ?_
  refine lv_i2l (v := (p2).toInt64) hx hb dX11_mix_6 rfl ?_
  refine lv_ladd hx hb dX11_mix_7 ?_
  exact W.lret (v := (((31 : Int64) * p0) + (p2).toInt64)) hx hb hr (fun t ht hW => ⟨(((31 : Int64) * p0) + (p2).toInt64), rfl, some_in h, ht⟩) (fun q hq => nomatch hq) dX11_mix_8
set_option maxHeartbeats 4000000 in
set_option maxRecDepth 100000 in
theorem qX11_mixWorks (l : Launch) (D : va_G) (cy : Nat → ClassId) (a : Nat → Nat) (o : Nat) (S : SX11n) (p1 : Int64) (rs : Int64) (h : DX11_mixWorks S p1 = some rs) : Met l yX11_mixWorks wsX11_mixWorks ({ frames := 3, cells := 0, slots := 0, locals := 64 } : Room) (va_Pc [.ref (a o), .long p1] (fun U => va_P D vwCl (wX11n cy a o S) U.heap ∧ gK D cy U)) (vp_Sl (fun z => z = rs)) 0 0 (fun _ => False) := by
  refine Met.ofW (cc := cX11_mixWorks) (maxL := 7) (ret := (some .long)) (by decide) rfl ?_
  intro p e s m args below meth c s₁ B hml hv
  obtain ⟨rfl, hP, hG⟩ := hv
  have hx := B.exec
  have hb := B.bytes
  have hr := B.returns
  have hts := atoms_spec (ws := wsX11_mixWorks) B.pre
  have hown : s.vm.findClass RX11 = some m.cls := findClass_of_methodNamed B.named
  have hlocks := B.notSynchronized
  have hK := hG.1
  have hinX11 := (by decide +kernel : ∀ w ∈ wsX110, w ∈ wsX11_mixWorks)
  have hf10 := hts (.fieldLink RX11 10 "PianoRounds" "now" "LPianoRounds$Competition;") (by decide +kernel)
  have hinX0 := (by decide +kernel : ∀ w ∈ wsX00, w ∈ wsX11_mixWorks)
  have hf42 := va_Nw.use (A := ([.ref (a o), .long p1] : List Value).toArray) (U := s) (w := .fieldLinkNest "PianoRounds" 42 "PianoRounds$Competition" "works" "LPianoRounds$Works;" "PianoRounds") rfl (hG.2.1 _ (by decide +kernel))
  have hinX10 := (by decide +kernel : ∀ w ∈ wsX100, w ∈ wsX11_mixWorks)
  have hf46 := va_Nw.use (A := ([.ref (a o), .long p1] : List Value).toArray) (U := s) (w := .fieldLinkNest "PianoRounds" 46 "PianoRounds$Works" "count" "I" "PianoRounds") rfl (hG.2.1 _ (by decide +kernel))
  have hl := lv_entry ([.ref (a o), .long p1]) (n := 7) (Nat.le_of_ble_eq_true rfl)
  rw [lg_entry_eq]
  generalize (lg_sl ([.ref (a o), .long p1]) ++ List.replicate (7 - (lg_sl ([.ref (a o), .long p1])).length) Slot.unset).toArray = ls at hl ⊢
  have hl : lv_has ls 7 [(0, .ref (a o)), (1, .long p1)] := hl
  rw [DX11_mixWorks] at h
  refine lv_lload_n hx hb dX11_mixWorks_0 rfl (lv_at hl 1 rfl) ?_
  refine lv_lstore_n (lv' := [(3, .long p1), (0, .ref (a o)), (1, .long p1)]) hx hb dX11_mixWorks_1 rfl hl (by decide) rfl (fun ls hl => ?_)
  refine lv_iconst (v := (0 : Int32)) hx hb dX11_mixWorks_2 (by decide) ?_
  refine lv_istore (lv' := [(5, .int (0 : Int32)), (3, .long p1), (0, .ref (a o)), (1, .long p1)]) hx hb dX11_mixWorks_3 hl (by decide) rfl (fun ls hl => ?_)
  have L17 : ∀ (k1 : Int64 → Option (Int64)) (hk1 : ∀ (v3_2 : Int64) (ls : Array Slot), k1 v3_2 = some rs → lv_has ls 7 [(3, .long v3_2)] → W p l e (headSpec wsX11_mixWorks ({ frames := 3, cells := 0, slots := 0, locals := 64 } : Room)).room s m ([.ref (a o), .long p1] : List Value).toArray below meth c s.heap [] 0 0 (MQ below (vp_Sl (fun z => z = rs)) ([.ref (a o), .long p1] : List Value).toArray s 0 0 (fun _ => False)) (F0 m 60 ls [])) (f : Nat) (v3_4 : Int64) (v5_5 : Int32) (ls : Array Slot), DX11_mixWorks_L5 S k1 f v3_4 v5_5 = some rs → lv_has ls 7 [(0, .ref (a o)), (3, .long v3_4), (5, .int v5_5)] → W p l e (headSpec wsX11_mixWorks ({ frames := 3, cells := 0, slots := 0, locals := 64 } : Room)).room s m ([.ref (a o), .long p1] : List Value).toArray below meth c s.heap [] 0 0 (MQ below (vp_Sl (fun z => z = rs)) ([.ref (a o), .long p1] : List Value).toArray s 0 0 (fun _ => False)) (F0 m 5 ls []) := by
    intro k1 hk1 f
    induction f with
    | zero =>
      intro v3_4 v5_5 ls h hl
      rw [DX11_mixWorks_L5] at h
      cases h
    | succ f ih =>
      intro v3_4 v5_5 ls h hl
      rw [DX11_mixWorks_L5] at h
      refine lv_iload hx hb dX11_mixWorks_5 (lv_at hl 2 rfl) ?_
      refine lv_aload_n hx hb dX11_mixWorks_7 rfl (lv_at hl 0 rfl) ?_
      refine va_get (D := D) (ci := 11) (v := .ref (a (o + 1))) (C := RX11) (T := TX11) (N := 3) hx hb hts hinX11 hown hK hP 0 rfl rfl 0 (by decide) hf10 (fun _ h9 => h9) rfl dX11_mixWorks_8 ?_
      refine va_getN (D := D) (ci := 0) (v := .ref (a (o + 1 + 1))) (C := RX0) (T := TX0) (N := 14) hx hb hts hinX0 hown hK hP 1 rfl rfl 4 (by decide) hf42 (fun _ h9 => h9) rfl dX11_mixWorks_11 ?_
      refine va_getN (D := D) (ci := 10) (v := .int (gX10_count (gX0_works (gX11n_now S)))) (C := RX10) (T := TX10) (N := 4) hx hb hts hinX10 hown hK hP 2 rfl rfl 0 (by decide) hf46 (fun _ h9 => h9) rfl dX11_mixWorks_14 ?_
      refine lv_icmp_ge (tgt := 60) hx hb dX11_mixWorks_17 (by decide) (fun cc => ?_) (fun cc => ?_)
      · have h := ite_p cc h
        exact hk1 v3_4 ls h (lv_sub hl [1] rfl)
      · have h := ite_n cc h
        refine lv_iconst (v := (0 : Int32)) hx hb dX11_mixWorks_20 (by decide) ?_
        refine lv_istore (lv' := [(6, .int (0 : Int32)), (0, .ref (a o)), (3, .long v3_4), (5, .int v5_5)]) hx hb dX11_mixWorks_21 hl (by decide) rfl (fun ls hl => ?_)
        have L16 : ∀ (c5_6 : Int32) (k7 : Int64 → Option (Int64)) (hk7 : ∀ (v3_8 : Int64) (ls : Array Slot), k7 v3_8 = some rs → lv_has ls 7 [(0, .ref (a o)), (3, .long v3_8), (5, .int c5_6)] → W p l e (headSpec wsX11_mixWorks ({ frames := 3, cells := 0, slots := 0, locals := 64 } : Room)).room s m ([.ref (a o), .long p1] : List Value).toArray below meth c s.heap [] 0 0 (MQ below (vp_Sl (fun z => z = rs)) ([.ref (a o), .long p1] : List Value).toArray s 0 0 (fun _ => False)) (F0 m 54 ls [])) (f : Nat) (v3_10 : Int64) (v6_11 : Int32) (ls : Array Slot), DX11_mixWorks_L23 S c5_6 k7 f v3_10 v6_11 = some rs → lv_has ls 7 [(0, .ref (a o)), (3, .long v3_10), (5, .int c5_6), (6, .int v6_11)] → W p l e (headSpec wsX11_mixWorks ({ frames := 3, cells := 0, slots := 0, locals := 64 } : Room)).room s m ([.ref (a o), .long p1] : List Value).toArray below meth c s.heap [] 0 0 (MQ below (vp_Sl (fun z => z = rs)) ([.ref (a o), .long p1] : List Value).toArray s 0 0 (fun _ => False)) (F0 m 23 ls []) := by
          intro c5_6 k7 hk7 f
          induction f with
          | zero =>
            intro v3_10 v6_11 ls h hl
            rw [DX11_mixWorks_L23] at h
            cases h
          | succ f ih =>
            intro v3_10 v6_11 ls h hl
            rw [DX11_mixWorks_L23] at h
            refine lv_iload hx hb dX11_mixWorks_23 (lv_at hl 3 rfl) ?_
            refine lv_iconst (v := (3 : Int32)) hx hb dX11_mixWorks_25 (by decide) ?_
            refine lv_icmp_ge (tgt := 54) hx hb dX11_mixWorks_26 (by decide) (fun cc => ?_) (fun cc => ?_)
            · have h := ite_p cc h
              exact hk7 v3_10 ls h (lv_sub hl [0, 1, 2] rfl)
            · have h := ite_n cc h
              refine lv_lload_n hx hb dX11_mixWorks_29 rfl (lv_at hl 1 rfl) ?_
              refine lv_aload_n hx hb dX11_mixWorks_30 rfl (lv_at hl 0 rfl) ?_
              refine va_get (D := D) (ci := 11) (v := .ref (a (o + 1))) (C := RX11) (T := TX11) (N := 3) hx hb hts hinX11 hown hK hP 0 rfl rfl 0 (by decide) hf10 (fun _ h9 => h9) rfl dX11_mixWorks_31 ?_
              refine va_getN (D := D) (ci := 0) (v := .ref (a (o + 1 + 1))) (C := RX0) (T := TX0) (N := 14) hx hb hts hinX0 hown hK hP 1 rfl rfl 4 (by decide) hf42 (fun _ h9 => h9) rfl dX11_mixWorks_34 ?_
              refine lv_iload hx hb dX11_mixWorks_37 (lv_at hl 2 rfl) ?_
              refine lv_iload hx hb dX11_mixWorks_39 (lv_at hl 3 rfl) ?_
              obtain ⟨x12, e13, h⟩ := bd_some h
              refine pcV (As := [.int c5_6, .int v6_11]) (rest := [.long v3_10]) (q0 := 0) (qX10_fact l D cy a (o + 1 + 1) (gX0_works (gX11n_now S)) c5_6 v6_11 x12 e13) ⟨hx, hb, hml, hown, hts⟩ (cwV 2 hts gX11_mixWorks_X10_fact rfl rfl rfl (by decide +kernel) ⟨Nat.le_of_ble_eq_true rfl, Nat.le_of_ble_eq_true rfl⟩) hG (P_seg (X := ((hX11n a o S) ++ (hX0 a (o + 1) (gX11n_now S)))) (c := (wX10 cy a (o + 1 + 1) (gX0_works (gX11n_now S)))) (Y := ((wX2 cy a (o + 1 + 5) (gX0_entrants (gX11n_now S))) ++ ((rowsW (cy 2) (cy 0) a (o + 1 + 7) 4 6 (gX0_rules (gX11n_now S))) ++ ((wX4 cy a (o + 1 + 12) (gX0_programs (gX11n_now S))) ++ ((wX3 cy a (o + 1 + 14) (gX0_jury (gX11n_now S))) ++ ((wX7 cy a (o + 1 + 23) (gX0_stage (gX11n_now S))) ++ ((wX6 cy a (o + 1 + 26) (gX0_sheet (gX11n_now S))) ++ ((wX9 cy a (o + 1 + 35) (gX0_tie (gX11n_now S))) ++ ((rowsW (cy 2) (cy 0) a (o + 1 + 46) 4 12 (gX0_closedScores (gX11n_now S))) ++ (wX1 cy a (o + 1 + 51) (gX0_cut (gX11n_now S)))))))))))) hP (by simp only [wX0, wX11n, List.append_assoc, List.nil_append, List.append_nil] <;> rfl)) rfl rfl rfl hl.1 rfl (Nat.le_of_ble_eq_true rfl) dX11_mixWorks_41 ⟨Nat.zero_le _, Nat.zero_le _⟩ ?_
              obtain ⟨x14, e15, h⟩ := bd_some h
              refine pcSl (As := [.long v3_10, .int x12]) (rest := []) (qX11_mix l D cy  v3_10 x12 x14 e15) ⟨hx, hb, hml, hown, hts⟩ (va_cwS 2 hts gX11_mixWorks_X11_mix rfl rfl rfl (by decide +kernel) ⟨Nat.le_of_ble_eq_true rfl, Nat.le_of_ble_eq_true rfl⟩) hG (hP.sub [] rfl) rfl hl.1 rfl (Nat.le_of_ble_eq_true rfl) dX11_mixWorks_44 ⟨Nat.zero_le _, Nat.zero_le _⟩ ?_
              refine lv_lstore_n (lv' := [(3, .long x14), (0, .ref (a o)), (5, .int c5_6), (6, .int v6_11)]) hx hb dX11_mixWorks_47 rfl hl (by decide) rfl (fun ls hl => ?_)
              refine lv_iinc (v := (v6_11 + (1 : Int32))) (lv' := [(6, .int (v6_11 + (1 : Int32))), (3, .long x14), (0, .ref (a o)), (5, .int c5_6)]) hx hb dX11_mixWorks_48 hl (k := 3) rfl (by rfl) (by decide) rfl (fun ls hl => ?_)
              refine lv_goto (tgt := 23) hx hb dX11_mixWorks_51 (by decide) ?_
              exact ih x14 (v6_11 + (1 : Int32)) ls h (lv_sub hl [2, 1, 3, 0] rfl)
        refine L16 v5_5 _ ?_ fu v3_4 (0 : Int32) ls h (lv_sub hl [1, 2, 3, 0] rfl)
        intro v3_9 ls h hl
        refine lv_iinc (v := (v5_5 + (1 : Int32))) (lv' := [(5, .int (v5_5 + (1 : Int32))), (0, .ref (a o)), (3, .long v3_9)]) hx hb dX11_mixWorks_54 hl (k := 2) rfl (by rfl) (by decide) rfl (fun ls hl => ?_)
        refine lv_goto (tgt := 5) hx hb dX11_mixWorks_57 (by decide) ?_
        exact ih v3_9 (v5_5 + (1 : Int32)) ls h (lv_sub hl [1, 2, 0] rfl)
  refine L17  _ ?_ fu p1 (0 : Int32) ls h (lv_sub hl [2, 1, 0] rfl)
  intro v3_3 ls h hl
  refine lv_lload_n hx hb dX11_mixWorks_60 rfl (lv_at hl 0 rfl) ?_
  exact W.lret (v := v3_3) hx hb hr (fun t ht hW => ⟨v3_3, rfl, some_in h, ht⟩) (fun q hq => nomatch hq) dX11_mixWorks_61
set_option maxHeartbeats 4000000 in
set_option maxRecDepth 100000 in
theorem qX11_mixRules (l : Launch) (D : va_G) (cy : Nat → ClassId) (a : Nat → Nat) (o : Nat) (S : SX11n) (p1 : Int64) (rs : Int64) (h : DX11_mixRules S p1 = some rs) : Met l yX11_mixRules wsX11_mixRules ({ frames := 1, cells := 0, slots := 0, locals := 22 } : Room) (va_Pc [.ref (a o), .long p1] (fun U => va_P D vwCl (wX11n cy a o S) U.heap ∧ gK D cy U)) (vp_Sl (fun z => z = rs)) 0 0 (fun _ => False) := by
  refine Met.ofW (cc := cX11_mixRules) (maxL := 7) (ret := (some .long)) (by decide) rfl ?_
  intro p e s m args below meth c s₁ B hml hv
  obtain ⟨rfl, hP, hG⟩ := hv
  have hx := B.exec
  have hb := B.bytes
  have hr := B.returns
  have hts := atoms_spec (ws := wsX11_mixRules) B.pre
  have hown : s.vm.findClass RX11 = some m.cls := findClass_of_methodNamed B.named
  have hlocks := B.notSynchronized
  have hK := hG.1
  have hinX11 := (by decide +kernel : ∀ w ∈ wsX110, w ∈ wsX11_mixRules)
  have hf10 := hts (.fieldLink RX11 10 "PianoRounds" "now" "LPianoRounds$Competition;") (by decide +kernel)
  have hinX0 := (by decide +kernel : ∀ w ∈ wsX00, w ∈ wsX11_mixRules)
  have hf125 := va_Nw.use (A := ([.ref (a o), .long p1] : List Value).toArray) (U := s) (w := .fieldLinkNest "PianoRounds" 125 "PianoRounds$Competition" "rules" "[[I" "PianoRounds") rfl (hG.2.1 _ (by decide +kernel))
  have hl := lv_entry ([.ref (a o), .long p1]) (n := 7) (Nat.le_of_ble_eq_true rfl)
  rw [lg_entry_eq]
  generalize (lg_sl ([.ref (a o), .long p1]) ++ List.replicate (7 - (lg_sl ([.ref (a o), .long p1])).length) Slot.unset).toArray = ls at hl ⊢
  have hl : lv_has ls 7 [(0, .ref (a o)), (1, .long p1)] := hl
  rw [DX11_mixRules] at h
  refine lv_lload_n hx hb dX11_mixRules_0 rfl (lv_at hl 1 rfl) ?_
  refine lv_lstore_n (lv' := [(3, .long p1), (0, .ref (a o)), (1, .long p1)]) hx hb dX11_mixRules_1 rfl hl (by decide) rfl (fun ls hl => ?_)
  refine lv_iconst (v := (0 : Int32)) hx hb dX11_mixRules_2 (by decide) ?_
  refine lv_istore (lv' := [(5, .int (0 : Int32)), (3, .long p1), (0, .ref (a o)), (1, .long p1)]) hx hb dX11_mixRules_3 hl (by decide) rfl (fun ls hl => ?_)
  have L17 : ∀ (k1 : Int64 → Option (Int64)) (hk1 : ∀ (v3_2 : Int64) (ls : Array Slot), k1 v3_2 = some rs → lv_has ls 7 [(3, .long v3_2)] → W p l e (headSpec wsX11_mixRules ({ frames := 1, cells := 0, slots := 0, locals := 22 } : Room)).room s m ([.ref (a o), .long p1] : List Value).toArray below meth c s.heap [] 0 0 (MQ below (vp_Sl (fun z => z = rs)) ([.ref (a o), .long p1] : List Value).toArray s 0 0 (fun _ => False)) (F0 m 51 ls [])) (f : Nat) (v3_4 : Int64) (v5_5 : Int32) (ls : Array Slot), DX11_mixRules_L5 S k1 f v3_4 v5_5 = some rs → lv_has ls 7 [(0, .ref (a o)), (3, .long v3_4), (5, .int v5_5)] → W p l e (headSpec wsX11_mixRules ({ frames := 1, cells := 0, slots := 0, locals := 22 } : Room)).room s m ([.ref (a o), .long p1] : List Value).toArray below meth c s.heap [] 0 0 (MQ below (vp_Sl (fun z => z = rs)) ([.ref (a o), .long p1] : List Value).toArray s 0 0 (fun _ => False)) (F0 m 5 ls []) := by
    intro k1 hk1 f
    induction f with
    | zero =>
      intro v3_4 v5_5 ls h hl
      rw [DX11_mixRules_L5] at h
      cases h
    | succ f ih =>
      intro v3_4 v5_5 ls h hl
      rw [DX11_mixRules_L5] at h
      refine lv_iload hx hb dX11_mixRules_5 (lv_at hl 2 rfl) ?_
      refine lv_iconst (v := (4 : Int32)) hx hb dX11_mixRules_7 (by decide) ?_
      refine lv_icmp_ge (tgt := 51) hx hb dX11_mixRules_8 (by decide) (fun cc => ?_) (fun cc => ?_)
      · have h := ite_p cc h
        exact hk1 v3_4 ls h (lv_sub hl [1] rfl)
      · have h := ite_n cc h
        refine lv_iconst (v := (0 : Int32)) hx hb dX11_mixRules_11 (by decide) ?_
        refine lv_istore (lv' := [(6, .int (0 : Int32)), (0, .ref (a o)), (3, .long v3_4), (5, .int v5_5)]) hx hb dX11_mixRules_12 hl (by decide) rfl (fun ls hl => ?_)
        have L16 : ∀ (c5_6 : Int32) (k7 : Int64 → Option (Int64)) (hk7 : ∀ (v3_8 : Int64) (ls : Array Slot), k7 v3_8 = some rs → lv_has ls 7 [(0, .ref (a o)), (3, .long v3_8), (5, .int c5_6)] → W p l e (headSpec wsX11_mixRules ({ frames := 1, cells := 0, slots := 0, locals := 22 } : Room)).room s m ([.ref (a o), .long p1] : List Value).toArray below meth c s.heap [] 0 0 (MQ below (vp_Sl (fun z => z = rs)) ([.ref (a o), .long p1] : List Value).toArray s 0 0 (fun _ => False)) (F0 m 45 ls [])) (f : Nat) (v3_10 : Int64) (v6_11 : Int32) (ls : Array Slot), DX11_mixRules_L14 S c5_6 k7 f v3_10 v6_11 = some rs → lv_has ls 7 [(0, .ref (a o)), (3, .long v3_10), (5, .int c5_6), (6, .int v6_11)] → W p l e (headSpec wsX11_mixRules ({ frames := 1, cells := 0, slots := 0, locals := 22 } : Room)).room s m ([.ref (a o), .long p1] : List Value).toArray below meth c s.heap [] 0 0 (MQ below (vp_Sl (fun z => z = rs)) ([.ref (a o), .long p1] : List Value).toArray s 0 0 (fun _ => False)) (F0 m 14 ls []) := by
          intro c5_6 k7 hk7 f
          induction f with
          | zero =>
            intro v3_10 v6_11 ls h hl
            rw [DX11_mixRules_L14] at h
            cases h
          | succ f ih =>
            intro v3_10 v6_11 ls h hl
            rw [DX11_mixRules_L14] at h
            refine lv_iload hx hb dX11_mixRules_14 (lv_at hl 3 rfl) ?_
            refine lv_bipush (v := (6 : Int32)) hx hb dX11_mixRules_16 (by decide) ?_
            refine lv_icmp_ge (tgt := 45) hx hb dX11_mixRules_18 (by decide) (fun cc => ?_) (fun cc => ?_)
            · have h := ite_p cc h
              exact hk7 v3_10 ls h (lv_sub hl [0, 1, 2] rfl)
            · have h := ite_n cc h
              refine lv_lload_n hx hb dX11_mixRules_21 rfl (lv_at hl 1 rfl) ?_
              refine lv_aload_n hx hb dX11_mixRules_22 rfl (lv_at hl 0 rfl) ?_
              refine va_get (D := D) (ci := 11) (v := .ref (a (o + 1))) (C := RX11) (T := TX11) (N := 3) hx hb hts hinX11 hown hK hP 0 rfl rfl 0 (by decide) hf10 (fun _ h9 => h9) rfl dX11_mixRules_23 ?_
              refine va_getN (D := D) (ci := 0) (v := .ref (a (o + 1 + 7))) (C := RX0) (T := TX0) (N := 14) hx hb hts hinX0 hown hK hP 1 rfl rfl 6 (by decide) hf125 (fun _ h9 => h9) rfl dX11_mixRules_26 ?_
              refine lv_iload hx hb dX11_mixRules_29 (lv_at hl 2 rfl) ?_
              obtain ⟨g12, h⟩ := gd_some h
              refine r_aldR (n := 4) (o := o + 1 + 7) (ad := a) (j := (c5_6).toNatClampNeg) hx hb hK hP 8 2 rfl rfl (gIn_in g12) rfl dX11_mixRules_31 ?_
              refine lv_iload hx hb dX11_mixRules_32 (lv_at hl 3 rfl) ?_
              obtain ⟨g13, h⟩ := gd_some h
              refine r_ald (f := ((gX0_rules (gX11n_now S)) ((c5_6).toNatClampNeg))) (n := 6) (v := (((gX0_rules (gX11n_now S)) ((c5_6).toNatClampNeg)) ((v6_11).toNatClampNeg))) hx hb hK hP (8 + 1 + ((c5_6).toNatClampNeg)) 0 (all4 (P := fun j => (wX11n cy a o S)[8 + 1 + j]? = some (a (o + 1 + 7 + 1 + j), .inl (cy 0, 6, .inl ((gX0_rules (gX11n_now S)) j)))) rfl rfl rfl rfl _ (gIn_lt g12)) rfl (gIn_in g13) rfl dX11_mixRules_34 ?_
              obtain ⟨x14, e15, h⟩ := bd_some h
              refine pcSl (As := [.long v3_10, .int (((gX0_rules (gX11n_now S)) ((c5_6).toNatClampNeg)) ((v6_11).toNatClampNeg))]) (rest := []) (qX11_mix l D cy  v3_10 (((gX0_rules (gX11n_now S)) ((c5_6).toNatClampNeg)) ((v6_11).toNatClampNeg)) x14 e15) ⟨hx, hb, hml, hown, hts⟩ (va_cwS 2 hts gX11_mixRules_X11_mix rfl rfl rfl (by decide +kernel) ⟨Nat.le_of_ble_eq_true rfl, Nat.le_of_ble_eq_true rfl⟩) hG (hP.sub [] rfl) rfl hl.1 rfl (Nat.le_of_ble_eq_true rfl) dX11_mixRules_35 ⟨Nat.zero_le _, Nat.zero_le _⟩ ?_
              refine lv_lstore_n (lv' := [(3, .long x14), (0, .ref (a o)), (5, .int c5_6), (6, .int v6_11)]) hx hb dX11_mixRules_38 rfl hl (by decide) rfl (fun ls hl => ?_)
              refine lv_iinc (v := (v6_11 + (1 : Int32))) (lv' := [(6, .int (v6_11 + (1 : Int32))), (3, .long x14), (0, .ref (a o)), (5, .int c5_6)]) hx hb dX11_mixRules_39 hl (k := 3) rfl (by rfl) (by decide) rfl (fun ls hl => ?_)
              refine lv_goto (tgt := 14) hx hb dX11_mixRules_42 (by decide) ?_
              exact ih x14 (v6_11 + (1 : Int32)) ls h (lv_sub hl [2, 1, 3, 0] rfl)
        refine L16 v5_5 _ ?_ fu v3_4 (0 : Int32) ls h (lv_sub hl [1, 2, 3, 0] rfl)
        intro v3_9 ls h hl
        refine lv_iinc (v := (v5_5 + (1 : Int32))) (lv' := [(5, .int (v5_5 + (1 : Int32))), (0, .ref (a o)), (3, .long v3_9)]) hx hb dX11_mixRules_45 hl (k := 2) rfl (by rfl) (by decide) rfl (fun ls hl => ?_)
        refine lv_goto (tgt := 5) hx hb dX11_mixRules_48 (by decide) ?_
        exact ih v3_9 (v5_5 + (1 : Int32)) ls h (lv_sub hl [1, 2, 0] rfl)
  refine L17  _ ?_ fu p1 (0 : Int32) ls h (lv_sub hl [2, 1, 0] rfl)
  intro v3_3 ls h hl
  refine lv_lload_n hx hb dX11_mixRules_51 rfl (lv_at hl 0 rfl) ?_
  exact W.lret (v := v3_3) hx hb hr (fun t ht hW => ⟨v3_3, rfl, some_in h, ht⟩) (fun q hq => nomatch hq) dX11_mixRules_52
