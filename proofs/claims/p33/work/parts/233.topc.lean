set_option maxHeartbeats 4000000 in
set_option maxRecDepth 100000 in
theorem qX11_set (l : Launch) (hl9 : l.stackTraces = false) (D : va_G) (cy : Nat → ClassId) (tt : Nat → Nat) (a : Nat → Nat) (o : Nat) (S : SX11) (p1 : Int32) (p2 : Int32) (sz : Nat) (rs : Nat ⊕ (Int32 × SX11)) (h : DX11_set S p1 p2 = some rs) : vx_Met l yX11_set wsX11_set ({ frames := 7, cells := cX rs, slots := sX rs, locals := 206 } : Room) (xP D cy tt sz [.ref (a o), .int p1, .int p2] (wX11 cy a o S)) (va_Qi (fun r (u : SX11) => Sum.inr (r, u) = rs) (fun u t => mB D sz (wX11 cy a o S) (wX11 cy a o u) t) (va_A (wX11 cy a o S) sz)) (xC D sz (wX11 cy a o S) rs) (cX rs) (sX rs) (va_A (wX11 cy a o S) sz) := by
  refine vx_ofW (cc := cX11_set) (maxL := 4) (ret := (some .int)) (by decide) rfl ?_
  intro p e s m args below meth c s₁ B hml htab hv
  obtain ⟨rfl, hsz, hP, hG, hD0, hX⟩ := hv
  have hx := B.exec
  have hb := B.bytes
  have hr := B.returns
  have hts := atoms_spec (ws := wsX11_set) B.pre
  have hown : s.vm.findClass RX11 = some m.cls := findClass_of_methodNamed B.named
  have hlocks := B.notSynchronized
  have hK := hG.1
  subst hsz
  have hD := hD0.self (sz := s.heap.size)
  have hA : ∀ q : Nat, s.heap.size ≤ q → (va_A (wX11 cy a o S) s.heap.size) q := fun q h => Or.inr h
  have hS : va_S (va_A (wX11 cy a o S) s.heap.size) s.heap s.heap [] := va_S.rf
  have hf101 := hts (.fieldLink RX11 101 "PianoRounds" "SETTING_LOWEST" "[I") (by decide +kernel)
  have hf105 := hts (.fieldLink RX11 105 "PianoRounds" "SETTING_HIGHEST" "[I") (by decide +kernel)
  have hinX11 := (by decide +kernel : ∀ w ∈ wsX110, w ∈ wsX11_set)
  have hf19 := hts (.fieldLink RX11 19 "PianoRounds" "records" "LPianoRounds$Records;") (by decide +kernel)
  have hf10 := hts (.fieldLink RX11 10 "PianoRounds" "now" "LPianoRounds$Competition;") (by decide +kernel)
  have hinX0 := (by decide +kernel : ∀ w ∈ wsX00, w ∈ wsX11_set)
  have hf38 := va_Nw.use (A := ([.ref (a o), .int p1, .int p2] : List Value).toArray) (U := s) (w := .fieldLinkNest "PianoRounds" 38 "PianoRounds$Competition" "state" "I" "PianoRounds") rfl (hG.2.1 _ (by decide +kernel))
  have hl := lv_entry ([.ref (a o), .int p1, .int p2]) (n := 4) (Nat.le_of_ble_eq_true rfl)
  rw [lg_entry_eq]
  generalize (lg_sl ([.ref (a o), .int p1, .int p2]) ++ List.replicate (4 - (lg_sl ([.ref (a o), .int p1, .int p2])).length) Slot.unset).toArray = ls at hl ⊢
  have hl : lv_has ls 4 [(0, .ref (a o)), (1, .int p1), (2, .int p2)] := hl
  rw [DX11_set] at h
  refine lv_iload_n hx hb dX11_set_0 rfl (lv_at hl 1 rfl) ?_
  refine lv_iconst (v := (0 : Int32)) hx hb dX11_set_1 (by decide) ?_
  refine lv_iconst (v := (2 : Int32)) hx hb dX11_set_2 (by decide) ?_
  obtain ⟨x1, e2, h⟩ := bd_some h
  refine pcS (As := [.int p1, .int (0 : Int32), .int (2 : Int32)]) (rest := []) (qX11_isBetween l D cy  p1 (0 : Int32) (2 : Int32) x1 e2) ⟨hx, hb, hml, hown, hts⟩ (va_cwS 3 hts gX11_set_X11_isBetween rfl rfl rfl (by decide +kernel) ⟨Nat.le_of_ble_eq_true rfl, Nat.le_of_ble_eq_true rfl⟩) hG (hP.sub [] rfl) rfl hl.1 rfl (Nat.le_of_ble_eq_true rfl) dX11_set_3 ⟨Nat.zero_le _, Nat.zero_le _⟩ ?_
  rcases tx_some h with ⟨k9, e9, h⟩ | ⟨x3, e4, h⟩
  · refine tcT (fun st v t q => by obtain ⟨⟨u, -, hu, -⟩, -⟩ := q; cases hu) hG hX hP hD hS hA (pm0 (wX11 cy a o S)) (fun h1 h2 => vx_runS (As := [.int x1]) (rest := []) ⟨hx, hb, hml, hown, hts⟩ (qX11_requireArgument l hl9 D cy tt  x1 (s.heap).size (Sum.inl k9) e9) (va_cwS 1 hts gX11_set_X11_requireArgument rfl rfl rfl (by decide +kernel) ⟨Nat.le_of_ble_eq_true rfl, Nat.le_of_ble_eq_true rfl⟩) ⟨h1, h2⟩ rfl rfl hl.1 rfl (lv_room (Nat.le_of_ble_eq_true rfl)) dX11_set_6 ⟨(by rw [← h]; exact Nat.le_refl 1), (by rw [← h]; exact Nat.le_refl 6)⟩) (fun ce q9 H locs hP hS hce hcv hcl => ?_)
    exact vx_out (fun x hx9 => (htab x hx9).elim) hlocks hce hcv hcl (fun t ht hvm => xThrow rfl h hP hD hS (by rw [ht]; exact Nat.le_refl _) (fun q _ => by rw [ht])) hS.2.2 (by rw [← h]; exact Nat.le_refl 1) (by rw [← h]; exact Nat.le_refl 6)
  refine tcNv hG hX hP hD hS hA (pm0 (wX11 cy a o S)) (fun h1 h2 => vx_runS (As := [.int x1]) (rest := []) ⟨hx, hb, hml, hown, hts⟩ (qX11_requireArgument l hl9 D cy tt  x1 (s.heap).size (Sum.inr x3) e4) (va_cwS 1 hts gX11_set_X11_requireArgument rfl rfl rfl (by decide +kernel) ⟨Nat.le_of_ble_eq_true rfl, Nat.le_of_ble_eq_true rfl⟩) ⟨h1, h2⟩ rfl rfl hl.1 rfl (lv_room (Nat.le_of_ble_eq_true rfl)) dX11_set_6 ⟨Nat.zero_le _, Nat.zero_le _⟩) (c2 := 0) (s2 := 0) rfl rfl (fun H locs hP hS => ?_)
  refine lv_iload_n hx hb dX11_set_9 rfl (lv_at hl 2 rfl) ?_
  refine va_gets hx hb hX.2.2.1.1 hS hown hf101 (fun _ h9 => h9) dX11_set_10 ?_
  refine lv_iload_n hx hb dX11_set_13 rfl (lv_at hl 1 rfl) ?_
  obtain ⟨g5, h⟩ := gd_some h
  refine va_ti (v := .int (tab0 ((p1).toNatClampNeg))) hx hb hX.2.2.1.2 hS (gIn_in g5) rfl dX11_set_14 ?_
  refine va_gets hx hb hX.2.2.2.1.1 hS hown hf105 (fun _ h9 => h9) dX11_set_15 ?_
  refine lv_iload_n hx hb dX11_set_18 rfl (lv_at hl 1 rfl) ?_
  obtain ⟨g6, h⟩ := gd_some h
  refine va_ti (v := .int (tab1 ((p1).toNatClampNeg))) hx hb hX.2.2.2.1.2 hS (gIn_in g6) rfl dX11_set_19 ?_
  obtain ⟨x7, e8, h⟩ := bd_some h
  refine pcS (As := [.int p2, .int (tab0 ((p1).toNatClampNeg)), .int (tab1 ((p1).toNatClampNeg))]) (rest := []) (qX11_isBetween l D cy  p2 (tab0 ((p1).toNatClampNeg)) (tab1 ((p1).toNatClampNeg)) x7 e8) ⟨hx, hb, hml, hown, hts⟩ (va_cwS 3 hts gX11_set_X11_isBetween rfl rfl rfl (by decide +kernel) ⟨Nat.le_of_ble_eq_true rfl, Nat.le_of_ble_eq_true rfl⟩) hG (hP.sub [] rfl) rfl hl.1 rfl (Nat.le_of_ble_eq_true rfl) dX11_set_20 ⟨Nat.zero_le _, Nat.zero_le _⟩ ?_
  rcases tx_some h with ⟨k9, e9, h⟩ | ⟨x9, e10, h⟩
  · refine tcT (fun st v t q => by obtain ⟨⟨u, -, hu, -⟩, -⟩ := q; cases hu) hG hX hP hD hS hA (pm0 (wX11 cy a o S)) (fun h1 h2 => vx_runS (As := [.int x7]) (rest := []) ⟨hx, hb, hml, hown, hts⟩ (qX11_requireArgument l hl9 D cy tt  x7 (H).size (Sum.inl k9) e9) (va_cwS 1 hts gX11_set_X11_requireArgument rfl rfl rfl (by decide +kernel) ⟨Nat.le_of_ble_eq_true rfl, Nat.le_of_ble_eq_true rfl⟩) ⟨h1, h2⟩ rfl rfl hl.1 rfl (lv_room (Nat.le_of_ble_eq_true rfl)) dX11_set_23 ⟨(by rw [← h]; exact Nat.le_refl 1), (by rw [← h]; exact Nat.le_refl 6)⟩) (fun ce q9 H locs hP hS hce hcv hcl => ?_)
    exact vx_out (fun x hx9 => (htab x hx9).elim) hlocks hce hcv hcl (fun t ht hvm => xThrow rfl h hP hD hS (by rw [ht]; exact Nat.le_refl _) (fun q _ => by rw [ht])) hS.2.2 (by rw [← h]; exact Nat.le_refl 1) (by rw [← h]; exact Nat.le_refl 6)
  refine tcNv hG hX hP hD hS hA (pm0 (wX11 cy a o S)) (fun h1 h2 => vx_runS (As := [.int x7]) (rest := []) ⟨hx, hb, hml, hown, hts⟩ (qX11_requireArgument l hl9 D cy tt  x7 (H).size (Sum.inr x9) e10) (va_cwS 1 hts gX11_set_X11_requireArgument rfl rfl rfl (by decide +kernel) ⟨Nat.le_of_ble_eq_true rfl, Nat.le_of_ble_eq_true rfl⟩) ⟨h1, h2⟩ rfl rfl hl.1 rfl (lv_room (Nat.le_of_ble_eq_true rfl)) dX11_set_23 ⟨Nat.zero_le _, Nat.zero_le _⟩) (c2 := 0) (s2 := 0) rfl rfl (fun H locs hP hS => ?_)
  refine lv_iload_n hx hb dX11_set_26 rfl (lv_at hl 1 rfl) ?_
  refine lv_iconst (v := (2 : Int32)) hx hb dX11_set_27 (by decide) ?_
  obtain ⟨j12, hj12, h⟩ := jn_elim h
  have Jj12 : ∀ (x11 : Int32) (ls : Array Slot), j12 x11 = some rs → lv_has ls 4 [(0, .ref (a o)), (1, .int p1), (2, .int p2)] → W p l e (headSpec wsX11_set ({ frames := 7, cells := cX rs, slots := sX rs, locals := 206 } : Room)).room s m ([.ref (a o), .int p1, .int p2] : List Value).toArray below meth c H locs 0 0 (vx_MQ below (va_Qi (fun r (u : SX11) => Sum.inr (r, u) = rs) (fun u t => mB D s.heap.size (wX11 cy a o S) (wX11 cy a o u) t) (va_A (wX11 cy a o S) s.heap.size)) (xC D s.heap.size (wX11 cy a o S) rs) ([.ref (a o), .int p1, .int p2] : List Value).toArray s (cX rs) (sX rs) (va_A (wX11 cy a o S) s.heap.size)) (F0 m 46 ls [.int x11]) := by
    intro x11 ls h hl
    rw [hj12] at h
    rcases tx_some h with ⟨k9, e9, h⟩ | ⟨x13, e14, h⟩
    · refine tcT (fun st v t q => by obtain ⟨⟨u, -, hu, -⟩, -⟩ := q; cases hu) hG hX hP hD hS hA (pm0 (wX11 cy a o S)) (fun h1 h2 => vx_runS (As := [.int x11]) (rest := []) ⟨hx, hb, hml, hown, hts⟩ (qX11_requireState l hl9 D cy tt  x11 (H).size (Sum.inl k9) e9) (va_cwS 1 hts gX11_set_X11_requireState rfl rfl rfl (by decide +kernel) ⟨Nat.le_of_ble_eq_true rfl, Nat.le_of_ble_eq_true rfl⟩) ⟨h1, h2⟩ rfl rfl hl.1 rfl (lv_room (Nat.le_of_ble_eq_true rfl)) dX11_set_46 ⟨(by rw [← h]; exact Nat.le_refl 1), (by rw [← h]; exact Nat.le_refl 6)⟩) (fun ce q9 H locs hP hS hce hcv hcl => ?_)
      exact vx_out (fun x hx9 => (htab x hx9).elim) hlocks hce hcv hcl (fun t ht hvm => xThrow rfl h hP hD hS (by rw [ht]; exact Nat.le_refl _) (fun q _ => by rw [ht])) hS.2.2 (by rw [← h]; exact Nat.le_refl 1) (by rw [← h]; exact Nat.le_refl 6)
    refine tcNv hG hX hP hD hS hA (pm0 (wX11 cy a o S)) (fun h1 h2 => vx_runS (As := [.int x11]) (rest := []) ⟨hx, hb, hml, hown, hts⟩ (qX11_requireState l hl9 D cy tt  x11 (H).size (Sum.inr x13) e14) (va_cwS 1 hts gX11_set_X11_requireState rfl rfl rfl (by decide +kernel) ⟨Nat.le_of_ble_eq_true rfl, Nat.le_of_ble_eq_true rfl⟩) ⟨h1, h2⟩ rfl rfl hl.1 rfl (lv_room (Nat.le_of_ble_eq_true rfl)) dX11_set_46 ⟨Nat.zero_le _, Nat.zero_le _⟩) (c2 := 0) (s2 := 0) rfl rfl (fun H locs hP hS => ?_)
    refine lv_aload_n hx hb dX11_set_49 rfl (lv_at hl 0 rfl) ?_
    refine va_get (D := D) (ci := 11) (v := .ref (a (o + 54))) (C := RX11) (T := TX11) (N := 3) hx hb hts hinX11 hown hK hP 0 rfl rfl 1 (by decide) hf19 (fun _ h9 => h9) rfl dX11_set_50 ?_
    refine lv_aload_n hx hb dX11_set_53 rfl (lv_at hl 0 rfl) ?_
    refine va_get (D := D) (ci := 11) (v := .ref (a (o + 1))) (C := RX11) (T := TX11) (N := 3) hx hb hts hinX11 hown hK hP 0 rfl rfl 0 (by decide) hf10 (fun _ h9 => h9) rfl dX11_set_54 ?_
    obtain ⟨x15, e16, h⟩ := bd_some h
    refine smVv (As := [.ref (a (o + 1))]) (rest := []) (ws' := (wX11 cy a o (uX11_records S x15))) (q0 := 0) (qX5_keep l D cy a (o + 54) a (o + 1) (gX11_records S) (gX11_now S)  (H).size x15 e16) ⟨hx, hb, hml, hown, hts⟩ (cwV 1 hts gX11_set_X5_keep rfl rfl rfl (by decide +kernel) ⟨Nat.le_of_ble_eq_true rfl, Nat.le_of_ble_eq_true rfl⟩) hG hP hD hS hA (pm2r (X := (hX11 a o S)) (c1 := (wX5 cy a (o + 54) (gX11_records S))) (Y := ([] : va_W)) (c2 := (wX0 cy a (o + 1) (gX11_now S))) (Z := (wX8 cy a (o + 268) (gX11_text S))) (show (wX11 cy a o S) = (hX11 a o S) ++ ((wX0 cy a (o + 1) (gX11_now S)) ++ (([] : va_W) ++ ((wX5 cy a (o + 54) (gX11_records S)) ++ (wX8 cy a (o + 268) (gX11_text S))))) from by simp only [wX11, List.append_assoc, List.nil_append, List.append_nil] <;> rfl)) (pm2r (X := (hX11 a o S)) (c1 := (wX5 cy a (o + 54) x15)) (Y := ([] : va_W)) (c2 := (wX0 cy a (o + 1) (gX11_now S))) (Z := (wX8 cy a (o + 268) (gX11_text S))) (show (wX11 cy a o (uX11_records S x15)) = (hX11 a o S) ++ ((wX0 cy a (o + 1) (gX11_now S)) ++ (([] : va_W) ++ ((wX5 cy a (o + 54) x15) ++ (wX8 cy a (o + 268) (gX11_text S))))) from by simp only [wX11, List.append_assoc, List.nil_append, List.append_nil] <;> rfl)) rfl rfl rfl hl.1 rfl (Nat.le_of_ble_eq_true rfl) dX11_set_57 ⟨Nat.zero_le _, Nat.zero_le _⟩ (fun H locs hP hD hS => ?_)
    obtain ⟨S17, eS18, h⟩ := lt_elim h
    have hP : va_P D vwCl (wX11 cy a o S17) H := by rw [eS18]; exact hP
    have hD : va_D (va_A (wX11 cy a o S) s.heap.size) (wX11 cy a o S17) := by rw [eS18]; exact hD
    refine lv_aload_n hx hb dX11_set_60 rfl (lv_at hl 0 rfl) ?_
    refine va_get (D := D) (ci := 11) (v := .ref (a (o + 1))) (C := RX11) (T := TX11) (N := 3) hx hb hts hinX11 hown hK hP 0 rfl rfl 0 (by decide) hf10 (fun _ h9 => h9) rfl dX11_set_61 ?_
    refine lv_iload_n hx hb dX11_set_64 rfl (lv_at hl 1 rfl) ?_
    obtain ⟨x19, e20, h⟩ := bd_some h
    refine pcV (As := [.int p1]) (rest := []) (q0 := 0) (qX0_tell l D cy a (o + 1) (gX11_now S17) p1 x19 e20) ⟨hx, hb, hml, hown, hts⟩ (cwV 1 hts gX11_set_X0_tell rfl rfl rfl (by decide +kernel) ⟨Nat.le_of_ble_eq_true rfl, Nat.le_of_ble_eq_true rfl⟩) hG (P_seg (X := (hX11 a o S17)) (c := (wX0 cy a (o + 1) (gX11_now S17))) (Y := ((wX5 cy a (o + 54) (gX11_records S17)) ++ (wX8 cy a (o + 268) (gX11_text S17)))) hP (by simp only [wX11, List.append_assoc, List.nil_append, List.append_nil] <;> rfl)) rfl rfl rfl hl.1 rfl (Nat.le_of_ble_eq_true rfl) dX11_set_65 ⟨Nat.zero_le _, Nat.zero_le _⟩ ?_
    refine lv_istore_n (lv' := [(3, .int x19), (0, .ref (a o)), (1, .int p1), (2, .int p2)]) hx hb dX11_set_68 rfl hl (by decide) rfl (fun ls hl => ?_)
    refine lv_aload_n hx hb dX11_set_69 rfl (lv_at hl 1 rfl) ?_
    refine va_get (D := D) (ci := 11) (v := .ref (a (o + 1))) (C := RX11) (T := TX11) (N := 3) hx hb hts hinX11 hown hK hP 0 rfl rfl 0 (by decide) hf10 (fun _ h9 => h9) rfl dX11_set_70 ?_
    refine lv_iload_n hx hb dX11_set_73 rfl (lv_at hl 2 rfl) ?_
    refine lv_iload_n hx hb dX11_set_74 rfl (lv_at hl 3 rfl) ?_
    obtain ⟨x21, e22, h⟩ := bd_some h
    refine smVv (As := [.int p1, .int p2]) (rest := []) (ws' := (wX11 cy a o (uX11_now S17 x21))) (q0 := 0) (qX0_change l D cy a (o + 1) (gX11_now S17) p1 p2 (H).size x21 e22) ⟨hx, hb, hml, hown, hts⟩ (cwV 2 hts gX11_set_X0_change rfl rfl rfl (by decide +kernel) ⟨Nat.le_of_ble_eq_true rfl, Nat.le_of_ble_eq_true rfl⟩) hG hP hD hS hA (pm1 (X := (hX11 a o S17)) (c := (wX0 cy a (o + 1) (gX11_now S17))) (Y := ((wX5 cy a (o + 54) (gX11_records S17)) ++ (wX8 cy a (o + 268) (gX11_text S17)))) (show (wX11 cy a o S17) = (hX11 a o S17) ++ ((wX0 cy a (o + 1) (gX11_now S17)) ++ ((wX5 cy a (o + 54) (gX11_records S17)) ++ (wX8 cy a (o + 268) (gX11_text S17)))) from by simp only [wX11, List.append_assoc, List.nil_append, List.append_nil] <;> rfl)) (pm1 (X := (hX11 a o S17)) (c := (wX0 cy a (o + 1) x21)) (Y := ((wX5 cy a (o + 54) (gX11_records S17)) ++ (wX8 cy a (o + 268) (gX11_text S17)))) (show (wX11 cy a o (uX11_now S17 x21)) = (hX11 a o S17) ++ ((wX0 cy a (o + 1) x21) ++ ((wX5 cy a (o + 54) (gX11_records S17)) ++ (wX8 cy a (o + 268) (gX11_text S17)))) from by simp only [wX11, List.append_assoc, List.nil_append, List.append_nil] <;> rfl)) rfl rfl rfl hl.1 rfl (Nat.le_of_ble_eq_true rfl) dX11_set_75 ⟨Nat.zero_le _, Nat.zero_le _⟩ (fun H locs hP hD hS => ?_)
    obtain ⟨S23, eS24, h⟩ := lt_elim h
    have hP : va_P D vwCl (wX11 cy a o S23) H := by rw [eS24]; exact hP
    have hD : va_D (va_A (wX11 cy a o S) s.heap.size) (wX11 cy a o S23) := by rw [eS24]; exact hD
    refine lv_iload_n hx hb dX11_set_78 rfl (lv_at hl 0 rfl) ?_
    refine vx_ret (W.widen (k := cX rs) (n := sX rs) (Nat.zero_le _) (Nat.zero_le _) ?_)
    exact W.iret (v := x19) hx hb hr (fun t ht hW => ⟨⟨x19, S23, rfl, some_in h, by rw [ht]; exact hP, hD⟩, hS.F ht⟩) hS.2.2 dX11_set_79
  obtain ⟨j25, hj25, h⟩ := jn_elim h
  have Jj25 : ∀ (ls : Array Slot), j25 () = some rs → lv_has ls 4 [(0, .ref (a o)), (1, .int p1), (2, .int p2)] → W p l e (headSpec wsX11_set ({ frames := 7, cells := cX rs, slots := sX rs, locals := 206 } : Room)).room s m ([.ref (a o), .int p1, .int p2] : List Value).toArray below meth c H locs 0 0 (vx_MQ below (va_Qi (fun r (u : SX11) => Sum.inr (r, u) = rs) (fun u t => mB D s.heap.size (wX11 cy a o S) (wX11 cy a o u) t) (va_A (wX11 cy a o S) s.heap.size)) (xC D s.heap.size (wX11 cy a o S) rs) ([.ref (a o), .int p1, .int p2] : List Value).toArray s (cX rs) (sX rs) (va_A (wX11 cy a o S) s.heap.size)) (F0 m 41 ls []) := by
    intro ls h hl
    rw [hj25] at h
    refine lv_iconst (v := (1 : Int32)) hx hb dX11_set_41 (by decide) ?_
    refine lv_goto (tgt := 46) hx hb dX11_set_42 (by decide) ?_
    exact Jj12 (1 : Int32) ls h (lv_sub hl [0, 1, 2] rfl)
  refine lv_icmp_eq (tgt := 41) hx hb dX11_set_28 (by decide) (fun cc => ?_) (fun cc => ?_)
  · have h := ite_p cc h
    exact Jj25  ls h (lv_sub hl [0, 1, 2] rfl)
  · have h := ite_n cc h
    refine lv_aload_n hx hb dX11_set_31 rfl (lv_at hl 0 rfl) ?_
    refine va_get (D := D) (ci := 11) (v := .ref (a (o + 1))) (C := RX11) (T := TX11) (N := 3) hx hb hts hinX11 hown hK hP 0 rfl rfl 0 (by decide) hf10 (fun _ h9 => h9) rfl dX11_set_32 ?_
    refine va_getN (D := D) (ci := 0) (v := .int (gX0_state (gX11_now S))) (C := RX0) (T := TX0) (N := 14) hx hb hts hinX0 hown hK hP 1 rfl rfl 0 (by decide) hf38 (fun _ h9 => h9) rfl dX11_set_35 ?_
    refine lv_if_ne (tgt := 45) hx hb dX11_set_38 (by decide) (fun cc => ?_) (fun cc => ?_)
    · have h := ite_n cc h
      refine lv_iconst (v := (0 : Int32)) hx hb dX11_set_45 (by decide) ?_
      exact Jj12 (0 : Int32) ls h (lv_sub hl [0, 1, 2] rfl)
    · have h := ite_p cc h
      exact Jj25  ls h (lv_sub hl [0, 1, 2] rfl)
set_option maxHeartbeats 4000000 in
set_option maxRecDepth 100000 in
theorem qX11_requireRound (l : Launch) (hl9 : l.stackTraces = false) (D : va_G) (cy : Nat → ClassId) (tt : Nat → Nat)   (p0 : Int32) (sz : Nat) (rs : Nat ⊕ (Unit)) (h : DX11_requireRound p0 = some rs) : vx_Met l yX11_requireRound wsX11_requireRound ({ frames := 7, cells := cX rs, slots := sX rs, locals := 120 } : Room) (xP D cy tt sz [.int p0] ([] : va_W)) (va_Qv (fun (u : Unit) => Sum.inr u = rs) (fun _ t => mB D sz ([] : va_W) ([] : va_W) t) (va_A ([] : va_W) sz)) (xC D sz ([] : va_W) rs) (cX rs) (sX rs) (va_A ([] : va_W) sz) := by
  refine vx_ofW (cc := cX11_requireRound) (maxL := 1) (ret := none) (by decide) rfl ?_
  intro p e s m args below meth c s₁ B hml htab hv
  obtain ⟨rfl, hsz, hP, hG, hD0, hX⟩ := hv
  have hx := B.exec
  have hb := B.bytes
  have hr := B.returns
  have hts := atoms_spec (ws := wsX11_requireRound) B.pre
  have hown : s.vm.findClass RX11 = some m.cls := findClass_of_methodNamed B.named
  have hlocks := B.notSynchronized
  have hK := hG.1
  subst hsz
  have hD := hD0.self (sz := s.heap.size)
  have hA : ∀ q : Nat, s.heap.size ≤ q → (va_A ([] : va_W) s.heap.size) q := fun q h => Or.inr h
  have hS : va_S (va_A ([] : va_W) s.heap.size) s.heap s.heap [] := va_S.rf
  have hl := lv_entry ([.int p0]) (n := 1) (Nat.le_of_ble_eq_true rfl)
  rw [lg_entry_eq]
  generalize (lg_sl ([.int p0]) ++ List.replicate (1 - (lg_sl ([.int p0])).length) Slot.unset).toArray = ls at hl ⊢
  have hl : lv_has ls 1 [(0, .int p0)] := hl
  rw [DX11_requireRound] at h
  refine lv_iload_n hx hb dX11_requireRound_0 rfl (lv_at hl 0 rfl) ?_
  refine lv_iconst (v := (0 : Int32)) hx hb dX11_requireRound_1 (by decide) ?_
  refine lv_iconst (v := (3 : Int32)) hx hb dX11_requireRound_2 (by decide) ?_
  obtain ⟨x1, e2, h⟩ := bd_some h
  refine pcS (As := [.int p0, .int (0 : Int32), .int (3 : Int32)]) (rest := []) (qX11_isBetween l D cy  p0 (0 : Int32) (3 : Int32) x1 e2) ⟨hx, hb, hml, hown, hts⟩ (va_cwS 3 hts gX11_requireRound_X11_isBetween rfl rfl rfl (by decide +kernel) ⟨Nat.le_of_ble_eq_true rfl, Nat.le_of_ble_eq_true rfl⟩) hG (hP.sub [] rfl) rfl hl.1 rfl (Nat.le_of_ble_eq_true rfl) dX11_requireRound_3 ⟨Nat.zero_le _, Nat.zero_le _⟩ ?_
  rcases tx_some h with ⟨k9, e9, h⟩ | ⟨x3, e4, h⟩
  · refine tcT (fun st v t q => by obtain ⟨⟨u, -, hu, -⟩, -⟩ := q; cases hu) hG hX hP hD hS hA (pm0 ([] : va_W)) (fun h1 h2 => vx_runS (As := [.int x1]) (rest := []) ⟨hx, hb, hml, hown, hts⟩ (qX11_requireIndex l hl9 D cy tt  x1 (s.heap).size (Sum.inl k9) e9) (va_cwS 1 hts gX11_requireRound_X11_requireIndex rfl rfl rfl (by decide +kernel) ⟨Nat.le_of_ble_eq_true rfl, Nat.le_of_ble_eq_true rfl⟩) ⟨h1, h2⟩ rfl rfl hl.1 rfl (lv_room (Nat.le_of_ble_eq_true rfl)) dX11_requireRound_6 ⟨(by rw [← h]; exact Nat.le_refl 1), (by rw [← h]; exact Nat.le_refl 6)⟩) (fun ce q9 H locs hP hS hce hcv hcl => ?_)
    exact vx_out (fun x hx9 => (htab x hx9).elim) hlocks hce hcv hcl (fun t ht hvm => xThrow rfl h hP hD hS (by rw [ht]; exact Nat.le_refl _) (fun q _ => by rw [ht])) hS.2.2 (by rw [← h]; exact Nat.le_refl 1) (by rw [← h]; exact Nat.le_refl 6)
  refine tcNv hG hX hP hD hS hA (pm0 ([] : va_W)) (fun h1 h2 => vx_runS (As := [.int x1]) (rest := []) ⟨hx, hb, hml, hown, hts⟩ (qX11_requireIndex l hl9 D cy tt  x1 (s.heap).size (Sum.inr x3) e4) (va_cwS 1 hts gX11_requireRound_X11_requireIndex rfl rfl rfl (by decide +kernel) ⟨Nat.le_of_ble_eq_true rfl, Nat.le_of_ble_eq_true rfl⟩) ⟨h1, h2⟩ rfl rfl hl.1 rfl (lv_room (Nat.le_of_ble_eq_true rfl)) dX11_requireRound_6 ⟨Nat.zero_le _, Nat.zero_le _⟩) (c2 := 0) (s2 := 0) rfl rfl (fun H locs hP hS => ?_)
  refine vx_ret (W.widen (k := cX rs) (n := sX rs) (Nat.zero_le _) (Nat.zero_le _) ?_)
  exact W.vret hx hb hr (fun t ht hW => ⟨⟨(), rfl, some_in h, by rw [ht]; exact hP, hD⟩, hS.F ht⟩) hS.2.2 dX11_requireRound_9
set_option maxHeartbeats 4000000 in
set_option maxRecDepth 100000 in
theorem qX11_setRule (l : Launch) (hl9 : l.stackTraces = false) (D : va_G) (cy : Nat → ClassId) (tt : Nat → Nat) (a : Nat → Nat) (o : Nat) (S : SX11) (p1 : Int32) (p2 : Int32) (p3 : Int32) (sz : Nat) (rs : Nat ⊕ (Int32 × SX11)) (h : DX11_setRule S p1 p2 p3 = some rs) : vx_Met l yX11_setRule wsX11_setRule ({ frames := 8, cells := cX rs, slots := sX rs, locals := 206 } : Room) (xP D cy tt sz [.ref (a o), .int p1, .int p2, .int p3] (wX11 cy a o S)) (va_Qi (fun r (u : SX11) => Sum.inr (r, u) = rs) (fun u t => mB D sz (wX11 cy a o S) (wX11 cy a o u) t) (va_A (wX11 cy a o S) sz)) (xC D sz (wX11 cy a o S) rs) (cX rs) (sX rs) (va_A (wX11 cy a o S) sz) := by
  refine vx_ofW (cc := cX11_setRule) (maxL := 5) (ret := (some .int)) (by decide) rfl ?_
  intro p e s m args below meth c s₁ B hml htab hv
  obtain ⟨rfl, hsz, hP, hG, hD0, hX⟩ := hv
  have hx := B.exec
  have hb := B.bytes
  have hr := B.returns
  have hts := atoms_spec (ws := wsX11_setRule) B.pre
  have hown : s.vm.findClass RX11 = some m.cls := findClass_of_methodNamed B.named
  have hlocks := B.notSynchronized
  have hK := hG.1
  subst hsz
  have hD := hD0.self (sz := s.heap.size)
  have hA : ∀ q : Nat, s.heap.size ≤ q → (va_A (wX11 cy a o S) s.heap.size) q := fun q h => Or.inr h
  have hS : va_S (va_A (wX11 cy a o S) s.heap.size) s.heap s.heap [] := va_S.rf
  have hf119 := hts (.fieldLink RX11 119 "PianoRounds" "RULE_LOWEST" "[I") (by decide +kernel)
  have hf122 := hts (.fieldLink RX11 122 "PianoRounds" "RULE_HIGHEST" "[I") (by decide +kernel)
  have hinX11 := (by decide +kernel : ∀ w ∈ wsX110, w ∈ wsX11_setRule)
  have hf10 := hts (.fieldLink RX11 10 "PianoRounds" "now" "LPianoRounds$Competition;") (by decide +kernel)
  have hinX0 := (by decide +kernel : ∀ w ∈ wsX00, w ∈ wsX11_setRule)
  have hf38 := va_Nw.use (A := ([.ref (a o), .int p1, .int p2, .int p3] : List Value).toArray) (U := s) (w := .fieldLinkNest "PianoRounds" 38 "PianoRounds$Competition" "state" "I" "PianoRounds") rfl (hG.2.1 _ (by decide +kernel))
  have hf19 := hts (.fieldLink RX11 19 "PianoRounds" "records" "LPianoRounds$Records;") (by decide +kernel)
  have hf125 := va_Nw.use (A := ([.ref (a o), .int p1, .int p2, .int p3] : List Value).toArray) (U := s) (w := .fieldLinkNest "PianoRounds" 125 "PianoRounds$Competition" "rules" "[[I" "PianoRounds") rfl (hG.2.1 _ (by decide +kernel))
  have hl := lv_entry ([.ref (a o), .int p1, .int p2, .int p3]) (n := 5) (Nat.le_of_ble_eq_true rfl)
  rw [lg_entry_eq]
  generalize (lg_sl ([.ref (a o), .int p1, .int p2, .int p3]) ++ List.replicate (5 - (lg_sl ([.ref (a o), .int p1, .int p2, .int p3])).length) Slot.unset).toArray = ls at hl ⊢
  have hl : lv_has ls 5 [(0, .ref (a o)), (1, .int p1), (2, .int p2), (3, .int p3)] := hl
  rw [DX11_setRule] at h
  refine lv_iload_n hx hb dX11_setRule_0 rfl (lv_at hl 1 rfl) ?_
  rcases tx_some h with ⟨k9, e9, h⟩ | ⟨x1, e2, h⟩
  · refine tcT (fun st v t q => by obtain ⟨⟨u, -, hu, -⟩, -⟩ := q; cases hu) hG hX hP hD hS hA (pm0 (wX11 cy a o S)) (fun h1 h2 => vx_runS (As := [.int p1]) (rest := []) ⟨hx, hb, hml, hown, hts⟩ (qX11_requireRound l hl9 D cy tt  p1 (s.heap).size (Sum.inl k9) e9) (va_cwS 1 hts gX11_setRule_X11_requireRound rfl rfl rfl (by decide +kernel) ⟨Nat.le_of_ble_eq_true rfl, Nat.le_of_ble_eq_true rfl⟩) ⟨h1, h2⟩ rfl rfl hl.1 rfl (lv_room (Nat.le_of_ble_eq_true rfl)) dX11_setRule_1 ⟨(by rw [← h]; exact Nat.le_refl 1), (by rw [← h]; exact Nat.le_refl 6)⟩) (fun ce q9 H locs hP hS hce hcv hcl => ?_)
    exact vx_out (fun x hx9 => (htab x hx9).elim) hlocks hce hcv hcl (fun t ht hvm => xThrow rfl h hP hD hS (by rw [ht]; exact Nat.le_refl _) (fun q _ => by rw [ht])) hS.2.2 (by rw [← h]; exact Nat.le_refl 1) (by rw [← h]; exact Nat.le_refl 6)
  refine tcNv hG hX hP hD hS hA (pm0 (wX11 cy a o S)) (fun h1 h2 => vx_runS (As := [.int p1]) (rest := []) ⟨hx, hb, hml, hown, hts⟩ (qX11_requireRound l hl9 D cy tt  p1 (s.heap).size (Sum.inr x1) e2) (va_cwS 1 hts gX11_setRule_X11_requireRound rfl rfl rfl (by decide +kernel) ⟨Nat.le_of_ble_eq_true rfl, Nat.le_of_ble_eq_true rfl⟩) ⟨h1, h2⟩ rfl rfl hl.1 rfl (lv_room (Nat.le_of_ble_eq_true rfl)) dX11_setRule_1 ⟨Nat.zero_le _, Nat.zero_le _⟩) (c2 := 0) (s2 := 0) rfl rfl (fun H locs hP hS => ?_)
  refine lv_iload_n hx hb dX11_setRule_4 rfl (lv_at hl 2 rfl) ?_
  refine lv_iconst (v := (0 : Int32)) hx hb dX11_setRule_5 (by decide) ?_
  refine lv_iconst (v := (5 : Int32)) hx hb dX11_setRule_6 (by decide) ?_
  obtain ⟨x3, e4, h⟩ := bd_some h
  refine pcS (As := [.int p2, .int (0 : Int32), .int (5 : Int32)]) (rest := []) (qX11_isBetween l D cy  p2 (0 : Int32) (5 : Int32) x3 e4) ⟨hx, hb, hml, hown, hts⟩ (va_cwS 3 hts gX11_setRule_X11_isBetween rfl rfl rfl (by decide +kernel) ⟨Nat.le_of_ble_eq_true rfl, Nat.le_of_ble_eq_true rfl⟩) hG (hP.sub [] rfl) rfl hl.1 rfl (Nat.le_of_ble_eq_true rfl) dX11_setRule_7 ⟨Nat.zero_le _, Nat.zero_le _⟩ ?_
  rcases tx_some h with ⟨k9, e9, h⟩ | ⟨x5, e6, h⟩
  · refine tcT (fun st v t q => by obtain ⟨⟨u, -, hu, -⟩, -⟩ := q; cases hu) hG hX hP hD hS hA (pm0 (wX11 cy a o S)) (fun h1 h2 => vx_runS (As := [.int x3]) (rest := []) ⟨hx, hb, hml, hown, hts⟩ (qX11_requireArgument l hl9 D cy tt  x3 (H).size (Sum.inl k9) e9) (va_cwS 1 hts gX11_setRule_X11_requireArgument rfl rfl rfl (by decide +kernel) ⟨Nat.le_of_ble_eq_true rfl, Nat.le_of_ble_eq_true rfl⟩) ⟨h1, h2⟩ rfl rfl hl.1 rfl (lv_room (Nat.le_of_ble_eq_true rfl)) dX11_setRule_10 ⟨(by rw [← h]; exact Nat.le_refl 1), (by rw [← h]; exact Nat.le_refl 6)⟩) (fun ce q9 H locs hP hS hce hcv hcl => ?_)
    exact vx_out (fun x hx9 => (htab x hx9).elim) hlocks hce hcv hcl (fun t ht hvm => xThrow rfl h hP hD hS (by rw [ht]; exact Nat.le_refl _) (fun q _ => by rw [ht])) hS.2.2 (by rw [← h]; exact Nat.le_refl 1) (by rw [← h]; exact Nat.le_refl 6)
  refine tcNv hG hX hP hD hS hA (pm0 (wX11 cy a o S)) (fun h1 h2 => vx_runS (As := [.int x3]) (rest := []) ⟨hx, hb, hml, hown, hts⟩ (qX11_requireArgument l hl9 D cy tt  x3 (H).size (Sum.inr x5) e6) (va_cwS 1 hts gX11_setRule_X11_requireArgument rfl rfl rfl (by decide +kernel) ⟨Nat.le_of_ble_eq_true rfl, Nat.le_of_ble_eq_true rfl⟩) ⟨h1, h2⟩ rfl rfl hl.1 rfl (lv_room (Nat.le_of_ble_eq_true rfl)) dX11_setRule_10 ⟨Nat.zero_le _, Nat.zero_le _⟩) (c2 := 0) (s2 := 0) rfl rfl (fun H locs hP hS => ?_)
  refine lv_iload_n hx hb dX11_setRule_13 rfl (lv_at hl 3 rfl) ?_
  refine va_gets hx hb hX.2.2.2.2.1.1 hS hown hf119 (fun _ h9 => h9) dX11_setRule_14 ?_
  refine lv_iload_n hx hb dX11_setRule_17 rfl (lv_at hl 2 rfl) ?_
  obtain ⟨g7, h⟩ := gd_some h
  refine va_ti (v := .int (tab2 ((p2).toNatClampNeg))) hx hb hX.2.2.2.2.1.2 hS (gIn_in g7) rfl dX11_setRule_18 ?_
  refine va_gets hx hb hX.2.2.2.2.2.1.1 hS hown hf122 (fun _ h9 => h9) dX11_setRule_19 ?_
  refine lv_iload_n hx hb dX11_setRule_22 rfl (lv_at hl 2 rfl) ?_
  obtain ⟨g8, h⟩ := gd_some h
  refine va_ti (v := .int (tab3 ((p2).toNatClampNeg))) hx hb hX.2.2.2.2.2.1.2 hS (gIn_in g8) rfl dX11_setRule_23 ?_
  obtain ⟨x9, e10, h⟩ := bd_some h
  refine pcS (As := [.int p3, .int (tab2 ((p2).toNatClampNeg)), .int (tab3 ((p2).toNatClampNeg))]) (rest := []) (qX11_isBetween l D cy  p3 (tab2 ((p2).toNatClampNeg)) (tab3 ((p2).toNatClampNeg)) x9 e10) ⟨hx, hb, hml, hown, hts⟩ (va_cwS 3 hts gX11_setRule_X11_isBetween rfl rfl rfl (by decide +kernel) ⟨Nat.le_of_ble_eq_true rfl, Nat.le_of_ble_eq_true rfl⟩) hG (hP.sub [] rfl) rfl hl.1 rfl (Nat.le_of_ble_eq_true rfl) dX11_setRule_24 ⟨Nat.zero_le _, Nat.zero_le _⟩ ?_
  rcases tx_some h with ⟨k9, e9, h⟩ | ⟨x11, e12, h⟩
  · refine tcT (fun st v t q => by obtain ⟨⟨u, -, hu, -⟩, -⟩ := q; cases hu) hG hX hP hD hS hA (pm0 (wX11 cy a o S)) (fun h1 h2 => vx_runS (As := [.int x9]) (rest := []) ⟨hx, hb, hml, hown, hts⟩ (qX11_requireArgument l hl9 D cy tt  x9 (H).size (Sum.inl k9) e9) (va_cwS 1 hts gX11_setRule_X11_requireArgument rfl rfl rfl (by decide +kernel) ⟨Nat.le_of_ble_eq_true rfl, Nat.le_of_ble_eq_true rfl⟩) ⟨h1, h2⟩ rfl rfl hl.1 rfl (lv_room (Nat.le_of_ble_eq_true rfl)) dX11_setRule_27 ⟨(by rw [← h]; exact Nat.le_refl 1), (by rw [← h]; exact Nat.le_refl 6)⟩) (fun ce q9 H locs hP hS hce hcv hcl => ?_)
    exact vx_out (fun x hx9 => (htab x hx9).elim) hlocks hce hcv hcl (fun t ht hvm => xThrow rfl h hP hD hS (by rw [ht]; exact Nat.le_refl _) (fun q _ => by rw [ht])) hS.2.2 (by rw [← h]; exact Nat.le_refl 1) (by rw [← h]; exact Nat.le_refl 6)
  refine tcNv hG hX hP hD hS hA (pm0 (wX11 cy a o S)) (fun h1 h2 => vx_runS (As := [.int x9]) (rest := []) ⟨hx, hb, hml, hown, hts⟩ (qX11_requireArgument l hl9 D cy tt  x9 (H).size (Sum.inr x11) e12) (va_cwS 1 hts gX11_setRule_X11_requireArgument rfl rfl rfl (by decide +kernel) ⟨Nat.le_of_ble_eq_true rfl, Nat.le_of_ble_eq_true rfl⟩) ⟨h1, h2⟩ rfl rfl hl.1 rfl (lv_room (Nat.le_of_ble_eq_true rfl)) dX11_setRule_27 ⟨Nat.zero_le _, Nat.zero_le _⟩) (c2 := 0) (s2 := 0) rfl rfl (fun H locs hP hS => ?_)
  refine lv_aload_n hx hb dX11_setRule_30 rfl (lv_at hl 0 rfl) ?_
  refine va_get (D := D) (ci := 11) (v := .ref (a (o + 1))) (C := RX11) (T := TX11) (N := 3) hx hb hts hinX11 hown hK hP 0 rfl rfl 0 (by decide) hf10 (fun _ h9 => h9) rfl dX11_setRule_31 ?_
  refine va_getN (D := D) (ci := 0) (v := .int (gX0_state (gX11_now S))) (C := RX0) (T := TX0) (N := 14) hx hb hts hinX0 hown hK hP 1 rfl rfl 0 (by decide) hf38 (fun _ h9 => h9) rfl dX11_setRule_34 ?_
  obtain ⟨j14, hj14, h⟩ := jn_elim h
  have Jj14 : ∀ (x13 : Int32) (ls : Array Slot), j14 x13 = some rs → lv_has ls 5 [(0, .ref (a o)), (1, .int p1), (2, .int p2), (3, .int p3)] → W p l e (headSpec wsX11_setRule ({ frames := 8, cells := cX rs, slots := sX rs, locals := 206 } : Room)).room s m ([.ref (a o), .int p1, .int p2, .int p3] : List Value).toArray below meth c H locs 0 0 (vx_MQ below (va_Qi (fun r (u : SX11) => Sum.inr (r, u) = rs) (fun u t => mB D s.heap.size (wX11 cy a o S) (wX11 cy a o u) t) (va_A (wX11 cy a o S) s.heap.size)) (xC D s.heap.size (wX11 cy a o S) rs) ([.ref (a o), .int p1, .int p2, .int p3] : List Value).toArray s (cX rs) (sX rs) (va_A (wX11 cy a o S) s.heap.size)) (F0 m 45 ls [.int x13]) := by
    intro x13 ls h hl
    rw [hj14] at h
    rcases tx_some h with ⟨k9, e9, h⟩ | ⟨x15, e16, h⟩
    · refine tcT (fun st v t q => by obtain ⟨⟨u, -, hu, -⟩, -⟩ := q; cases hu) hG hX hP hD hS hA (pm0 (wX11 cy a o S)) (fun h1 h2 => vx_runS (As := [.int x13]) (rest := []) ⟨hx, hb, hml, hown, hts⟩ (qX11_requireState l hl9 D cy tt  x13 (H).size (Sum.inl k9) e9) (va_cwS 1 hts gX11_setRule_X11_requireState rfl rfl rfl (by decide +kernel) ⟨Nat.le_of_ble_eq_true rfl, Nat.le_of_ble_eq_true rfl⟩) ⟨h1, h2⟩ rfl rfl hl.1 rfl (lv_room (Nat.le_of_ble_eq_true rfl)) dX11_setRule_45 ⟨(by rw [← h]; exact Nat.le_refl 1), (by rw [← h]; exact Nat.le_refl 6)⟩) (fun ce q9 H locs hP hS hce hcv hcl => ?_)
      exact vx_out (fun x hx9 => (htab x hx9).elim) hlocks hce hcv hcl (fun t ht hvm => xThrow rfl h hP hD hS (by rw [ht]; exact Nat.le_refl _) (fun q _ => by rw [ht])) hS.2.2 (by rw [← h]; exact Nat.le_refl 1) (by rw [← h]; exact Nat.le_refl 6)
    refine tcNv hG hX hP hD hS hA (pm0 (wX11 cy a o S)) (fun h1 h2 => vx_runS (As := [.int x13]) (rest := []) ⟨hx, hb, hml, hown, hts⟩ (qX11_requireState l hl9 D cy tt  x13 (H).size (Sum.inr x15) e16) (va_cwS 1 hts gX11_setRule_X11_requireState rfl rfl rfl (by decide +kernel) ⟨Nat.le_of_ble_eq_true rfl, Nat.le_of_ble_eq_true rfl⟩) ⟨h1, h2⟩ rfl rfl hl.1 rfl (lv_room (Nat.le_of_ble_eq_true rfl)) dX11_setRule_45 ⟨Nat.zero_le _, Nat.zero_le _⟩) (c2 := 0) (s2 := 0) rfl rfl (fun H locs hP hS => ?_)
    refine lv_aload_n hx hb dX11_setRule_48 rfl (lv_at hl 0 rfl) ?_
    refine va_get (D := D) (ci := 11) (v := .ref (a (o + 54))) (C := RX11) (T := TX11) (N := 3) hx hb hts hinX11 hown hK hP 0 rfl rfl 1 (by decide) hf19 (fun _ h9 => h9) rfl dX11_setRule_49 ?_
    refine lv_aload_n hx hb dX11_setRule_52 rfl (lv_at hl 0 rfl) ?_
    refine va_get (D := D) (ci := 11) (v := .ref (a (o + 1))) (C := RX11) (T := TX11) (N := 3) hx hb hts hinX11 hown hK hP 0 rfl rfl 0 (by decide) hf10 (fun _ h9 => h9) rfl dX11_setRule_53 ?_
    obtain ⟨x17, e18, h⟩ := bd_some h
    refine smVv (As := [.ref (a (o + 1))]) (rest := []) (ws' := (wX11 cy a o (uX11_records S x17))) (q0 := 0) (qX5_keep l D cy a (o + 54) a (o + 1) (gX11_records S) (gX11_now S)  (H).size x17 e18) ⟨hx, hb, hml, hown, hts⟩ (cwV 1 hts gX11_setRule_X5_keep rfl rfl rfl (by decide +kernel) ⟨Nat.le_of_ble_eq_true rfl, Nat.le_of_ble_eq_true rfl⟩) hG hP hD hS hA (pm2r (X := (hX11 a o S)) (c1 := (wX5 cy a (o + 54) (gX11_records S))) (Y := ([] : va_W)) (c2 := (wX0 cy a (o + 1) (gX11_now S))) (Z := (wX8 cy a (o + 268) (gX11_text S))) (show (wX11 cy a o S) = (hX11 a o S) ++ ((wX0 cy a (o + 1) (gX11_now S)) ++ (([] : va_W) ++ ((wX5 cy a (o + 54) (gX11_records S)) ++ (wX8 cy a (o + 268) (gX11_text S))))) from by simp only [wX11, List.append_assoc, List.nil_append, List.append_nil] <;> rfl)) (pm2r (X := (hX11 a o S)) (c1 := (wX5 cy a (o + 54) x17)) (Y := ([] : va_W)) (c2 := (wX0 cy a (o + 1) (gX11_now S))) (Z := (wX8 cy a (o + 268) (gX11_text S))) (show (wX11 cy a o (uX11_records S x17)) = (hX11 a o S) ++ ((wX0 cy a (o + 1) (gX11_now S)) ++ (([] : va_W) ++ ((wX5 cy a (o + 54) x17) ++ (wX8 cy a (o + 268) (gX11_text S))))) from by simp only [wX11, List.append_assoc, List.nil_append, List.append_nil] <;> rfl)) rfl rfl rfl hl.1 rfl (Nat.le_of_ble_eq_true rfl) dX11_setRule_56 ⟨Nat.zero_le _, Nat.zero_le _⟩ (fun H locs hP hD hS => ?_)
    obtain ⟨S19, eS20, h⟩ := lt_elim h
    have hP : va_P D vwCl (wX11 cy a o S19) H := by rw [eS20]; exact hP
    have hD : va_D (va_A (wX11 cy a o S) s.heap.size) (wX11 cy a o S19) := by rw [eS20]; exact hD
    refine lv_aload_n hx hb dX11_setRule_59 rfl (lv_at hl 0 rfl) ?_
    refine va_get (D := D) (ci := 11) (v := .ref (a (o + 1))) (C := RX11) (T := TX11) (N := 3) hx hb hts hinX11 hown hK hP 0 rfl rfl 0 (by decide) hf10 (fun _ h9 => h9) rfl dX11_setRule_60 ?_
    refine va_getN (D := D) (ci := 0) (v := .ref (a (o + 1 + 7))) (C := RX0) (T := TX0) (N := 14) hx hb hts hinX0 hown hK hP 1 rfl rfl 6 (by decide) hf125 (fun _ h9 => h9) rfl dX11_setRule_63 ?_
    refine lv_iload_n hx hb dX11_setRule_66 rfl (lv_at hl 1 rfl) ?_
    obtain ⟨g21, h⟩ := gd_some h
    refine r_aldR (n := 4) (o := o + 1 + 7) (ad := a) (j := (p1).toNatClampNeg) hx hb hK hP 8 2 rfl rfl (gIn_in g21) rfl dX11_setRule_67 ?_
    refine lv_iload_n hx hb dX11_setRule_68 rfl (lv_at hl 2 rfl) ?_
    obtain ⟨g22, h⟩ := gd_some h
    refine r_ald (f := ((gX0_rules (gX11_now S19)) ((p1).toNatClampNeg))) (n := 6) (v := (((gX0_rules (gX11_now S19)) ((p1).toNatClampNeg)) ((p2).toNatClampNeg))) hx hb hK hP (8 + 1 + ((p1).toNatClampNeg)) 0 (all4 (P := fun j => (wX11 cy a o S19)[8 + 1 + j]? = some (a (o + 1 + 7 + 1 + j), .inl (cy 0, 6, .inl ((gX0_rules (gX11_now S19)) j)))) rfl rfl rfl rfl _ (gIn_lt g21)) rfl (gIn_in g22) rfl dX11_setRule_69 ?_
    refine lv_istore (lv' := [(4, .int (((gX0_rules (gX11_now S19)) ((p1).toNatClampNeg)) ((p2).toNatClampNeg))), (0, .ref (a o)), (1, .int p1), (2, .int p2), (3, .int p3)]) hx hb dX11_setRule_70 hl (by decide) rfl (fun ls hl => ?_)
    refine lv_aload_n hx hb dX11_setRule_72 rfl (lv_at hl 1 rfl) ?_
    refine va_get (D := D) (ci := 11) (v := .ref (a (o + 1))) (C := RX11) (T := TX11) (N := 3) hx hb hts hinX11 hown hK hP 0 rfl rfl 0 (by decide) hf10 (fun _ h9 => h9) rfl dX11_setRule_73 ?_
    refine va_getN (D := D) (ci := 0) (v := .ref (a (o + 1 + 7))) (C := RX0) (T := TX0) (N := 14) hx hb hts hinX0 hown hK hP 1 rfl rfl 6 (by decide) hf125 (fun _ h9 => h9) rfl dX11_setRule_76 ?_
    refine lv_iload_n hx hb dX11_setRule_79 rfl (lv_at hl 2 rfl) ?_
    obtain ⟨g23, h⟩ := gd_some h
    refine r_aldR (n := 4) (o := o + 1 + 7) (ad := a) (j := (p1).toNatClampNeg) hx hb hK hP 8 2 rfl rfl (gIn_in g23) rfl dX11_setRule_80 ?_
    refine lv_iload_n hx hb dX11_setRule_81 rfl (lv_at hl 3 rfl) ?_
    refine lv_iload_n hx hb dX11_setRule_82 rfl (lv_at hl 4 rfl) ?_
    obtain ⟨g24, h⟩ := gd_some h
    refine r_ast (f := ((gX0_rules (gX11_now S19)) ((p1).toNatClampNeg))) (f' := (upd ((gX0_rules (gX11_now S19)) ((p1).toNatClampNeg)) ((p2).toNatClampNeg) p3)) (n := 6) (ws' := (wX11 cy a o (uX11_now S19 (uX0_rules (gX11_now S19) (upd2 (gX0_rules (gX11_now S19)) ((p1).toNatClampNeg) (upd ((gX0_rules (gX11_now S19)) ((p1).toNatClampNeg)) ((p2).toNatClampNeg) p3)))))) hx hb hK hP hD hS (8 + 1 + ((p1).toNatClampNeg)) 0 (all4 (P := fun j => (wX11 cy a o S19)[8 + 1 + j]? = some (a (o + 1 + 7 + 1 + j), .inl (cy 0, 6, .inl ((gX0_rules (gX11_now S19)) j)))) rfl rfl rfl rfl _ (gIn_lt g23)) rfl (gIn_in g24) rfl (all4 (P := fun j => (wX11 cy a o S19).set (8 + 1 + j) (a (o + 1 + 7 + 1 + j), .inl (cy 0, 6, .inl (upd ((gX0_rules (gX11_now S19)) j) ((p2).toNatClampNeg) p3))) = (wX11 cy a o (uX11_now S19 (uX0_rules (gX11_now S19) (upd2 (gX0_rules (gX11_now S19)) j (upd ((gX0_rules (gX11_now S19)) j) ((p2).toNatClampNeg) p3)))))) rfl rfl rfl rfl _ (gIn_lt g23)) dX11_setRule_83 (fun H locs hP hD hS => ?_)
    obtain ⟨S25, eS26, h⟩ := lt_elim h
    have hP : va_P D vwCl (wX11 cy a o S25) H := by rw [eS26]; exact hP
    have hD : va_D (va_A (wX11 cy a o S) s.heap.size) (wX11 cy a o S25) := by rw [eS26]; exact hD
    refine lv_iload hx hb dX11_setRule_84 (lv_at hl 0 rfl) ?_
    refine vx_ret (W.widen (k := cX rs) (n := sX rs) (Nat.zero_le _) (Nat.zero_le _) ?_)
    exact W.iret (v := (((gX0_rules (gX11_now S19)) ((p1).toNatClampNeg)) ((p2).toNatClampNeg))) hx hb hr (fun t ht hW => ⟨⟨(((gX0_rules (gX11_now S19)) ((p1).toNatClampNeg)) ((p2).toNatClampNeg)), S25, rfl, some_in h, by rw [ht]; exact hP, hD⟩, hS.F ht⟩) hS.2.2 dX11_setRule_86
  refine lv_if_ne (tgt := 44) hx hb dX11_setRule_37 (by decide) (fun cc => ?_) (fun cc => ?_)
  · have h := ite_n cc h
    refine lv_iconst (v := (0 : Int32)) hx hb dX11_setRule_44 (by decide) ?_
    exact Jj14 (0 : Int32) ls h (lv_sub hl [0, 1, 2, 3] rfl)
  · have h := ite_p cc h
    refine lv_iconst (v := (1 : Int32)) hx hb dX11_setRule_40 (by decide) ?_
    refine lv_goto (tgt := 45) hx hb dX11_setRule_41 (by decide) ?_
    exact Jj14 (1 : Int32) ls h (lv_sub hl [0, 1, 2, 3] rfl)
set_option maxHeartbeats 4000000 in
set_option maxRecDepth 100000 in
theorem qX11_rule (l : Launch) (hl9 : l.stackTraces = false) (D : va_G) (cy : Nat → ClassId) (tt : Nat → Nat) (a : Nat → Nat) (o : Nat) (S : SX11n) (p1 : Int32) (p2 : Int32) (sz : Nat) (rs : Nat ⊕ (Int32)) (h : DX11_rule S p1 p2 = some rs) : vx_Met l yX11_rule wsX11_rule ({ frames := 8, cells := cX rs, slots := sX rs, locals := 140 } : Room) (xP D cy tt sz [.ref (a o), .int p1, .int p2] (wX11n cy a o S)) (va_Qi (fun r (_ : Unit) => Sum.inr r = rs) (fun _ t => mB D sz (wX11n cy a o S) (wX11n cy a o S) t) (va_A (wX11n cy a o S) sz)) (xC D sz (wX11n cy a o S) rs) (cX rs) (sX rs) (va_A (wX11n cy a o S) sz) := by
  refine vx_ofW (cc := cX11_rule) (maxL := 3) (ret := (some .int)) (by decide) rfl ?_
  intro p e s m args below meth c s₁ B hml htab hv
  obtain ⟨rfl, hsz, hP, hG, hD0, hX⟩ := hv
  have hx := B.exec
  have hb := B.bytes
  have hr := B.returns
  have hts := atoms_spec (ws := wsX11_rule) B.pre
  have hown : s.vm.findClass RX11 = some m.cls := findClass_of_methodNamed B.named
  have hlocks := B.notSynchronized
  have hK := hG.1
  subst hsz
  have hD := hD0.self (sz := s.heap.size)
  have hA : ∀ q : Nat, s.heap.size ≤ q → (va_A (wX11n cy a o S) s.heap.size) q := fun q h => Or.inr h
  have hS : va_S (va_A (wX11n cy a o S) s.heap.size) s.heap s.heap [] := va_S.rf
  have hinX11 := (by decide +kernel : ∀ w ∈ wsX110, w ∈ wsX11_rule)
  have hf10 := hts (.fieldLink RX11 10 "PianoRounds" "now" "LPianoRounds$Competition;") (by decide +kernel)
  have hinX0 := (by decide +kernel : ∀ w ∈ wsX00, w ∈ wsX11_rule)
  have hf125 := va_Nw.use (A := ([.ref (a o), .int p1, .int p2] : List Value).toArray) (U := s) (w := .fieldLinkNest "PianoRounds" 125 "PianoRounds$Competition" "rules" "[[I" "PianoRounds") rfl (hG.2.1 _ (by decide +kernel))
  have hl := lv_entry ([.ref (a o), .int p1, .int p2]) (n := 3) (Nat.le_of_ble_eq_true rfl)
  rw [lg_entry_eq]
  generalize (lg_sl ([.ref (a o), .int p1, .int p2]) ++ List.replicate (3 - (lg_sl ([.ref (a o), .int p1, .int p2])).length) Slot.unset).toArray = ls at hl ⊢
  have hl : lv_has ls 3 [(0, .ref (a o)), (1, .int p1), (2, .int p2)] := hl
  rw [DX11_rule] at h
  refine lv_iload_n hx hb dX11_rule_0 rfl (lv_at hl 1 rfl) ?_
  rcases tx_some h with ⟨k9, e9, h⟩ | ⟨x1, e2, h⟩
  · refine tcT (fun st v t q => by obtain ⟨⟨u, -, hu, -⟩, -⟩ := q; cases hu) hG hX hP hD hS hA (pm0 (wX11n cy a o S)) (fun h1 h2 => vx_runS (As := [.int p1]) (rest := []) ⟨hx, hb, hml, hown, hts⟩ (qX11_requireRound l hl9 D cy tt  p1 (s.heap).size (Sum.inl k9) e9) (va_cwS 1 hts gX11_rule_X11_requireRound rfl rfl rfl (by decide +kernel) ⟨Nat.le_of_ble_eq_true rfl, Nat.le_of_ble_eq_true rfl⟩) ⟨h1, h2⟩ rfl rfl hl.1 rfl (lv_room (Nat.le_of_ble_eq_true rfl)) dX11_rule_1 ⟨(by rw [← h]; exact Nat.le_refl 1), (by rw [← h]; exact Nat.le_refl 6)⟩) (fun ce q9 H locs hP hS hce hcv hcl => ?_)
    exact vx_out (fun x hx9 => (htab x hx9).elim) hlocks hce hcv hcl (fun t ht hvm => xThrow rfl h hP hD hS (by rw [ht]; exact Nat.le_refl _) (fun q _ => by rw [ht])) hS.2.2 (by rw [← h]; exact Nat.le_refl 1) (by rw [← h]; exact Nat.le_refl 6)
  refine tcNv hG hX hP hD hS hA (pm0 (wX11n cy a o S)) (fun h1 h2 => vx_runS (As := [.int p1]) (rest := []) ⟨hx, hb, hml, hown, hts⟩ (qX11_requireRound l hl9 D cy tt  p1 (s.heap).size (Sum.inr x1) e2) (va_cwS 1 hts gX11_rule_X11_requireRound rfl rfl rfl (by decide +kernel) ⟨Nat.le_of_ble_eq_true rfl, Nat.le_of_ble_eq_true rfl⟩) ⟨h1, h2⟩ rfl rfl hl.1 rfl (lv_room (Nat.le_of_ble_eq_true rfl)) dX11_rule_1 ⟨Nat.zero_le _, Nat.zero_le _⟩) (c2 := 0) (s2 := 0) rfl rfl (fun H locs hP hS => ?_)
  refine lv_iload_n hx hb dX11_rule_4 rfl (lv_at hl 2 rfl) ?_
  refine lv_iconst (v := (0 : Int32)) hx hb dX11_rule_5 (by decide) ?_
  refine lv_iconst (v := (5 : Int32)) hx hb dX11_rule_6 (by decide) ?_
  obtain ⟨x3, e4, h⟩ := bd_some h
  refine pcS (As := [.int p2, .int (0 : Int32), .int (5 : Int32)]) (rest := []) (qX11_isBetween l D cy  p2 (0 : Int32) (5 : Int32) x3 e4) ⟨hx, hb, hml, hown, hts⟩ (va_cwS 3 hts gX11_rule_X11_isBetween rfl rfl rfl (by decide +kernel) ⟨Nat.le_of_ble_eq_true rfl, Nat.le_of_ble_eq_true rfl⟩) hG (hP.sub [] rfl) rfl hl.1 rfl (Nat.le_of_ble_eq_true rfl) dX11_rule_7 ⟨Nat.zero_le _, Nat.zero_le _⟩ ?_
  rcases tx_some h with ⟨k9, e9, h⟩ | ⟨x5, e6, h⟩
  · refine tcT (fun st v t q => by obtain ⟨⟨u, -, hu, -⟩, -⟩ := q; cases hu) hG hX hP hD hS hA (pm0 (wX11n cy a o S)) (fun h1 h2 => vx_runS (As := [.int x3]) (rest := []) ⟨hx, hb, hml, hown, hts⟩ (qX11_requireArgument l hl9 D cy tt  x3 (H).size (Sum.inl k9) e9) (va_cwS 1 hts gX11_rule_X11_requireArgument rfl rfl rfl (by decide +kernel) ⟨Nat.le_of_ble_eq_true rfl, Nat.le_of_ble_eq_true rfl⟩) ⟨h1, h2⟩ rfl rfl hl.1 rfl (lv_room (Nat.le_of_ble_eq_true rfl)) dX11_rule_10 ⟨(by rw [← h]; exact Nat.le_refl 1), (by rw [← h]; exact Nat.le_refl 6)⟩) (fun ce q9 H locs hP hS hce hcv hcl => ?_)
    exact vx_out (fun x hx9 => (htab x hx9).elim) hlocks hce hcv hcl (fun t ht hvm => xThrow rfl h hP hD hS (by rw [ht]; exact Nat.le_refl _) (fun q _ => by rw [ht])) hS.2.2 (by rw [← h]; exact Nat.le_refl 1) (by rw [← h]; exact Nat.le_refl 6)
  refine tcNv hG hX hP hD hS hA (pm0 (wX11n cy a o S)) (fun h1 h2 => vx_runS (As := [.int x3]) (rest := []) ⟨hx, hb, hml, hown, hts⟩ (qX11_requireArgument l hl9 D cy tt  x3 (H).size (Sum.inr x5) e6) (va_cwS 1 hts gX11_rule_X11_requireArgument rfl rfl rfl (by decide +kernel) ⟨Nat.le_of_ble_eq_true rfl, Nat.le_of_ble_eq_true rfl⟩) ⟨h1, h2⟩ rfl rfl hl.1 rfl (lv_room (Nat.le_of_ble_eq_true rfl)) dX11_rule_10 ⟨Nat.zero_le _, Nat.zero_le _⟩) (c2 := 0) (s2 := 0) rfl rfl (fun H locs hP hS => ?_)
  refine lv_aload_n hx hb dX11_rule_13 rfl (lv_at hl 0 rfl) ?_
  refine va_get (D := D) (ci := 11) (v := .ref (a (o + 1))) (C := RX11) (T := TX11) (N := 3) hx hb hts hinX11 hown hK hP 0 rfl rfl 0 (by decide) hf10 (fun _ h9 => h9) rfl dX11_rule_14 ?_
  refine va_getN (D := D) (ci := 0) (v := .ref (a (o + 1 + 7))) (C := RX0) (T := TX0) (N := 14) hx hb hts hinX0 hown hK hP 1 rfl rfl 6 (by decide) hf125 (fun _ h9 => h9) rfl dX11_rule_17 ?_
  refine lv_iload_n hx hb dX11_rule_20 rfl (lv_at hl 1 rfl) ?_
  obtain ⟨g7, h⟩ := gd_some h
  refine r_aldR (n := 4) (o := o + 1 + 7) (ad := a) (j := (p1).toNatClampNeg) hx hb hK hP 8 2 rfl rfl (gIn_in g7) rfl dX11_rule_21 ?_
  refine lv_iload_n hx hb dX11_rule_22 rfl (lv_at hl 2 rfl) ?_
  obtain ⟨g8, h⟩ := gd_some h
  refine r_ald (f := ((gX0_rules (gX11n_now S)) ((p1).toNatClampNeg))) (n := 6) (v := (((gX0_rules (gX11n_now S)) ((p1).toNatClampNeg)) ((p2).toNatClampNeg))) hx hb hK hP (8 + 1 + ((p1).toNatClampNeg)) 0 (all4 (P := fun j => (wX11n cy a o S)[8 + 1 + j]? = some (a (o + 1 + 7 + 1 + j), .inl (cy 0, 6, .inl ((gX0_rules (gX11n_now S)) j)))) rfl rfl rfl rfl _ (gIn_lt g7)) rfl (gIn_in g8) rfl dX11_rule_23 ?_
  refine vx_ret (W.widen (k := cX rs) (n := sX rs) (Nat.zero_le _) (Nat.zero_le _) ?_)
  exact W.iret (v := (((gX0_rules (gX11n_now S)) ((p1).toNatClampNeg)) ((p2).toNatClampNeg))) hx hb hr (fun t ht hW => ⟨⟨(((gX0_rules (gX11n_now S)) ((p1).toNatClampNeg)) ((p2).toNatClampNeg)), (), rfl, some_in h, by rw [ht]; exact hP, hD⟩, hS.F ht⟩) hS.2.2 dX11_rule_24
set_option maxHeartbeats 4000000 in
set_option maxRecDepth 100000 in
theorem qX11_requireEntrantAndRound (l : Launch) (hl9 : l.stackTraces = false) (D : va_G) (cy : Nat → ClassId) (tt : Nat → Nat) (a : Nat → Nat) (o : Nat) (S : SX11n) (p1 : Int32) (p2 : Int32) (sz : Nat) (rs : Nat ⊕ (Unit)) (h : DX11_requireEntrantAndRound S p1 p2 = some rs) : vx_Met l yX11_requireEntrantAndRound wsX11_requireEntrantAndRound ({ frames := 8, cells := cX rs, slots := sX rs, locals := 141 } : Room) (xP D cy tt sz [.ref (a o), .int p1, .int p2] (wX11n cy a o S)) (va_Qv (fun (u : Unit) => Sum.inr u = rs) (fun _ t => mB D sz (wX11n cy a o S) (wX11n cy a o S) t) (va_A (wX11n cy a o S) sz)) (xC D sz (wX11n cy a o S) rs) (cX rs) (sX rs) (va_A (wX11n cy a o S) sz) := by
  refine vx_ofW (cc := cX11_requireEntrantAndRound) (maxL := 3) (ret := none) (by decide) rfl ?_
  intro p e s m args below meth c s₁ B hml htab hv
  obtain ⟨rfl, hsz, hP, hG, hD0, hX⟩ := hv
  have hx := B.exec
  have hb := B.bytes
  have hr := B.returns
  have hts := atoms_spec (ws := wsX11_requireEntrantAndRound) B.pre
  have hown : s.vm.findClass RX11 = some m.cls := findClass_of_methodNamed B.named
  have hlocks := B.notSynchronized
  have hK := hG.1
  subst hsz
  have hD := hD0.self (sz := s.heap.size)
  have hA : ∀ q : Nat, s.heap.size ≤ q → (va_A (wX11n cy a o S) s.heap.size) q := fun q h => Or.inr h
  have hS : va_S (va_A (wX11n cy a o S) s.heap.size) s.heap s.heap [] := va_S.rf
  have hl := lv_entry ([.ref (a o), .int p1, .int p2]) (n := 3) (Nat.le_of_ble_eq_true rfl)
  rw [lg_entry_eq]
  generalize (lg_sl ([.ref (a o), .int p1, .int p2]) ++ List.replicate (3 - (lg_sl ([.ref (a o), .int p1, .int p2])).length) Slot.unset).toArray = ls at hl ⊢
  have hl : lv_has ls 3 [(0, .ref (a o)), (1, .int p1), (2, .int p2)] := hl
  rw [DX11_requireEntrantAndRound] at h
  refine lv_aload_n hx hb dX11_requireEntrantAndRound_0 rfl (lv_at hl 0 rfl) ?_
  refine lv_iload_n hx hb dX11_requireEntrantAndRound_1 rfl (lv_at hl 1 rfl) ?_
  rcases tx_some h with ⟨k9, e9, h⟩ | ⟨x1, e2, h⟩
  · refine tcT (fun st v t q => by obtain ⟨⟨u, -, hu, -⟩, -⟩ := q; cases hu) hG hX hP hD hS hA (pm1 (X := ([] : va_W)) (c := (wX11n cy a o S)) (Y := ([] : va_W)) (show (wX11n cy a o S) = ([] : va_W) ++ ((wX11n cy a o S) ++ ([] : va_W)) from by simp only [List.append_assoc, List.nil_append, List.append_nil] <;> rfl)) (fun h1 h2 => vx_runV (As := [.int p1]) (rest := []) ⟨hx, hb, hml, hown, hts⟩ (qX11_requireEntrant l hl9 D cy tt a o S p1 (s.heap).size (Sum.inl k9) e9) (cwV 1 hts gX11_requireEntrantAndRound_X11_requireEntrant rfl rfl rfl (by decide +kernel) ⟨Nat.le_of_ble_eq_true rfl, Nat.le_of_ble_eq_true rfl⟩) ⟨h1, va_recv hK hP (ci := 11) (q0 := 0) rfl rfl, h2⟩ rfl rfl hl.1 rfl (lv_room (Nat.le_of_ble_eq_true rfl)) dX11_requireEntrantAndRound_2 ⟨(by rw [← h]; exact Nat.le_refl 1), (by rw [← h]; exact Nat.le_refl 6)⟩) (fun ce q9 H locs hP hS hce hcv hcl => ?_)
    exact vx_out (fun x hx9 => (htab x hx9).elim) hlocks hce hcv hcl (fun t ht hvm => xThrow rfl h hP hD hS (by rw [ht]; exact Nat.le_refl _) (fun q _ => by rw [ht])) hS.2.2 (by rw [← h]; exact Nat.le_refl 1) (by rw [← h]; exact Nat.le_refl 6)
  refine tcNv hG hX hP hD hS hA (pm1 (X := ([] : va_W)) (c := (wX11n cy a o S)) (Y := ([] : va_W)) (show (wX11n cy a o S) = ([] : va_W) ++ ((wX11n cy a o S) ++ ([] : va_W)) from by simp only [List.append_assoc, List.nil_append, List.append_nil] <;> rfl)) (fun h1 h2 => vx_runV (As := [.int p1]) (rest := []) ⟨hx, hb, hml, hown, hts⟩ (qX11_requireEntrant l hl9 D cy tt a o S p1 (s.heap).size (Sum.inr x1) e2) (cwV 1 hts gX11_requireEntrantAndRound_X11_requireEntrant rfl rfl rfl (by decide +kernel) ⟨Nat.le_of_ble_eq_true rfl, Nat.le_of_ble_eq_true rfl⟩) ⟨h1, va_recv hK hP (ci := 11) (q0 := 0) rfl rfl, h2⟩ rfl rfl hl.1 rfl (lv_room (Nat.le_of_ble_eq_true rfl)) dX11_requireEntrantAndRound_2 ⟨Nat.zero_le _, Nat.zero_le _⟩) (c2 := 0) (s2 := 0) rfl rfl (fun H locs hP hS => ?_)
  refine lv_iload_n hx hb dX11_requireEntrantAndRound_5 rfl (lv_at hl 2 rfl) ?_
  rcases tx_some h with ⟨k9, e9, h⟩ | ⟨x3, e4, h⟩
  · refine tcT (fun st v t q => by obtain ⟨⟨u, -, hu, -⟩, -⟩ := q; cases hu) hG hX hP hD hS hA (pm0 (wX11n cy a o S)) (fun h1 h2 => vx_runS (As := [.int p2]) (rest := []) ⟨hx, hb, hml, hown, hts⟩ (qX11_requireRound l hl9 D cy tt  p2 (H).size (Sum.inl k9) e9) (va_cwS 1 hts gX11_requireEntrantAndRound_X11_requireRound rfl rfl rfl (by decide +kernel) ⟨Nat.le_of_ble_eq_true rfl, Nat.le_of_ble_eq_true rfl⟩) ⟨h1, h2⟩ rfl rfl hl.1 rfl (lv_room (Nat.le_of_ble_eq_true rfl)) dX11_requireEntrantAndRound_6 ⟨(by rw [← h]; exact Nat.le_refl 1), (by rw [← h]; exact Nat.le_refl 6)⟩) (fun ce q9 H locs hP hS hce hcv hcl => ?_)
    exact vx_out (fun x hx9 => (htab x hx9).elim) hlocks hce hcv hcl (fun t ht hvm => xThrow rfl h hP hD hS (by rw [ht]; exact Nat.le_refl _) (fun q _ => by rw [ht])) hS.2.2 (by rw [← h]; exact Nat.le_refl 1) (by rw [← h]; exact Nat.le_refl 6)
  refine tcNv hG hX hP hD hS hA (pm0 (wX11n cy a o S)) (fun h1 h2 => vx_runS (As := [.int p2]) (rest := []) ⟨hx, hb, hml, hown, hts⟩ (qX11_requireRound l hl9 D cy tt  p2 (H).size (Sum.inr x3) e4) (va_cwS 1 hts gX11_requireEntrantAndRound_X11_requireRound rfl rfl rfl (by decide +kernel) ⟨Nat.le_of_ble_eq_true rfl, Nat.le_of_ble_eq_true rfl⟩) ⟨h1, h2⟩ rfl rfl hl.1 rfl (lv_room (Nat.le_of_ble_eq_true rfl)) dX11_requireEntrantAndRound_6 ⟨Nat.zero_le _, Nat.zero_le _⟩) (c2 := 0) (s2 := 0) rfl rfl (fun H locs hP hS => ?_)
  refine vx_ret (W.widen (k := cX rs) (n := sX rs) (Nat.zero_le _) (Nat.zero_le _) ?_)
  exact W.vret hx hb hr (fun t ht hW => ⟨⟨(), rfl, some_in h, by rw [ht]; exact hP, hD⟩, hS.F ht⟩) hS.2.2 dX11_requireEntrantAndRound_9
set_option maxHeartbeats 4000000 in
set_option maxRecDepth 100000 in
theorem qX11_setProgram (l : Launch) (hl9 : l.stackTraces = false) (D : va_G) (cy : Nat → ClassId) (tt : Nat → Nat) (a : Nat → Nat) (o : Nat) (S : SX11) (p1 : Int32) (p2 : Int32) (sz : Nat) (rs : Nat ⊕ (Int32 × SX11)) (h : DX11_setProgram S p1 p2 = some rs) : vx_Met l yX11_setProgram wsX11_setProgram ({ frames := 9, cells := cX rs, slots := sX rs, locals := 206 } : Room) (xP D cy tt sz [.ref (a o), .int p1, .int p2] (wX11 cy a o S)) (va_Qi (fun r (u : SX11) => Sum.inr (r, u) = rs) (fun u t => mB D sz (wX11 cy a o S) (wX11 cy a o u) t) (va_A (wX11 cy a o S) sz)) (xS D sz cy a o S rs) (cX rs) (sX rs) (va_A (wX11 cy a o S) sz) := by
  refine vx_ofW (cc := cX11_setProgram) (maxL := 4) (ret := (some .int)) (by decide) rfl ?_
  intro p e s m args below meth c s₁ B hml htab hv
  obtain ⟨rfl, hsz, hP, hG, hD0, hX⟩ := hv
  have hx := B.exec
  have hb := B.bytes
  have hr := B.returns
  have hts := atoms_spec (ws := wsX11_setProgram) B.pre
  have hown : s.vm.findClass RX11 = some m.cls := findClass_of_methodNamed B.named
  have hlocks := B.notSynchronized
  have hK := hG.1
  subst hsz
  have hD := hD0.self (sz := s.heap.size)
  have hA : ∀ q : Nat, s.heap.size ≤ q → (va_A (wX11 cy a o S) s.heap.size) q := fun q h => Or.inr h
  have hS : va_S (va_A (wX11 cy a o S) s.heap.size) s.heap s.heap [] := va_S.rf
  have hinX11 := (by decide +kernel : ∀ w ∈ wsX110, w ∈ wsX11_setProgram)
  have hf26 := hts (.fieldLink RX11 26 "PianoRounds" "text" "LPianoRounds$Text;") (by decide +kernel)
  have hf10 := hts (.fieldLink RX11 10 "PianoRounds" "now" "LPianoRounds$Competition;") (by decide +kernel)
  have hinX0 := (by decide +kernel : ∀ w ∈ wsX00, w ∈ wsX11_setProgram)
  have hf42 := va_Nw.use (A := ([.ref (a o), .int p1, .int p2] : List Value).toArray) (U := s) (w := .fieldLinkNest "PianoRounds" 42 "PianoRounds$Competition" "works" "LPianoRounds$Works;" "PianoRounds") rfl (hG.2.1 _ (by decide +kernel))
  have hinX10 := (by decide +kernel : ∀ w ∈ wsX100, w ∈ wsX11_setProgram)
  have hf46 := va_Nw.use (A := ([.ref (a o), .int p1, .int p2] : List Value).toArray) (U := s) (w := .fieldLinkNest "PianoRounds" 46 "PianoRounds$Works" "count" "I" "PianoRounds") rfl (hG.2.1 _ (by decide +kernel))
  have hf19 := hts (.fieldLink RX11 19 "PianoRounds" "records" "LPianoRounds$Records;") (by decide +kernel)
  have hf135 := va_Nw.use (A := ([.ref (a o), .int p1, .int p2] : List Value).toArray) (U := s) (w := .fieldLinkNest "PianoRounds" 135 "PianoRounds$Competition" "programs" "LPianoRounds$Programs;" "PianoRounds") rfl (hG.2.1 _ (by decide +kernel))
  have hinX8 := (by decide +kernel : ∀ w ∈ wsX80, w ∈ wsX11_setProgram)
  have hf144 := va_Nw.use (A := ([.ref (a o), .int p1, .int p2] : List Value).toArray) (U := s) (w := .fieldLinkNest "PianoRounds" 144 "PianoRounds$Text" "found" "I" "PianoRounds") rfl (hG.2.1 _ (by decide +kernel))
  have hf147 := va_Nw.use (A := ([.ref (a o), .int p1, .int p2] : List Value).toArray) (U := s) (w := .fieldLinkNest "PianoRounds" 147 "PianoRounds$Text" "numbers" "[I" "PianoRounds") rfl (hG.2.1 _ (by decide +kernel))
  have hl := lv_entry ([.ref (a o), .int p1, .int p2]) (n := 4) (Nat.le_of_ble_eq_true rfl)
  rw [lg_entry_eq]
  generalize (lg_sl ([.ref (a o), .int p1, .int p2]) ++ List.replicate (4 - (lg_sl ([.ref (a o), .int p1, .int p2])).length) Slot.unset).toArray = ls at hl ⊢
  have hl : lv_has ls 4 [(0, .ref (a o)), (1, .int p1), (2, .int p2)] := hl
  rw [DX11_setProgram] at h
  refine lv_aload_n hx hb dX11_setProgram_0 rfl (lv_at hl 0 rfl) ?_
  refine lv_iload_n hx hb dX11_setProgram_1 rfl (lv_at hl 1 rfl) ?_
  refine lv_iload_n hx hb dX11_setProgram_2 rfl (lv_at hl 2 rfl) ?_
  rcases tx_some h with ⟨k9, e9, h⟩ | ⟨x1, e2, h⟩
  · refine tcT (fun st v t q => by obtain ⟨⟨u, -, hu, -⟩, -⟩ := q; cases hu) hG hX hP hD hS hA (pm1 (X := ([] : va_W)) (c := (wX11n cy a o (gX11_now S))) (Y := ((wX5 cy a (o + 54) (gX11_records S)) ++ (wX8 cy a (o + 268) (gX11_text S)))) (show (wX11 cy a o S) = ([] : va_W) ++ ((wX11n cy a o (gX11_now S)) ++ ((wX5 cy a (o + 54) (gX11_records S)) ++ (wX8 cy a (o + 268) (gX11_text S)))) from by simp only [wX11, wX11n, List.append_assoc, List.nil_append, List.append_nil] <;> rfl)) (fun h1 h2 => vx_runV (As := [.int p1, .int p2]) (rest := []) ⟨hx, hb, hml, hown, hts⟩ (qX11_requireEntrantAndRound l hl9 D cy tt a o (gX11_now S) p1 p2 (s.heap).size (Sum.inl k9) e9) (cwV 2 hts gX11_setProgram_X11_requireEntrantAndRound rfl rfl rfl (by decide +kernel) ⟨Nat.le_of_ble_eq_true rfl, Nat.le_of_ble_eq_true rfl⟩) ⟨h1, va_recv hK hP (ci := 11) (q0 := 0) rfl rfl, h2⟩ rfl rfl hl.1 rfl (lv_room (Nat.le_of_ble_eq_true rfl)) dX11_setProgram_3 ⟨(by rw [← h]; exact Nat.le_refl 1), (by rw [← h]; exact Nat.le_refl 6)⟩) (fun ce q9 H locs hP hS hce hcv hcl => ?_)
    exact vx_out (fun x hx9 => (htab x hx9).elim) hlocks hce hcv hcl (fun t ht hvm => xThrowS rfl h (by first | exact fun _ => rfl | exact fun hk => absurd (reqA_2 e9) (by rw [hk]; decide)) hP hD hS (by rw [ht]; exact Nat.le_refl _) (fun q _ => by rw [ht])) hS.2.2 (by rw [← h]; exact Nat.le_refl 1) (by rw [← h]; exact Nat.le_refl 6)
  refine tcNv hG hX hP hD hS hA (pm1 (X := ([] : va_W)) (c := (wX11n cy a o (gX11_now S))) (Y := ((wX5 cy a (o + 54) (gX11_records S)) ++ (wX8 cy a (o + 268) (gX11_text S)))) (show (wX11 cy a o S) = ([] : va_W) ++ ((wX11n cy a o (gX11_now S)) ++ ((wX5 cy a (o + 54) (gX11_records S)) ++ (wX8 cy a (o + 268) (gX11_text S)))) from by simp only [wX11, wX11n, List.append_assoc, List.nil_append, List.append_nil] <;> rfl)) (fun h1 h2 => vx_runV (As := [.int p1, .int p2]) (rest := []) ⟨hx, hb, hml, hown, hts⟩ (qX11_requireEntrantAndRound l hl9 D cy tt a o (gX11_now S) p1 p2 (s.heap).size (Sum.inr x1) e2) (cwV 2 hts gX11_setProgram_X11_requireEntrantAndRound rfl rfl rfl (by decide +kernel) ⟨Nat.le_of_ble_eq_true rfl, Nat.le_of_ble_eq_true rfl⟩) ⟨h1, va_recv hK hP (ci := 11) (q0 := 0) rfl rfl, h2⟩ rfl rfl hl.1 rfl (lv_room (Nat.le_of_ble_eq_true rfl)) dX11_setProgram_3 ⟨Nat.zero_le _, Nat.zero_le _⟩) (c2 := 0) (s2 := 0) rfl rfl (fun H locs hP hS => ?_)
  refine lv_aload_n hx hb dX11_setProgram_6 rfl (lv_at hl 0 rfl) ?_
  refine va_get (D := D) (ci := 11) (v := .ref (a (o + 268))) (C := RX11) (T := TX11) (N := 3) hx hb hts hinX11 hown hK hP 0 rfl rfl 2 (by decide) hf26 (fun _ h9 => h9) rfl dX11_setProgram_7 ?_
  refine lv_aload_n hx hb dX11_setProgram_10 rfl (lv_at hl 0 rfl) ?_
  refine va_get (D := D) (ci := 11) (v := .ref (a (o + 1))) (C := RX11) (T := TX11) (N := 3) hx hb hts hinX11 hown hK hP 0 rfl rfl 0 (by decide) hf10 (fun _ h9 => h9) rfl dX11_setProgram_11 ?_
  refine va_getN (D := D) (ci := 0) (v := .ref (a (o + 1 + 1))) (C := RX0) (T := TX0) (N := 14) hx hb hts hinX0 hown hK hP 1 rfl rfl 4 (by decide) hf42 (fun _ h9 => h9) rfl dX11_setProgram_14 ?_
  refine va_getN (D := D) (ci := 10) (v := .int (gX10_count (gX0_works (gX11_now S)))) (C := RX10) (T := TX10) (N := 4) hx hb hts hinX10 hown hK hP 2 rfl rfl 0 (by decide) hf46 (fun _ h9 => h9) rfl dX11_setProgram_17 ?_
  obtain ⟨x3, e4, h⟩ := bd_some h
  refine smVi (As := [.int (gX10_count (gX0_works (gX11_now S)))]) (rest := []) (ws' := (wX11 cy a o (uX11_text S x3.2))) (q0 := 0) (qX8_faultAmong l D cy a (o + 268) (gX11_text S) (gX10_count (gX0_works (gX11_now S))) (H).size x3 e4) ⟨hx, hb, hml, hown, hts⟩ (cwV 1 hts gX11_setProgram_X8_faultAmong rfl rfl rfl (by decide +kernel) ⟨Nat.le_of_ble_eq_true rfl, Nat.le_of_ble_eq_true rfl⟩) hG hP hD hS hA (pm1 (X := ((hX11 a o S) ++ ((wX0 cy a (o + 1) (gX11_now S)) ++ (wX5 cy a (o + 54) (gX11_records S))))) (c := (wX8 cy a (o + 268) (gX11_text S))) (Y := ([] : va_W)) (show (wX11 cy a o S) = ((hX11 a o S) ++ ((wX0 cy a (o + 1) (gX11_now S)) ++ (wX5 cy a (o + 54) (gX11_records S)))) ++ ((wX8 cy a (o + 268) (gX11_text S)) ++ ([] : va_W)) from by simp only [wX11, List.append_assoc, List.nil_append, List.append_nil] <;> rfl)) (pm1 (X := ((hX11 a o S) ++ ((wX0 cy a (o + 1) (gX11_now S)) ++ (wX5 cy a (o + 54) (gX11_records S))))) (c := (wX8 cy a (o + 268) x3.2)) (Y := ([] : va_W)) (show (wX11 cy a o (uX11_text S x3.2)) = ((hX11 a o S) ++ ((wX0 cy a (o + 1) (gX11_now S)) ++ (wX5 cy a (o + 54) (gX11_records S)))) ++ ((wX8 cy a (o + 268) x3.2) ++ ([] : va_W)) from by simp only [wX11, List.append_assoc, List.nil_append, List.append_nil] <;> rfl)) rfl rfl rfl hl.1 rfl (Nat.le_of_ble_eq_true rfl) dX11_setProgram_20 ⟨Nat.zero_le _, Nat.zero_le _⟩ (fun H locs hP hD hS => ?_)
  obtain ⟨S5, eS6, h⟩ := lt_elim h
  have hP : va_P D vwCl (wX11 cy a o S5) H := by rw [eS6]; exact hP
  have hD : va_D (va_A (wX11 cy a o S) s.heap.size) (wX11 cy a o S5) := by rw [eS6]; exact hD
  refine lv_iconst (v := (-1 : Int32)) hx hb dX11_setProgram_23 (by decide) ?_
  obtain ⟨j8, hj8, h⟩ := jn_elim h
  have Jj8 : ∀ (x7 : Int32) (ls : Array Slot), j8 x7 = some rs → lv_has ls 4 [(0, .ref (a o)), (1, .int p1), (2, .int p2)] → W p l e (headSpec wsX11_setProgram ({ frames := 9, cells := cX rs, slots := sX rs, locals := 206 } : Room)).room s m ([.ref (a o), .int p1, .int p2] : List Value).toArray below meth c H locs 0 0 (vx_MQ below (va_Qi (fun r (u : SX11) => Sum.inr (r, u) = rs) (fun u t => mB D s.heap.size (wX11 cy a o S) (wX11 cy a o u) t) (va_A (wX11 cy a o S) s.heap.size)) (xS D s.heap.size cy a o S rs) ([.ref (a o), .int p1, .int p2] : List Value).toArray s (cX rs) (sX rs) (va_A (wX11 cy a o S) s.heap.size)) (F0 m 32 ls [.int x7]) := by
    intro x7 ls h hl
    rw [hj8] at h
    rcases tx_some h with ⟨k9, e9, h⟩ | ⟨x9, e10, h⟩
    · refine tcT (fun st v t q => by obtain ⟨⟨u, -, hu, -⟩, -⟩ := q; cases hu) hG hX hP hD hS hA (pm0 (wX11 cy a o S5)) (fun h1 h2 => vx_runS (As := [.int x7]) (rest := []) ⟨hx, hb, hml, hown, hts⟩ (qX11_requireArgument l hl9 D cy tt  x7 (H).size (Sum.inl k9) e9) (va_cwS 1 hts gX11_setProgram_X11_requireArgument rfl rfl rfl (by decide +kernel) ⟨Nat.le_of_ble_eq_true rfl, Nat.le_of_ble_eq_true rfl⟩) ⟨h1, h2⟩ rfl rfl hl.1 rfl (lv_room (Nat.le_of_ble_eq_true rfl)) dX11_setProgram_32 ⟨(by rw [← h]; exact Nat.le_refl 1), (by rw [← h]; exact Nat.le_refl 6)⟩) (fun ce q9 H locs hP hS hce hcv hcl => ?_)
      exact vx_out (fun x hx9 => (htab x hx9).elim) hlocks hce hcv hcl (fun t ht hvm => xThrowS rfl h (by first | exact fun _ => rfl | exact fun hk => absurd (reqA_2 e9) (by rw [hk]; decide)) hP hD hS (by rw [ht]; exact Nat.le_refl _) (fun q _ => by rw [ht])) hS.2.2 (by rw [← h]; exact Nat.le_refl 1) (by rw [← h]; exact Nat.le_refl 6)
    refine tcNv hG hX hP hD hS hA (pm0 (wX11 cy a o S5)) (fun h1 h2 => vx_runS (As := [.int x7]) (rest := []) ⟨hx, hb, hml, hown, hts⟩ (qX11_requireArgument l hl9 D cy tt  x7 (H).size (Sum.inr x9) e10) (va_cwS 1 hts gX11_setProgram_X11_requireArgument rfl rfl rfl (by decide +kernel) ⟨Nat.le_of_ble_eq_true rfl, Nat.le_of_ble_eq_true rfl⟩) ⟨h1, h2⟩ rfl rfl hl.1 rfl (lv_room (Nat.le_of_ble_eq_true rfl)) dX11_setProgram_32 ⟨Nat.zero_le _, Nat.zero_le _⟩) (c2 := 0) (s2 := 0) rfl rfl (fun H locs hP hS => ?_)
    refine lv_aload_n hx hb dX11_setProgram_35 rfl (lv_at hl 0 rfl) ?_
    refine va_get (D := D) (ci := 11) (v := .ref (a (o + 54))) (C := RX11) (T := TX11) (N := 3) hx hb hts hinX11 hown hK hP 0 rfl rfl 1 (by decide) hf19 (fun _ h9 => h9) rfl dX11_setProgram_36 ?_
    refine lv_aload_n hx hb dX11_setProgram_39 rfl (lv_at hl 0 rfl) ?_
    refine va_get (D := D) (ci := 11) (v := .ref (a (o + 1))) (C := RX11) (T := TX11) (N := 3) hx hb hts hinX11 hown hK hP 0 rfl rfl 0 (by decide) hf10 (fun _ h9 => h9) rfl dX11_setProgram_40 ?_
    obtain ⟨x11, e12, h⟩ := bd_some h
    refine smVv (As := [.ref (a (o + 1))]) (rest := []) (ws' := (wX11 cy a o (uX11_records S5 x11))) (q0 := 0) (qX5_keep l D cy a (o + 54) a (o + 1) (gX11_records S5) (gX11_now S5)  (H).size x11 e12) ⟨hx, hb, hml, hown, hts⟩ (cwV 1 hts gX11_setProgram_X5_keep rfl rfl rfl (by decide +kernel) ⟨Nat.le_of_ble_eq_true rfl, Nat.le_of_ble_eq_true rfl⟩) hG hP hD hS hA (pm2r (X := (hX11 a o S5)) (c1 := (wX5 cy a (o + 54) (gX11_records S5))) (Y := ([] : va_W)) (c2 := (wX0 cy a (o + 1) (gX11_now S5))) (Z := (wX8 cy a (o + 268) (gX11_text S5))) (show (wX11 cy a o S5) = (hX11 a o S5) ++ ((wX0 cy a (o + 1) (gX11_now S5)) ++ (([] : va_W) ++ ((wX5 cy a (o + 54) (gX11_records S5)) ++ (wX8 cy a (o + 268) (gX11_text S5))))) from by simp only [wX11, List.append_assoc, List.nil_append, List.append_nil] <;> rfl)) (pm2r (X := (hX11 a o S5)) (c1 := (wX5 cy a (o + 54) x11)) (Y := ([] : va_W)) (c2 := (wX0 cy a (o + 1) (gX11_now S5))) (Z := (wX8 cy a (o + 268) (gX11_text S5))) (show (wX11 cy a o (uX11_records S5 x11)) = (hX11 a o S5) ++ ((wX0 cy a (o + 1) (gX11_now S5)) ++ (([] : va_W) ++ ((wX5 cy a (o + 54) x11) ++ (wX8 cy a (o + 268) (gX11_text S5))))) from by simp only [wX11, List.append_assoc, List.nil_append, List.append_nil] <;> rfl)) rfl rfl rfl hl.1 rfl (Nat.le_of_ble_eq_true rfl) dX11_setProgram_43 ⟨Nat.zero_le _, Nat.zero_le _⟩ (fun H locs hP hD hS => ?_)
    obtain ⟨S13, eS14, h⟩ := lt_elim h
    have hP : va_P D vwCl (wX11 cy a o S13) H := by rw [eS14]; exact hP
    have hD : va_D (va_A (wX11 cy a o S) s.heap.size) (wX11 cy a o S13) := by rw [eS14]; exact hD
    refine lv_aload_n hx hb dX11_setProgram_46 rfl (lv_at hl 0 rfl) ?_
    refine va_get (D := D) (ci := 11) (v := .ref (a (o + 1))) (C := RX11) (T := TX11) (N := 3) hx hb hts hinX11 hown hK hP 0 rfl rfl 0 (by decide) hf10 (fun _ h9 => h9) rfl dX11_setProgram_47 ?_
    refine va_getN (D := D) (ci := 0) (v := .ref (a (o + 1 + 12))) (C := RX0) (T := TX0) (N := 14) hx hb hts hinX0 hown hK hP 1 rfl rfl 7 (by decide) hf135 (fun _ h9 => h9) rfl dX11_setProgram_50 ?_
    refine lv_iload_n hx hb dX11_setProgram_53 rfl (lv_at hl 1 rfl) ?_
    refine lv_iload_n hx hb dX11_setProgram_54 rfl (lv_at hl 2 rfl) ?_
    obtain ⟨x15, e16, h⟩ := bd_some h
    refine smVv (As := [.int p1, .int p2]) (rest := []) (ws' := (wX11 cy a o (uX11_now S13 (uX0_programs (gX11_now S13) x15)))) (q0 := 0) (qX4_empty l D cy a (o + 1 + 12) (gX0_programs (gX11_now S13)) p1 p2 (H).size x15 e16) ⟨hx, hb, hml, hown, hts⟩ (cwV 2 hts gX11_setProgram_X4_empty rfl rfl rfl (by decide +kernel) ⟨Nat.le_of_ble_eq_true rfl, Nat.le_of_ble_eq_true rfl⟩) hG hP hD hS hA (pm1 (X := ((hX11 a o S13) ++ ((hX0 a (o + 1) (gX11_now S13)) ++ ((wX10 cy a (o + 1 + 1) (gX0_works (gX11_now S13))) ++ ((wX2 cy a (o + 1 + 5) (gX0_entrants (gX11_now S13))) ++ (rowsW (cy 2) (cy 0) a (o + 1 + 7) 4 6 (gX0_rules (gX11_now S13)))))))) (c := (wX4 cy a (o + 1 + 12) (gX0_programs (gX11_now S13)))) (Y := ((wX3 cy a (o + 1 + 14) (gX0_jury (gX11_now S13))) ++ ((wX7 cy a (o + 1 + 23) (gX0_stage (gX11_now S13))) ++ ((wX6 cy a (o + 1 + 26) (gX0_sheet (gX11_now S13))) ++ ((wX9 cy a (o + 1 + 35) (gX0_tie (gX11_now S13))) ++ ((rowsW (cy 2) (cy 0) a (o + 1 + 46) 4 12 (gX0_closedScores (gX11_now S13))) ++ ((wX1 cy a (o + 1 + 51) (gX0_cut (gX11_now S13))) ++ ((wX5 cy a (o + 54) (gX11_records S13)) ++ (wX8 cy a (o + 268) (gX11_text S13)))))))))) (show (wX11 cy a o S13) = ((hX11 a o S13) ++ ((hX0 a (o + 1) (gX11_now S13)) ++ ((wX10 cy a (o + 1 + 1) (gX0_works (gX11_now S13))) ++ ((wX2 cy a (o + 1 + 5) (gX0_entrants (gX11_now S13))) ++ (rowsW (cy 2) (cy 0) a (o + 1 + 7) 4 6 (gX0_rules (gX11_now S13))))))) ++ ((wX4 cy a (o + 1 + 12) (gX0_programs (gX11_now S13))) ++ ((wX3 cy a (o + 1 + 14) (gX0_jury (gX11_now S13))) ++ ((wX7 cy a (o + 1 + 23) (gX0_stage (gX11_now S13))) ++ ((wX6 cy a (o + 1 + 26) (gX0_sheet (gX11_now S13))) ++ ((wX9 cy a (o + 1 + 35) (gX0_tie (gX11_now S13))) ++ ((rowsW (cy 2) (cy 0) a (o + 1 + 46) 4 12 (gX0_closedScores (gX11_now S13))) ++ ((wX1 cy a (o + 1 + 51) (gX0_cut (gX11_now S13))) ++ ((wX5 cy a (o + 54) (gX11_records S13)) ++ (wX8 cy a (o + 268) (gX11_text S13)))))))))) from by simp only [wX0, wX11, List.append_assoc, List.nil_append, List.append_nil] <;> rfl)) (pm1 (X := ((hX11 a o S13) ++ ((hX0 a (o + 1) (gX11_now S13)) ++ ((wX10 cy a (o + 1 + 1) (gX0_works (gX11_now S13))) ++ ((wX2 cy a (o + 1 + 5) (gX0_entrants (gX11_now S13))) ++ (rowsW (cy 2) (cy 0) a (o + 1 + 7) 4 6 (gX0_rules (gX11_now S13)))))))) (c := (wX4 cy a (o + 1 + 12) x15)) (Y := ((wX3 cy a (o + 1 + 14) (gX0_jury (gX11_now S13))) ++ ((wX7 cy a (o + 1 + 23) (gX0_stage (gX11_now S13))) ++ ((wX6 cy a (o + 1 + 26) (gX0_sheet (gX11_now S13))) ++ ((wX9 cy a (o + 1 + 35) (gX0_tie (gX11_now S13))) ++ ((rowsW (cy 2) (cy 0) a (o + 1 + 46) 4 12 (gX0_closedScores (gX11_now S13))) ++ ((wX1 cy a (o + 1 + 51) (gX0_cut (gX11_now S13))) ++ ((wX5 cy a (o + 54) (gX11_records S13)) ++ (wX8 cy a (o + 268) (gX11_text S13)))))))))) (show (wX11 cy a o (uX11_now S13 (uX0_programs (gX11_now S13) x15))) = ((hX11 a o S13) ++ ((hX0 a (o + 1) (gX11_now S13)) ++ ((wX10 cy a (o + 1 + 1) (gX0_works (gX11_now S13))) ++ ((wX2 cy a (o + 1 + 5) (gX0_entrants (gX11_now S13))) ++ (rowsW (cy 2) (cy 0) a (o + 1 + 7) 4 6 (gX0_rules (gX11_now S13))))))) ++ ((wX4 cy a (o + 1 + 12) x15) ++ ((wX3 cy a (o + 1 + 14) (gX0_jury (gX11_now S13))) ++ ((wX7 cy a (o + 1 + 23) (gX0_stage (gX11_now S13))) ++ ((wX6 cy a (o + 1 + 26) (gX0_sheet (gX11_now S13))) ++ ((wX9 cy a (o + 1 + 35) (gX0_tie (gX11_now S13))) ++ ((rowsW (cy 2) (cy 0) a (o + 1 + 46) 4 12 (gX0_closedScores (gX11_now S13))) ++ ((wX1 cy a (o + 1 + 51) (gX0_cut (gX11_now S13))) ++ ((wX5 cy a (o + 54) (gX11_records S13)) ++ (wX8 cy a (o + 268) (gX11_text S13)))))))))) from by simp only [wX0, wX11, List.append_assoc, List.nil_append, List.append_nil] <;> rfl)) rfl rfl rfl hl.1 rfl (Nat.le_of_ble_eq_true rfl) dX11_setProgram_55 ⟨Nat.zero_le _, Nat.zero_le _⟩ (fun H locs hP hD hS => ?_)
    obtain ⟨S17, eS18, h⟩ := lt_elim h
    have hP : va_P D vwCl (wX11 cy a o S17) H := by rw [eS18]; exact hP
    have hD : va_D (va_A (wX11 cy a o S) s.heap.size) (wX11 cy a o S17) := by rw [eS18]; exact hD
    refine lv_iconst (v := (0 : Int32)) hx hb dX11_setProgram_58 (by decide) ?_
    refine lv_istore_n (lv' := [(3, .int (0 : Int32)), (0, .ref (a o)), (1, .int p1), (2, .int p2)]) hx hb dX11_setProgram_59 rfl hl (by decide) rfl (fun ls hl => ?_)
    have L31 : ∀ (c1_19 : Int32) (c2_20 : Int32) (k22 : SX11 → Option (Nat ⊕ (Int32 × SX11))) (hk22 : ∀ (S23 : SX11) (H : Heap) (locs : List Loc) (ls : Array Slot), k22 S23 = some rs → va_P D vwCl (wX11 cy a o S23) H → va_D (va_A (wX11 cy a o S) s.heap.size) (wX11 cy a o S23) → va_S (va_A (wX11 cy a o S) s.heap.size) s.heap H locs → lv_has ls 4 [(0, .ref (a o))] → W p l e (headSpec wsX11_setProgram ({ frames := 9, cells := cX rs, slots := sX rs, locals := 206 } : Room)).room s m ([.ref (a o), .int p1, .int p2] : List Value).toArray below meth c H locs 0 0 (vx_MQ below (va_Qi (fun r (u : SX11) => Sum.inr (r, u) = rs) (fun u t => mB D s.heap.size (wX11 cy a o S) (wX11 cy a o u) t) (va_A (wX11 cy a o S) s.heap.size)) (xS D s.heap.size cy a o S rs) ([.ref (a o), .int p1, .int p2] : List Value).toArray s (cX rs) (sX rs) (va_A (wX11 cy a o S) s.heap.size)) (F0 m 99 ls [])) (f : Nat) (v3_25 : Int32) (S21 : SX11) (H : Heap) (locs : List Loc) (ls : Array Slot), DX11_setProgram_L60 c1_19 c2_20 k22 f v3_25 S21 = some rs → va_P D vwCl (wX11 cy a o S21) H → va_D (va_A (wX11 cy a o S) s.heap.size) (wX11 cy a o S21) → va_S (va_A (wX11 cy a o S) s.heap.size) s.heap H locs → lv_has ls 4 [(0, .ref (a o)), (1, .int c1_19), (2, .int c2_20), (3, .int v3_25)] → W p l e (headSpec wsX11_setProgram ({ frames := 9, cells := cX rs, slots := sX rs, locals := 206 } : Room)).room s m ([.ref (a o), .int p1, .int p2] : List Value).toArray below meth c H locs 0 0 (vx_MQ below (va_Qi (fun r (u : SX11) => Sum.inr (r, u) = rs) (fun u t => mB D s.heap.size (wX11 cy a o S) (wX11 cy a o u) t) (va_A (wX11 cy a o S) s.heap.size)) (xS D s.heap.size cy a o S rs) ([.ref (a o), .int p1, .int p2] : List Value).toArray s (cX rs) (sX rs) (va_A (wX11 cy a o S) s.heap.size)) (F0 m 60 ls []) := by
      intro c1_19 c2_20 k22 hk22 f
      induction f with
      | zero =>
        intro v3_25 S21 H locs ls h hP hD hS hl
        rw [DX11_setProgram_L60] at h
        cases h
      | succ f ih =>
        intro v3_25 S21 H locs ls h hP hD hS hl
        rw [DX11_setProgram_L60] at h
        refine lv_iload_n hx hb dX11_setProgram_60 rfl (lv_at hl 3 rfl) ?_
        refine lv_aload_n hx hb dX11_setProgram_61 rfl (lv_at hl 0 rfl) ?_
        refine va_get (D := D) (ci := 11) (v := .ref (a (o + 268))) (C := RX11) (T := TX11) (N := 3) hx hb hts hinX11 hown hK hP 0 rfl rfl 2 (by decide) hf26 (fun _ h9 => h9) rfl dX11_setProgram_62 ?_
        refine va_getN (D := D) (ci := 8) (v := .int (gX8_found (gX11_text S21))) (C := RX8) (T := TX8) (N := 5) hx hb hts hinX8 hown hK hP 268 rfl rfl 2 (by decide) hf144 (fun _ h9 => h9) rfl dX11_setProgram_65 ?_
        refine lv_icmp_ge (tgt := 99) hx hb dX11_setProgram_68 (by decide) (fun cc => ?_) (fun cc => ?_)
        · have h := ite_p cc h
          exact hk22 S21 H locs ls h hP hD hS (lv_sub hl [0] rfl)
        · have h := ite_n cc h
          refine lv_aload_n hx hb dX11_setProgram_71 rfl (lv_at hl 0 rfl) ?_
          refine va_get (D := D) (ci := 11) (v := .ref (a (o + 1))) (C := RX11) (T := TX11) (N := 3) hx hb hts hinX11 hown hK hP 0 rfl rfl 0 (by decide) hf10 (fun _ h9 => h9) rfl dX11_setProgram_72 ?_
          refine va_getN (D := D) (ci := 0) (v := .ref (a (o + 1 + 12))) (C := RX0) (T := TX0) (N := 14) hx hb hts hinX0 hown hK hP 1 rfl rfl 7 (by decide) hf135 (fun _ h9 => h9) rfl dX11_setProgram_75 ?_
          refine lv_iload_n hx hb dX11_setProgram_78 rfl (lv_at hl 1 rfl) ?_
          refine lv_iload_n hx hb dX11_setProgram_79 rfl (lv_at hl 2 rfl) ?_
          refine lv_iload_n hx hb dX11_setProgram_80 rfl (lv_at hl 3 rfl) ?_
          refine lv_aload_n hx hb dX11_setProgram_81 rfl (lv_at hl 0 rfl) ?_
          refine va_get (D := D) (ci := 11) (v := .ref (a (o + 268))) (C := RX11) (T := TX11) (N := 3) hx hb hts hinX11 hown hK hP 0 rfl rfl 2 (by decide) hf26 (fun _ h9 => h9) rfl dX11_setProgram_82 ?_
          refine va_getN (D := D) (ci := 8) (v := .ref (a (o + 268 + 2))) (C := RX8) (T := TX8) (N := 5) hx hb hts hinX8 hown hK hP 268 rfl rfl 3 (by decide) hf147 (fun _ h9 => h9) rfl dX11_setProgram_85 ?_
          refine lv_iload_n hx hb dX11_setProgram_88 rfl (lv_at hl 3 rfl) ?_
          obtain ⟨g26, h⟩ := gd_some h
          refine r_ald (f := (gX8_numbers (gX11_text S21))) (n := 4) (v := ((gX8_numbers (gX11_text S21)) ((v3_25).toNatClampNeg))) hx hb hK hP 270 0 rfl rfl (gIn_in g26) rfl dX11_setProgram_89 ?_
          obtain ⟨x27, e28, h⟩ := bd_some h
          refine smVv (As := [.int c1_19, .int c2_20, .int v3_25, .int ((gX8_numbers (gX11_text S21)) ((v3_25).toNatClampNeg))]) (rest := []) (ws' := (wX11 cy a o (uX11_now S21 (uX0_programs (gX11_now S21) x27)))) (q0 := 0) (qX4_put l D cy a (o + 1 + 12) (gX0_programs (gX11_now S21)) c1_19 c2_20 v3_25 ((gX8_numbers (gX11_text S21)) ((v3_25).toNatClampNeg)) (H).size x27 e28) ⟨hx, hb, hml, hown, hts⟩ (cwV 4 hts gX11_setProgram_X4_put rfl rfl rfl (by decide +kernel) ⟨Nat.le_of_ble_eq_true rfl, Nat.le_of_ble_eq_true rfl⟩) hG hP hD hS hA (pm1 (X := ((hX11 a o S21) ++ ((hX0 a (o + 1) (gX11_now S21)) ++ ((wX10 cy a (o + 1 + 1) (gX0_works (gX11_now S21))) ++ ((wX2 cy a (o + 1 + 5) (gX0_entrants (gX11_now S21))) ++ (rowsW (cy 2) (cy 0) a (o + 1 + 7) 4 6 (gX0_rules (gX11_now S21)))))))) (c := (wX4 cy a (o + 1 + 12) (gX0_programs (gX11_now S21)))) (Y := ((wX3 cy a (o + 1 + 14) (gX0_jury (gX11_now S21))) ++ ((wX7 cy a (o + 1 + 23) (gX0_stage (gX11_now S21))) ++ ((wX6 cy a (o + 1 + 26) (gX0_sheet (gX11_now S21))) ++ ((wX9 cy a (o + 1 + 35) (gX0_tie (gX11_now S21))) ++ ((rowsW (cy 2) (cy 0) a (o + 1 + 46) 4 12 (gX0_closedScores (gX11_now S21))) ++ ((wX1 cy a (o + 1 + 51) (gX0_cut (gX11_now S21))) ++ ((wX5 cy a (o + 54) (gX11_records S21)) ++ (wX8 cy a (o + 268) (gX11_text S21)))))))))) (show (wX11 cy a o S21) = ((hX11 a o S21) ++ ((hX0 a (o + 1) (gX11_now S21)) ++ ((wX10 cy a (o + 1 + 1) (gX0_works (gX11_now S21))) ++ ((wX2 cy a (o + 1 + 5) (gX0_entrants (gX11_now S21))) ++ (rowsW (cy 2) (cy 0) a (o + 1 + 7) 4 6 (gX0_rules (gX11_now S21))))))) ++ ((wX4 cy a (o + 1 + 12) (gX0_programs (gX11_now S21))) ++ ((wX3 cy a (o + 1 + 14) (gX0_jury (gX11_now S21))) ++ ((wX7 cy a (o + 1 + 23) (gX0_stage (gX11_now S21))) ++ ((wX6 cy a (o + 1 + 26) (gX0_sheet (gX11_now S21))) ++ ((wX9 cy a (o + 1 + 35) (gX0_tie (gX11_now S21))) ++ ((rowsW (cy 2) (cy 0) a (o + 1 + 46) 4 12 (gX0_closedScores (gX11_now S21))) ++ ((wX1 cy a (o + 1 + 51) (gX0_cut (gX11_now S21))) ++ ((wX5 cy a (o + 54) (gX11_records S21)) ++ (wX8 cy a (o + 268) (gX11_text S21)))))))))) from by simp only [wX0, wX11, List.append_assoc, List.nil_append, List.append_nil] <;> rfl)) (pm1 (X := ((hX11 a o S21) ++ ((hX0 a (o + 1) (gX11_now S21)) ++ ((wX10 cy a (o + 1 + 1) (gX0_works (gX11_now S21))) ++ ((wX2 cy a (o + 1 + 5) (gX0_entrants (gX11_now S21))) ++ (rowsW (cy 2) (cy 0) a (o + 1 + 7) 4 6 (gX0_rules (gX11_now S21)))))))) (c := (wX4 cy a (o + 1 + 12) x27)) (Y := ((wX3 cy a (o + 1 + 14) (gX0_jury (gX11_now S21))) ++ ((wX7 cy a (o + 1 + 23) (gX0_stage (gX11_now S21))) ++ ((wX6 cy a (o + 1 + 26) (gX0_sheet (gX11_now S21))) ++ ((wX9 cy a (o + 1 + 35) (gX0_tie (gX11_now S21))) ++ ((rowsW (cy 2) (cy 0) a (o + 1 + 46) 4 12 (gX0_closedScores (gX11_now S21))) ++ ((wX1 cy a (o + 1 + 51) (gX0_cut (gX11_now S21))) ++ ((wX5 cy a (o + 54) (gX11_records S21)) ++ (wX8 cy a (o + 268) (gX11_text S21)))))))))) (show (wX11 cy a o (uX11_now S21 (uX0_programs (gX11_now S21) x27))) = ((hX11 a o S21) ++ ((hX0 a (o + 1) (gX11_now S21)) ++ ((wX10 cy a (o + 1 + 1) (gX0_works (gX11_now S21))) ++ ((wX2 cy a (o + 1 + 5) (gX0_entrants (gX11_now S21))) ++ (rowsW (cy 2) (cy 0) a (o + 1 + 7) 4 6 (gX0_rules (gX11_now S21))))))) ++ ((wX4 cy a (o + 1 + 12) x27) ++ ((wX3 cy a (o + 1 + 14) (gX0_jury (gX11_now S21))) ++ ((wX7 cy a (o + 1 + 23) (gX0_stage (gX11_now S21))) ++ ((wX6 cy a (o + 1 + 26) (gX0_sheet (gX11_now S21))) ++ ((wX9 cy a (o + 1 + 35) (gX0_tie (gX11_now S21))) ++ ((rowsW (cy 2) (cy 0) a (o + 1 + 46) 4 12 (gX0_closedScores (gX11_now S21))) ++ ((wX1 cy a (o + 1 + 51) (gX0_cut (gX11_now S21))) ++ ((wX5 cy a (o + 54) (gX11_records S21)) ++ (wX8 cy a (o + 268) (gX11_text S21)))))))))) from by simp only [wX0, wX11, List.append_assoc, List.nil_append, List.append_nil] <;> rfl)) rfl rfl rfl hl.1 rfl (Nat.le_of_ble_eq_true rfl) dX11_setProgram_90 ⟨Nat.zero_le _, Nat.zero_le _⟩ (fun H locs hP hD hS => ?_)
          obtain ⟨S29, eS30, h⟩ := lt_elim h
          have hP : va_P D vwCl (wX11 cy a o S29) H := by rw [eS30]; exact hP
          have hD : va_D (va_A (wX11 cy a o S) s.heap.size) (wX11 cy a o S29) := by rw [eS30]; exact hD
          refine lv_iinc (v := (v3_25 + (1 : Int32))) (lv' := [(3, .int (v3_25 + (1 : Int32))), (0, .ref (a o)), (1, .int c1_19), (2, .int c2_20)]) hx hb dX11_setProgram_93 hl (k := 3) rfl (by rfl) (by decide) rfl (fun ls hl => ?_)
          refine lv_goto (tgt := 60) hx hb dX11_setProgram_96 (by decide) ?_
          exact ih (v3_25 + (1 : Int32)) S29 H locs ls h hP hD hS (lv_sub hl [1, 2, 3, 0] rfl)
    refine L31 p1 p2 _ ?_ fu (0 : Int32) S17 H locs ls h hP hD hS (lv_sub hl [1, 2, 3, 0] rfl)
    intro S24 H locs ls h hP hD hS hl
    refine lv_aload_n hx hb dX11_setProgram_99 rfl (lv_at hl 0 rfl) ?_
    refine va_get (D := D) (ci := 11) (v := .ref (a (o + 268))) (C := RX11) (T := TX11) (N := 3) hx hb hts hinX11 hown hK hP 0 rfl rfl 2 (by decide) hf26 (fun _ h9 => h9) rfl dX11_setProgram_100 ?_
    refine va_getN (D := D) (ci := 8) (v := .int (gX8_found (gX11_text S24))) (C := RX8) (T := TX8) (N := 5) hx hb hts hinX8 hown hK hP 268 rfl rfl 2 (by decide) hf144 (fun _ h9 => h9) rfl dX11_setProgram_103 ?_
    refine vx_ret (W.widen (k := cX rs) (n := sX rs) (Nat.zero_le _) (Nat.zero_le _) ?_)
    exact W.iret (v := (gX8_found (gX11_text S24))) hx hb hr (fun t ht hW => ⟨⟨(gX8_found (gX11_text S24)), S24, rfl, some_in h, by rw [ht]; exact hP, hD⟩, hS.F ht⟩) hS.2.2 dX11_setProgram_106
  refine lv_icmp_ne (tgt := 31) hx hb dX11_setProgram_24 (by decide) (fun cc => ?_) (fun cc => ?_)
  · have h := ite_n cc h
    refine lv_iconst (v := (0 : Int32)) hx hb dX11_setProgram_31 (by decide) ?_
    exact Jj8 (0 : Int32) ls h (lv_sub hl [0, 1, 2] rfl)
  · have h := ite_p cc h
    refine lv_iconst (v := (1 : Int32)) hx hb dX11_setProgram_27 (by decide) ?_
    refine lv_goto (tgt := 32) hx hb dX11_setProgram_28 (by decide) ?_
    exact Jj8 (1 : Int32) ls h (lv_sub hl [0, 1, 2] rfl)
