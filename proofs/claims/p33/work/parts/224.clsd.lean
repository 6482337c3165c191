set_option maxHeartbeats 4000000 in
set_option maxRecDepth 100000 in
theorem qX7_seat (l : Launch) (D : va_G) (cy : Nat → ClassId) (a : Nat → Nat) (o : Nat) (S : SX7) (p1 : Int32) (sz : Nat) (rs : SX7) (h : DX7_seat S p1 = some rs) : Met l yX7_seat wsX7_seat ({ frames := 0, cells := 0, slots := 0, locals := 0 } : Room) (mP D cy sz [.ref (a o), .int p1] (wX7 cy a o S)) (va_Qv (fun (u : SX7) => u = rs) (fun u t => mB D sz (wX7 cy a o S) (wX7 cy a o u) t) (va_A (wX7 cy a o S) sz)) 0 0 (va_A (wX7 cy a o S) sz) := by
  refine Met.ofW (cc := cX7_seat) (maxL := 2) (ret := none) (by decide) rfl ?_
  intro p e s m args below meth c s₁ B hml hv
  obtain ⟨rfl, hsz, hP, hG, hD0⟩ := hv
  have hx := B.exec
  have hb := B.bytes
  have hr := B.returns
  have hts := atoms_spec (ws := wsX7_seat) B.pre
  have hown : s.vm.findClass RX7 = some m.cls := findClass_of_methodNamed B.named
  have hlocks := B.notSynchronized
  have hK := hG.1
  subst hsz
  have hD := hD0.self (sz := s.heap.size)
  have hA : ∀ q : Nat, s.heap.size ≤ q → (va_A (wX7 cy a o S) s.heap.size) q := fun q h => Or.inr h
  have hS : va_S (va_A (wX7 cy a o S) s.heap.size) s.heap s.heap [] := va_S.rf
  have hinX7 := (by decide +kernel : ∀ w ∈ wsX70, w ∈ wsX7_seat)
  have hf21 := hts (.fieldLink RX7 21 "PianoRounds$Stage" "players" "I") (by decide +kernel)
  have hf9 := hts (.fieldLink RX7 9 "PianoRounds$Stage" "order" "[I") (by decide +kernel)
  have hl := lv_entry ([.ref (a o), .int p1]) (n := 2) (Nat.le_of_ble_eq_true rfl)
  rw [lg_entry_eq]
  generalize (lg_sl ([.ref (a o), .int p1]) ++ List.replicate (2 - (lg_sl ([.ref (a o), .int p1])).length) Slot.unset).toArray = ls at hl ⊢
  have hl : lv_has ls 2 [(0, .ref (a o)), (1, .int p1)] := hl
  rw [DX7_seat] at h
  refine lv_aload_n hx hb dX7_seat_0 rfl (lv_at hl 0 rfl) ?_
  refine va_get (D := D) (ci := 7) (v := .int (gX7_players S)) (C := RX7) (T := TX7) (N := 5) hx hb hts hinX7 hown hK hP 0 rfl rfl 0 (by decide) hf21 (fun _ h9 => h9) rfl dX7_seat_1 ?_
  refine lv_bipush (v := (12 : Int32)) hx hb dX7_seat_4 (by decide) ?_
  obtain ⟨j2, hj2, h⟩ := jn_elim h
  have Jj2 : ∀ (S1 : SX7) (H : Heap) (locs : List Loc) (ls : Array Slot), j2 S1 = some rs → va_P D vwCl (wX7 cy a o S1) H → va_D (va_A (wX7 cy a o S) s.heap.size) (wX7 cy a o S1) → va_S (va_A (wX7 cy a o S) s.heap.size) s.heap H locs → lv_has ls 2 [] → W p l e (headSpec wsX7_seat ({ frames := 0, cells := 0, slots := 0, locals := 0 } : Room)).room s m ([.ref (a o), .int p1] : List Value).toArray below meth c H locs 0 0 (MQ below (va_Qv (fun (u : SX7) => u = rs) (fun u t => mB D s.heap.size (wX7 cy a o S) (wX7 cy a o u) t) (va_A (wX7 cy a o S) s.heap.size)) ([.ref (a o), .int p1] : List Value).toArray s 0 0 (va_A (wX7 cy a o S) s.heap.size)) (F0 m 29 ls []) := by
    intro S1 H locs ls h hP hD hS hl
    rw [hj2] at h
    exact W.vret hx hb hr (fun t ht hW => ⟨⟨S1, rfl, some_in h, by rw [ht]; exact hP, hD⟩, hS.F ht⟩) hS.2.2 dX7_seat_29
  refine lv_icmp_ge (tgt := 29) hx hb dX7_seat_6 (by decide) (fun cc => ?_) (fun cc => ?_)
  · have h := ite_p cc h
    exact Jj2 S s.heap [] ls h hP hD hS (lv_sub hl [] rfl)
  · have h := ite_n cc h
    refine lv_aload_n hx hb dX7_seat_9 rfl (lv_at hl 0 rfl) ?_
    refine va_get (D := D) (ci := 7) (v := .ref (a (o + 1))) (C := RX7) (T := TX7) (N := 5) hx hb hts hinX7 hown hK hP 0 rfl rfl 3 (by decide) hf9 (fun _ h9 => h9) rfl dX7_seat_10 ?_
    refine lv_aload_n hx hb dX7_seat_13 rfl (lv_at hl 0 rfl) ?_
    refine va_get (D := D) (ci := 7) (v := .int (gX7_players S)) (C := RX7) (T := TX7) (N := 5) hx hb hts hinX7 hown hK hP 0 rfl rfl 0 (by decide) hf21 (fun _ h9 => h9) rfl dX7_seat_14 ?_
    refine lv_iload_n hx hb dX7_seat_17 rfl (lv_at hl 1 rfl) ?_
    obtain ⟨g3, h⟩ := gd_some h
    refine r_ast (f := (gX7_order S)) (f' := (upd (gX7_order S) (((gX7_players S)).toNatClampNeg) p1)) (n := 12) (ws' := (wX7 cy a o (uX7_order S (upd (gX7_order S) (((gX7_players S)).toNatClampNeg) p1)))) hx hb hK hP hD hS 1 0 rfl rfl (gIn_in g3) rfl rfl dX7_seat_18 (fun H locs hP hD hS => ?_)
    obtain ⟨S4, eS5, h⟩ := lt_elim h
    have hP : va_P D vwCl (wX7 cy a o S4) H := by rw [eS5]; exact hP
    have hD : va_D (va_A (wX7 cy a o S) s.heap.size) (wX7 cy a o S4) := by rw [eS5]; exact hD
    refine lv_aload_n hx hb dX7_seat_19 rfl (lv_at hl 0 rfl) ?_
    refine lv_dup hx hb dX7_seat_20 rfl ?_
    refine va_get (D := D) (ci := 7) (v := .int (gX7_players S4)) (C := RX7) (T := TX7) (N := 5) hx hb hts hinX7 hown hK hP 0 rfl rfl 0 (by decide) hf21 (fun _ h9 => h9) rfl dX7_seat_21 ?_
    refine lv_iconst (v := (1 : Int32)) hx hb dX7_seat_24 (by decide) ?_
    refine lv_iadd hx hb dX7_seat_25 ?_
    refine va_put (D := D) (ci := 7) (v := .int ((gX7_players S4) + (1 : Int32))) (ty := .int) (C := RX7) (T := TX7) (N := 5) hx hb hts hinX7 tyX7 tyX7_ok nmX7 hown hK hP hD hS 0 rfl rfl 0 (by decide) hf21 (fun _ h9 => h9) rfl (by decide +kernel) rfl rfl (Nat.le_of_ble_eq_true rfl) dX7_seat_26 (fun H locs hP hD hS => ?_)
    have hP : va_P D vwCl (wX7 cy a o (uX7_players S4 ((gX7_players S4) + (1 : Int32)))) H := hP
    have hD : va_D (va_A (wX7 cy a o S) s.heap.size) (wX7 cy a o (uX7_players S4 ((gX7_players S4) + (1 : Int32)))) := hD
    obtain ⟨S6, eS7, h⟩ := lt_elim h
    have hP : va_P D vwCl (wX7 cy a o S6) H := by rw [eS7]; exact hP
    have hD : va_D (va_A (wX7 cy a o S) s.heap.size) (wX7 cy a o S6) := by rw [eS7]; exact hD
    exact Jj2 S6 H locs ls h hP hD hS (lv_sub hl [] rfl)
set_option maxHeartbeats 4000000 in
set_option maxRecDepth 100000 in
theorem qX2_putOut (l : Launch) (D : va_G) (cy : Nat → ClassId) (a : Nat → Nat) (o : Nat) (S : SX2) (p1 : Int32) (sz : Nat) (rs : SX2) (h : DX2_putOut S p1 = some rs) : Met l yX2_putOut wsX2_putOut ({ frames := 1, cells := 0, slots := 0, locals := 21 } : Room) (mP D cy sz [.ref (a o), .int p1] (wX2 cy a o S)) (va_Qv (fun (u : SX2) => u = rs) (fun u t => mB D sz (wX2 cy a o S) (wX2 cy a o u) t) (va_A (wX2 cy a o S) sz)) 0 0 (va_A (wX2 cy a o S) sz) := by
  refine Met.ofW (cc := cX2_putOut) (maxL := 2) (ret := none) (by decide) rfl ?_
  intro p e s m args below meth c s₁ B hml hv
  obtain ⟨rfl, hsz, hP, hG, hD0⟩ := hv
  have hx := B.exec
  have hb := B.bytes
  have hr := B.returns
  have hts := atoms_spec (ws := wsX2_putOut) B.pre
  have hown : s.vm.findClass RX2 = some m.cls := findClass_of_methodNamed B.named
  have hlocks := B.notSynchronized
  have hK := hG.1
  subst hsz
  have hD := hD0.self (sz := s.heap.size)
  have hA : ∀ q : Nat, s.heap.size ≤ q → (va_A (wX2 cy a o S) s.heap.size) q := fun q h => Or.inr h
  have hS : va_S (va_A (wX2 cy a o S) s.heap.size) s.heap s.heap [] := va_S.rf
  have hinX2 := (by decide +kernel : ∀ w ∈ wsX20, w ∈ wsX2_putOut)
  have hf9 := hts (.fieldLink RX2 9 "PianoRounds$Entrants" "in" "[I") (by decide +kernel)
  have hl := lv_entry ([.ref (a o), .int p1]) (n := 2) (Nat.le_of_ble_eq_true rfl)
  rw [lg_entry_eq]
  generalize (lg_sl ([.ref (a o), .int p1]) ++ List.replicate (2 - (lg_sl ([.ref (a o), .int p1])).length) Slot.unset).toArray = ls at hl ⊢
  have hl : lv_has ls 2 [(0, .ref (a o)), (1, .int p1)] := hl
  rw [DX2_putOut] at h
  refine lv_aload_n hx hb dX2_putOut_0 rfl (lv_at hl 0 rfl) ?_
  refine lv_iload_n hx hb dX2_putOut_1 rfl (lv_at hl 1 rfl) ?_
  obtain ⟨x1, e2, h⟩ := bd_some h
  refine pcV (As := [.int p1]) (rest := []) (q0 := 0) (qX2_has l D cy a o S p1 x1 e2) ⟨hx, hb, hml, hown, hts⟩ (cwV 1 hts gX2_putOut_X2_has rfl rfl rfl (by decide +kernel) ⟨Nat.le_of_ble_eq_true rfl, Nat.le_of_ble_eq_true rfl⟩) hG hP rfl rfl rfl hl.1 rfl (Nat.le_of_ble_eq_true rfl) dX2_putOut_2 ⟨Nat.zero_le _, Nat.zero_le _⟩ ?_
  obtain ⟨j4, hj4, h⟩ := jn_elim h
  have Jj4 : ∀ (S3 : SX2) (H : Heap) (locs : List Loc) (ls : Array Slot), j4 S3 = some rs → va_P D vwCl (wX2 cy a o S3) H → va_D (va_A (wX2 cy a o S) s.heap.size) (wX2 cy a o S3) → va_S (va_A (wX2 cy a o S) s.heap.size) s.heap H locs → lv_has ls 2 [] → W p l e (headSpec wsX2_putOut ({ frames := 1, cells := 0, slots := 0, locals := 21 } : Room)).room s m ([.ref (a o), .int p1] : List Value).toArray below meth c H locs 0 0 (MQ below (va_Qv (fun (u : SX2) => u = rs) (fun u t => mB D s.heap.size (wX2 cy a o S) (wX2 cy a o u) t) (va_A (wX2 cy a o S) s.heap.size)) ([.ref (a o), .int p1] : List Value).toArray s 0 0 (va_A (wX2 cy a o S) s.heap.size)) (F0 m 15 ls []) := by
    intro S3 H locs ls h hP hD hS hl
    rw [hj4] at h
    exact W.vret hx hb hr (fun t ht hW => ⟨⟨S3, rfl, some_in h, by rw [ht]; exact hP, hD⟩, hS.F ht⟩) hS.2.2 dX2_putOut_15
  refine lv_if_eq (tgt := 15) hx hb dX2_putOut_5 (by decide) (fun cc => ?_) (fun cc => ?_)
  · have h := ite_p cc h
    exact Jj4 S s.heap [] ls h hP hD hS (lv_sub hl [] rfl)
  · have h := ite_n cc h
    refine lv_aload_n hx hb dX2_putOut_8 rfl (lv_at hl 0 rfl) ?_
    refine va_get (D := D) (ci := 2) (v := .ref (a (o + 1))) (C := RX2) (T := TX2) (N := 2) hx hb hts hinX2 hown hK hP 0 rfl rfl 1 (by decide) hf9 (fun _ h9 => h9) rfl dX2_putOut_9 ?_
    refine lv_iload_n hx hb dX2_putOut_12 rfl (lv_at hl 1 rfl) ?_
    refine lv_iconst (v := (0 : Int32)) hx hb dX2_putOut_13 (by decide) ?_
    obtain ⟨g5, h⟩ := gd_some h
    refine r_ast (f := (gX2_in S)) (f' := (upd (gX2_in S) ((p1).toNatClampNeg) (0 : Int32))) (n := 12) (ws' := (wX2 cy a o (uX2_in S (upd (gX2_in S) ((p1).toNatClampNeg) (0 : Int32))))) hx hb hK hP hD hS 1 0 rfl rfl (gIn_in g5) rfl rfl dX2_putOut_14 (fun H locs hP hD hS => ?_)
    obtain ⟨S6, eS7, h⟩ := lt_elim h
    have hP : va_P D vwCl (wX2 cy a o S6) H := by rw [eS7]; exact hP
    have hD : va_D (va_A (wX2 cy a o S) s.heap.size) (wX2 cy a o S6) := by rw [eS7]; exact hD
    exact Jj4 S6 H locs ls h hP hD hS (lv_sub hl [] rfl)
set_option maxHeartbeats 4000000 in
set_option maxRecDepth 100000 in
theorem qX7_exchange (l : Launch) (D : va_G) (cy : Nat → ClassId) (a : Nat → Nat) (o : Nat) (S : SX7) (p1 : Int32) (p2 : Int32) (sz : Nat) (rs : SX7) (h : DX7_exchange S p1 p2 = some rs) : Met l yX7_exchange wsX7_exchange ({ frames := 1, cells := 0, slots := 0, locals := 22 } : Room) (mP D cy sz [.ref (a o), .int p1, .int p2] (wX7 cy a o S)) (va_Qv (fun (u : SX7) => u = rs) (fun u t => mB D sz (wX7 cy a o S) (wX7 cy a o u) t) (va_A (wX7 cy a o S) sz)) 0 0 (va_A (wX7 cy a o S) sz) := by
  refine Met.ofW (cc := cX7_exchange) (maxL := 4) (ret := none) (by decide) rfl ?_
  intro p e s m args below meth c s₁ B hml hv
  obtain ⟨rfl, hsz, hP, hG, hD0⟩ := hv
  have hx := B.exec
  have hb := B.bytes
  have hr := B.returns
  have hts := atoms_spec (ws := wsX7_exchange) B.pre
  have hown : s.vm.findClass RX7 = some m.cls := findClass_of_methodNamed B.named
  have hlocks := B.notSynchronized
  have hK := hG.1
  subst hsz
  have hD := hD0.self (sz := s.heap.size)
  have hA : ∀ q : Nat, s.heap.size ≤ q → (va_A (wX7 cy a o S) s.heap.size) q := fun q h => Or.inr h
  have hS : va_S (va_A (wX7 cy a o S) s.heap.size) s.heap s.heap [] := va_S.rf
  have hinX7 := (by decide +kernel : ∀ w ∈ wsX70, w ∈ wsX7_exchange)
  have hf9 := hts (.fieldLink RX7 9 "PianoRounds$Stage" "order" "[I") (by decide +kernel)
  have hl := lv_entry ([.ref (a o), .int p1, .int p2]) (n := 4) (Nat.le_of_ble_eq_true rfl)
  rw [lg_entry_eq]
  generalize (lg_sl ([.ref (a o), .int p1, .int p2]) ++ List.replicate (4 - (lg_sl ([.ref (a o), .int p1, .int p2])).length) Slot.unset).toArray = ls at hl ⊢
  have hl : lv_has ls 4 [(0, .ref (a o)), (1, .int p1), (2, .int p2)] := hl
  rw [DX7_exchange] at h
  refine lv_iload_n hx hb dX7_exchange_0 rfl (lv_at hl 1 rfl) ?_
  refine lv_iconst (v := (0 : Int32)) hx hb dX7_exchange_1 (by decide) ?_
  refine lv_bipush (v := (11 : Int32)) hx hb dX7_exchange_2 (by decide) ?_
  obtain ⟨x1, e2, h⟩ := bd_some h
  refine pcSN (As := [.int p1, .int (0 : Int32), .int (11 : Int32)]) (rest := []) (qX11_isBetween l D cy  p1 (0 : Int32) (11 : Int32) x1 e2) ⟨hx, hb, hml, hown, hts⟩ ⟨va_cnB (y := yX11_isBetween) 3 hts gX7_exchange_X11_isBetween_n50 rfl rfl rfl (hG.2.2.1 (.methodLinkNest "PianoRounds$Stage" 50 ⟨"PianoRounds", "isBetween", "(III)Z"⟩ "PianoRounds") (by decide +kernel)) (hts (.initialized RX11) (by decide +kernel)) (by decide +kernel) ⟨Nat.le_of_ble_eq_true rfl, Nat.le_of_ble_eq_true rfl⟩, hts (.static yX11_isBetween) (by decide +kernel), trivial⟩ hG (hP.sub [] rfl) rfl hl.1 rfl (Nat.le_of_ble_eq_true rfl) dX7_exchange_4 ⟨Nat.zero_le _, Nat.zero_le _⟩ ?_
  obtain ⟨j4, hj4, h⟩ := jn_elim h
  have Jj4 : ∀ (S3 : SX7) (H : Heap) (locs : List Loc) (ls : Array Slot), j4 S3 = some rs → va_P D vwCl (wX7 cy a o S3) H → va_D (va_A (wX7 cy a o S) s.heap.size) (wX7 cy a o S3) → va_S (va_A (wX7 cy a o S) s.heap.size) s.heap H locs → lv_has ls 4 [] → W p l e (headSpec wsX7_exchange ({ frames := 1, cells := 0, slots := 0, locals := 22 } : Room)).room s m ([.ref (a o), .int p1, .int p2] : List Value).toArray below meth c H locs 0 0 (MQ below (va_Qv (fun (u : SX7) => u = rs) (fun u t => mB D s.heap.size (wX7 cy a o S) (wX7 cy a o u) t) (va_A (wX7 cy a o S) s.heap.size)) ([.ref (a o), .int p1, .int p2] : List Value).toArray s 0 0 (va_A (wX7 cy a o S) s.heap.size)) (F0 m 46 ls []) := by
    intro S3 H locs ls h hP hD hS hl
    rw [hj4] at h
    exact W.vret hx hb hr (fun t ht hW => ⟨⟨S3, rfl, some_in h, by rw [ht]; exact hP, hD⟩, hS.F ht⟩) hS.2.2 dX7_exchange_46
  refine lv_if_eq (tgt := 46) hx hb dX7_exchange_7 (by decide) (fun cc => ?_) (fun cc => ?_)
  · have h := ite_p cc h
    exact Jj4 S s.heap [] ls h hP hD hS (lv_sub hl [] rfl)
  · have h := ite_n cc h
    refine lv_iload_n hx hb dX7_exchange_10 rfl (lv_at hl 2 rfl) ?_
    refine lv_iconst (v := (0 : Int32)) hx hb dX7_exchange_11 (by decide) ?_
    refine lv_bipush (v := (11 : Int32)) hx hb dX7_exchange_12 (by decide) ?_
    obtain ⟨x5, e6, h⟩ := bd_some h
    refine pcSN (As := [.int p2, .int (0 : Int32), .int (11 : Int32)]) (rest := []) (qX11_isBetween l D cy  p2 (0 : Int32) (11 : Int32) x5 e6) ⟨hx, hb, hml, hown, hts⟩ ⟨va_cnB (y := yX11_isBetween) 3 hts gX7_exchange_X11_isBetween_n50 rfl rfl rfl (hG.2.2.1 (.methodLinkNest "PianoRounds$Stage" 50 ⟨"PianoRounds", "isBetween", "(III)Z"⟩ "PianoRounds") (by decide +kernel)) (hts (.initialized RX11) (by decide +kernel)) (by decide +kernel) ⟨Nat.le_of_ble_eq_true rfl, Nat.le_of_ble_eq_true rfl⟩, hts (.static yX11_isBetween) (by decide +kernel), trivial⟩ hG (hP.sub [] rfl) rfl hl.1 rfl (Nat.le_of_ble_eq_true rfl) dX7_exchange_14 ⟨Nat.zero_le _, Nat.zero_le _⟩ ?_
    refine lv_if_eq (tgt := 46) hx hb dX7_exchange_17 (by decide) (fun cc => ?_) (fun cc => ?_)
    · have h := ite_p cc h
      exact Jj4 S s.heap [] ls h hP hD hS (lv_sub hl [] rfl)
    · have h := ite_n cc h
      refine lv_aload_n hx hb dX7_exchange_20 rfl (lv_at hl 0 rfl) ?_
      refine va_get (D := D) (ci := 7) (v := .ref (a (o + 1))) (C := RX7) (T := TX7) (N := 5) hx hb hts hinX7 hown hK hP 0 rfl rfl 3 (by decide) hf9 (fun _ h9 => h9) rfl dX7_exchange_21 ?_
      refine lv_iload_n hx hb dX7_exchange_24 rfl (lv_at hl 1 rfl) ?_
      obtain ⟨g7, h⟩ := gd_some h
      refine r_ald (f := (gX7_order S)) (n := 12) (v := ((gX7_order S) ((p1).toNatClampNeg))) hx hb hK hP 1 0 rfl rfl (gIn_in g7) rfl dX7_exchange_25 ?_
      refine lv_istore_n (lv' := [(3, .int ((gX7_order S) ((p1).toNatClampNeg))), (0, .ref (a o)), (1, .int p1), (2, .int p2)]) hx hb dX7_exchange_26 rfl hl (by decide) rfl (fun ls hl => ?_)
      refine lv_aload_n hx hb dX7_exchange_27 rfl (lv_at hl 1 rfl) ?_
      refine va_get (D := D) (ci := 7) (v := .ref (a (o + 1))) (C := RX7) (T := TX7) (N := 5) hx hb hts hinX7 hown hK hP 0 rfl rfl 3 (by decide) hf9 (fun _ h9 => h9) rfl dX7_exchange_28 ?_
      refine lv_iload_n hx hb dX7_exchange_31 rfl (lv_at hl 2 rfl) ?_
      refine lv_aload_n hx hb dX7_exchange_32 rfl (lv_at hl 1 rfl) ?_
      refine va_get (D := D) (ci := 7) (v := .ref (a (o + 1))) (C := RX7) (T := TX7) (N := 5) hx hb hts hinX7 hown hK hP 0 rfl rfl 3 (by decide) hf9 (fun _ h9 => h9) rfl dX7_exchange_33 ?_
      refine lv_iload_n hx hb dX7_exchange_36 rfl (lv_at hl 3 rfl) ?_
      obtain ⟨g8, h⟩ := gd_some h
      refine r_ald (f := (gX7_order S)) (n := 12) (v := ((gX7_order S) ((p2).toNatClampNeg))) hx hb hK hP 1 0 rfl rfl (gIn_in g8) rfl dX7_exchange_37 ?_
      obtain ⟨g9, h⟩ := gd_some h
      refine r_ast (f := (gX7_order S)) (f' := (upd (gX7_order S) ((p1).toNatClampNeg) ((gX7_order S) ((p2).toNatClampNeg)))) (n := 12) (ws' := (wX7 cy a o (uX7_order S (upd (gX7_order S) ((p1).toNatClampNeg) ((gX7_order S) ((p2).toNatClampNeg)))))) hx hb hK hP hD hS 1 0 rfl rfl (gIn_in g9) rfl rfl dX7_exchange_38 (fun H locs hP hD hS => ?_)
      obtain ⟨S10, eS11, h⟩ := lt_elim h
      have hP : va_P D vwCl (wX7 cy a o S10) H := by rw [eS11]; exact hP
      have hD : va_D (va_A (wX7 cy a o S) s.heap.size) (wX7 cy a o S10) := by rw [eS11]; exact hD
      refine lv_aload_n hx hb dX7_exchange_39 rfl (lv_at hl 1 rfl) ?_
      refine va_get (D := D) (ci := 7) (v := .ref (a (o + 1))) (C := RX7) (T := TX7) (N := 5) hx hb hts hinX7 hown hK hP 0 rfl rfl 3 (by decide) hf9 (fun _ h9 => h9) rfl dX7_exchange_40 ?_
      refine lv_iload_n hx hb dX7_exchange_43 rfl (lv_at hl 3 rfl) ?_
      refine lv_iload_n hx hb dX7_exchange_44 rfl (lv_at hl 0 rfl) ?_
      obtain ⟨g12, h⟩ := gd_some h
      refine r_ast (f := (gX7_order S10)) (f' := (upd (gX7_order S10) ((p2).toNatClampNeg) ((gX7_order S) ((p1).toNatClampNeg)))) (n := 12) (ws' := (wX7 cy a o (uX7_order S10 (upd (gX7_order S10) ((p2).toNatClampNeg) ((gX7_order S) ((p1).toNatClampNeg)))))) hx hb hK hP hD hS 1 0 rfl rfl (gIn_in g12) rfl rfl dX7_exchange_45 (fun H locs hP hD hS => ?_)
      obtain ⟨S13, eS14, h⟩ := lt_elim h
      have hP : va_P D vwCl (wX7 cy a o S13) H := by rw [eS14]; exact hP
      have hD : va_D (va_A (wX7 cy a o S) s.heap.size) (wX7 cy a o S13) := by rw [eS14]; exact hD
      exact Jj4 S13 H locs ls h hP hD hS (lv_sub hl [] rfl)
set_option maxHeartbeats 4000000 in
set_option maxRecDepth 100000 in
theorem qX7_drawLots (l : Launch) (D : va_G) (cy : Nat → ClassId) (a : Nat → Nat) (o : Nat) (S : SX7)  (sz : Nat) (rs : SX7) (h : DX7_drawLots S = some rs) : Met l yX7_drawLots wsX7_drawLots ({ frames := 2, cells := 0, slots := 0, locals := 45 } : Room) (mP D cy sz [.ref (a o)] (wX7 cy a o S)) (va_Qv (fun (u : SX7) => u = rs) (fun u t => mB D sz (wX7 cy a o S) (wX7 cy a o u) t) (va_A (wX7 cy a o S) sz)) 0 0 (va_A (wX7 cy a o S) sz) := by
  refine Met.ofW (cc := cX7_drawLots) (maxL := 2) (ret := none) (by decide) rfl ?_
  intro p e s m args below meth c s₁ B hml hv
  obtain ⟨rfl, hsz, hP, hG, hD0⟩ := hv
  have hx := B.exec
  have hb := B.bytes
  have hr := B.returns
  have hts := atoms_spec (ws := wsX7_drawLots) B.pre
  have hown : s.vm.findClass RX7 = some m.cls := findClass_of_methodNamed B.named
  have hlocks := B.notSynchronized
  have hK := hG.1
  subst hsz
  have hD := hD0.self (sz := s.heap.size)
  have hA : ∀ q : Nat, s.heap.size ≤ q → (va_A (wX7 cy a o S) s.heap.size) q := fun q h => Or.inr h
  have hS : va_S (va_A (wX7 cy a o S) s.heap.size) s.heap s.heap [] := va_S.rf
  have hinX7 := (by decide +kernel : ∀ w ∈ wsX70, w ∈ wsX7_drawLots)
  have hf21 := hts (.fieldLink RX7 21 "PianoRounds$Stage" "players" "I") (by decide +kernel)
  have hf34 := hts (.fieldLink RX7 34 "PianoRounds$Stage" "seed" "J") (by decide +kernel)
  have hl := lv_entry ([.ref (a o)]) (n := 2) (Nat.le_of_ble_eq_true rfl)
  rw [lg_entry_eq]
  generalize (lg_sl ([.ref (a o)]) ++ List.replicate (2 - (lg_sl ([.ref (a o)])).length) Slot.unset).toArray = ls at hl ⊢
  have hl : lv_has ls 2 [(0, .ref (a o))] := hl
  rw [DX7_drawLots] at h
  refine lv_aload_n hx hb dX7_drawLots_0 rfl (lv_at hl 0 rfl) ?_
  refine va_get (D := D) (ci := 7) (v := .int (gX7_players S)) (C := RX7) (T := TX7) (N := 5) hx hb hts hinX7 hown hK hP 0 rfl rfl 0 (by decide) hf21 (fun _ h9 => h9) rfl dX7_drawLots_1 ?_
  refine lv_iconst (v := (1 : Int32)) hx hb dX7_drawLots_4 (by decide) ?_
  refine lv_isub hx hb dX7_drawLots_5 ?_
  refine lv_istore_n (lv' := [(1, .int ((gX7_players S) - (1 : Int32))), (0, .ref (a o))]) hx hb dX7_drawLots_6 rfl hl (by decide) rfl (fun ls hl => ?_)
  have L13 : ∀ (k2 : SX7 → Option (SX7)) (hk2 : ∀ (S3 : SX7) (H : Heap) (locs : List Loc) (ls : Array Slot), k2 S3 = some rs → va_P D vwCl (wX7 cy a o S3) H → va_D (va_A (wX7 cy a o S) s.heap.size) (wX7 cy a o S3) → va_S (va_A (wX7 cy a o S) s.heap.size) s.heap H locs → lv_has ls 2 [] → W p l e (headSpec wsX7_drawLots ({ frames := 2, cells := 0, slots := 0, locals := 45 } : Room)).room s m ([.ref (a o)] : List Value).toArray below meth c H locs 0 0 (MQ below (va_Qv (fun (u : SX7) => u = rs) (fun u t => mB D s.heap.size (wX7 cy a o S) (wX7 cy a o u) t) (va_A (wX7 cy a o S) s.heap.size)) ([.ref (a o)] : List Value).toArray s 0 0 (va_A (wX7 cy a o S) s.heap.size)) (F0 m 57 ls [])) (f : Nat) (v1_5 : Int32) (S1 : SX7) (H : Heap) (locs : List Loc) (ls : Array Slot), DX7_drawLots_L7 k2 f v1_5 S1 = some rs → va_P D vwCl (wX7 cy a o S1) H → va_D (va_A (wX7 cy a o S) s.heap.size) (wX7 cy a o S1) → va_S (va_A (wX7 cy a o S) s.heap.size) s.heap H locs → lv_has ls 2 [(0, .ref (a o)), (1, .int v1_5)] → W p l e (headSpec wsX7_drawLots ({ frames := 2, cells := 0, slots := 0, locals := 45 } : Room)).room s m ([.ref (a o)] : List Value).toArray below meth c H locs 0 0 (MQ below (va_Qv (fun (u : SX7) => u = rs) (fun u t => mB D s.heap.size (wX7 cy a o S) (wX7 cy a o u) t) (va_A (wX7 cy a o S) s.heap.size)) ([.ref (a o)] : List Value).toArray s 0 0 (va_A (wX7 cy a o S) s.heap.size)) (F0 m 7 ls []) := by
    intro k2 hk2 f
    induction f with
    | zero =>
      intro v1_5 S1 H locs ls h hP hD hS hl
      rw [DX7_drawLots_L7] at h
      cases h
    | succ f ih =>
      intro v1_5 S1 H locs ls h hP hD hS hl
      rw [DX7_drawLots_L7] at h
      refine lv_iload_n hx hb dX7_drawLots_7 rfl (lv_at hl 1 rfl) ?_
      refine lv_iconst (v := (1 : Int32)) hx hb dX7_drawLots_8 (by decide) ?_
      refine lv_icmp_lt (tgt := 57) hx hb dX7_drawLots_9 (by decide) (fun cc => ?_) (fun cc => ?_)
      · have h := ite_p cc h
        exact hk2 S1 H locs ls h hP hD hS (lv_sub hl [] rfl)
      · have h := ite_n cc h
        refine lv_aload_n hx hb dX7_drawLots_12 rfl (lv_at hl 0 rfl) ?_
        refine lv_aload_n hx hb dX7_drawLots_13 rfl (lv_at hl 0 rfl) ?_
        refine va_get (D := D) (ci := 7) (v := .long (gX7_seed S1)) (C := RX7) (T := TX7) (N := 5) hx hb hts hinX7 hown hK hP 0 rfl rfl 2 (by decide) hf34 (fun _ h9 => h9) rfl dX7_drawLots_14 ?_
        refine lv_ldc2 (v := (1103515245 : Int64)) hx hb hown (hts (.constantLong RX7 38 (1103515245 : Int64)) (by decide +kernel)) dX7_drawLots_17 ?_
        refine lv_lmul hx hb dX7_drawLots_20 ?_
        refine lv_ldc2 (v := (12345 : Int64)) hx hb hown (hts (.constantLong RX7 40 (12345 : Int64)) (by decide +kernel)) dX7_drawLots_21 ?_
        refine lv_ladd hx hb dX7_drawLots_24 ?_
        refine lv_ldc2 (v := (2147483648 : Int64)) hx hb hown (hts (.constantLong RX7 42 (2147483648 : Int64)) (by decide +kernel)) dX7_drawLots_25 ?_
        refine lv_lrem hx hb dX7_drawLots_28 (by decide) ?_
        obtain ⟨y6, ey7, h⟩ := lt_elim h
        refine nmL ey7 ?_
        refine va_put (D := D) (ci := 7) (v := .long y6) (ty := .long) (C := RX7) (T := TX7) (N := 5) hx hb hts hinX7 tyX7 tyX7_ok nmX7 hown hK hP hD hS 0 rfl rfl 2 (by decide) hf34 (fun _ h9 => h9) rfl (by decide +kernel) rfl rfl (Nat.le_of_ble_eq_true rfl) dX7_drawLots_29 (fun H locs hP hD hS => ?_)
        have hP : va_P D vwCl (wX7 cy a o (uX7_seed S1 y6)) H := hP
        have hD : va_D (va_A (wX7 cy a o S) s.heap.size) (wX7 cy a o (uX7_seed S1 y6)) := hD
        obtain ⟨S8, eS9, h⟩ := lt_elim h
        have hP : va_P D vwCl (wX7 cy a o S8) H := by rw [eS9]; exact hP
        have hD : va_D (va_A (wX7 cy a o S) s.heap.size) (wX7 cy a o S8) := by rw [eS9]; exact hD
        refine lv_aload_n hx hb dX7_drawLots_32 rfl (lv_at hl 0 rfl) ?_
        refine lv_iload_n hx hb dX7_drawLots_33 rfl (lv_at hl 1 rfl) ?_
        refine lv_aload_n hx hb dX7_drawLots_34 rfl (lv_at hl 0 rfl) ?_
        refine va_get (D := D) (ci := 7) (v := .long (gX7_seed S8)) (C := RX7) (T := TX7) (N := 5) hx hb hts hinX7 hown hK hP 0 rfl rfl 2 (by decide) hf34 (fun _ h9 => h9) rfl dX7_drawLots_35 ?_
        refine lv_ldc2 (v := (65536 : Int64)) hx hb hown (hts (.constantLong RX7 44 (65536 : Int64)) (by decide +kernel)) dX7_drawLots_38 ?_
        refine lv_ldiv hx hb dX7_drawLots_41 (by decide) ?_
        refine lv_iload_n hx hb dX7_drawLots_42 rfl (lv_at hl 1 rfl) ?_
        refine lv_iconst (v := (1 : Int32)) hx hb dX7_drawLots_43 (by decide) ?_
        refine lv_iadd hx hb dX7_drawLots_44 ?_
        refine lv_i2l (v := ((v1_5 + (1 : Int32))).toInt64) hx hb dX7_drawLots_45 rfl ?_
        obtain ⟨g10, h⟩ := gzL_some h
        refine lv_lrem hx hb dX7_drawLots_46 g10 ?_
        refine lv_l2i (v := ((((gX7_seed S8) / (65536 : Int64)) - ((gX7_seed S8) / (65536 : Int64)) / ((v1_5 + (1 : Int32))).toInt64 * ((v1_5 + (1 : Int32))).toInt64)).toInt32) hx hb dX7_drawLots_47 rfl ?_
        obtain ⟨x11, e12, h⟩ := bd_some h
        refine smVv (As := [.int v1_5, .int (((((gX7_seed S8) / (65536 : Int64)) - ((gX7_seed S8) / (65536 : Int64)) / ((v1_5 + (1 : Int32))).toInt64 * ((v1_5 + (1 : Int32))).toInt64)).toInt32)]) (rest := []) (ws' := (wX7 cy a o x11)) (q0 := 0) (qX7_exchange l D cy a o S8 v1_5 (((((gX7_seed S8) / (65536 : Int64)) - ((gX7_seed S8) / (65536 : Int64)) / ((v1_5 + (1 : Int32))).toInt64 * ((v1_5 + (1 : Int32))).toInt64)).toInt32) (H).size x11 e12) ⟨hx, hb, hml, hown, hts⟩ (cwV 2 hts gX7_drawLots_X7_exchange rfl rfl rfl (by decide +kernel) ⟨Nat.le_of_ble_eq_true rfl, Nat.le_of_ble_eq_true rfl⟩) hG hP hD hS hA (pm1 (X := ([] : va_W)) (c := (wX7 cy a o S8)) (Y := ([] : va_W)) (show (wX7 cy a o S8) = ([] : va_W) ++ ((wX7 cy a o S8) ++ ([] : va_W)) from by simp only [List.append_assoc, List.nil_append, List.append_nil] <;> rfl)) (pm1 (X := ([] : va_W)) (c := (wX7 cy a o x11)) (Y := ([] : va_W)) (show (wX7 cy a o x11) = ([] : va_W) ++ ((wX7 cy a o x11) ++ ([] : va_W)) from by simp only [List.append_assoc, List.nil_append, List.append_nil] <;> rfl)) rfl rfl rfl hl.1 rfl (Nat.le_of_ble_eq_true rfl) dX7_drawLots_48 ⟨Nat.zero_le _, Nat.zero_le _⟩ (fun H locs hP hD hS => ?_)
        refine lv_iinc (v := (v1_5 + (-1 : Int32))) (lv' := [(1, .int (v1_5 + (-1 : Int32))), (0, .ref (a o))]) hx hb dX7_drawLots_51 hl (k := 1) rfl (by rfl) (by decide) rfl (fun ls hl => ?_)
        refine lv_goto (tgt := 7) hx hb dX7_drawLots_54 (by decide) ?_
        exact ih (v1_5 + (-1 : Int32)) x11 H locs ls h hP hD hS (lv_sub hl [1, 0] rfl)
  refine L13  _ ?_ fu ((gX7_players S) - (1 : Int32)) S s.heap [] ls h hP hD hS (lv_sub hl [1, 0] rfl)
  intro S4 H locs ls h hP hD hS hl
  exact W.vret hx hb hr (fun t ht hW => ⟨⟨S4, rfl, some_in h, by rw [ht]; exact hP, hD⟩, hS.F ht⟩) hS.2.2 dX7_drawLots_57
set_option maxHeartbeats 4000000 in
set_option maxRecDepth 100000 in
theorem qX0_startRound (l : Launch) (D : va_G) (cy : Nat → ClassId) (a : Nat → Nat) (o : Nat) (S : SX0) (p1 : Int32) (sz : Nat) (rs : SX0) (h : DX0_startRound S p1 = some rs) : Met l yX0_startRound wsX0_startRound ({ frames := 4, cells := 0, slots := 0, locals := 99 } : Room) (mP D cy sz [.ref (a o), .int p1] (wX0 cy a o S)) (va_Qv (fun (u : SX0) => u = rs) (fun u t => mB D sz (wX0 cy a o S) (wX0 cy a o u) t) (va_A (wX0 cy a o S) sz)) 0 0 (va_A (wX0 cy a o S) sz) := by
  refine Met.ofW (cc := cX0_startRound) (maxL := 3) (ret := none) (by decide) rfl ?_
  intro p e s m args below meth c s₁ B hml hv
  obtain ⟨rfl, hsz, hP, hG, hD0⟩ := hv
  have hx := B.exec
  have hb := B.bytes
  have hr := B.returns
  have hts := atoms_spec (ws := wsX0_startRound) B.pre
  have hown : s.vm.findClass RX0 = some m.cls := findClass_of_methodNamed B.named
  have hlocks := B.notSynchronized
  have hK := hG.1
  subst hsz
  have hD := hD0.self (sz := s.heap.size)
  have hA : ∀ q : Nat, s.heap.size ≤ q → (va_A (wX0 cy a o S) s.heap.size) q := fun q h => Or.inr h
  have hS : va_S (va_A (wX0 cy a o S) s.heap.size) s.heap s.heap [] := va_S.rf
  have hinX0 := (by decide +kernel : ∀ w ∈ wsX00, w ∈ wsX0_startRound)
  have hf99 := hts (.fieldLink RX0 99 "PianoRounds$Competition" "round" "I") (by decide +kernel)
  have hf57 := hts (.fieldLink RX0 57 "PianoRounds$Competition" "stage" "LPianoRounds$Stage;") (by decide +kernel)
  have hf64 := hts (.fieldLink RX0 64 "PianoRounds$Competition" "sheet" "LPianoRounds$Sheet;") (by decide +kernel)
  have hinX7 := (by decide +kernel : ∀ w ∈ wsX70, w ∈ wsX0_startRound)
  have hf139 := va_Nw.use (A := ([.ref (a o), .int p1] : List Value).toArray) (U := s) (w := .fieldLinkNest "PianoRounds$Competition" 139 "PianoRounds$Stage" "players" "I" "PianoRounds") rfl (hG.2.1 _ (by decide +kernel))
  have hf9 := hts (.fieldLink RX0 9 "PianoRounds$Competition" "state" "I") (by decide +kernel)
  have hf31 := hts (.fieldLink RX0 31 "PianoRounds$Competition" "entrants" "LPianoRounds$Entrants;") (by decide +kernel)
  have hinX2 := (by decide +kernel : ∀ w ∈ wsX20, w ∈ wsX0_startRound)
  have hf134 := va_Nw.use (A := ([.ref (a o), .int p1] : List Value).toArray) (U := s) (w := .fieldLinkNest "PianoRounds$Competition" 134 "PianoRounds$Entrants" "count" "I" "PianoRounds") rfl (hG.2.1 _ (by decide +kernel))
  have hf43 := hts (.fieldLink RX0 43 "PianoRounds$Competition" "programs" "LPianoRounds$Programs;") (by decide +kernel)
  have hf37 := hts (.fieldLink RX0 37 "PianoRounds$Competition" "rules" "[[I") (by decide +kernel)
  have hf24 := hts (.fieldLink RX0 24 "PianoRounds$Competition" "works" "LPianoRounds$Works;") (by decide +kernel)
  have hl := lv_entry ([.ref (a o), .int p1]) (n := 3) (Nat.le_of_ble_eq_true rfl)
  rw [lg_entry_eq]
  generalize (lg_sl ([.ref (a o), .int p1]) ++ List.replicate (3 - (lg_sl ([.ref (a o), .int p1])).length) Slot.unset).toArray = ls at hl ⊢
  have hl : lv_has ls 3 [(0, .ref (a o)), (1, .int p1)] := hl
  rw [DX0_startRound] at h
  refine lv_aload_n hx hb dX0_startRound_0 rfl (lv_at hl 0 rfl) ?_
  refine lv_iload_n hx hb dX0_startRound_1 rfl (lv_at hl 1 rfl) ?_
  refine va_put (D := D) (ci := 0) (v := .int p1) (ty := .int) (C := RX0) (T := TX0) (N := 14) hx hb hts hinX0 tyX0 tyX0_ok nmX0 hown hK hP hD hS 0 rfl rfl 1 (by decide) hf99 (fun _ h9 => h9) rfl (by decide +kernel) rfl rfl (Nat.le_of_ble_eq_true rfl) dX0_startRound_2 (fun H locs hP hD hS => ?_)
  have hP : va_P D vwCl (wX0 cy a o (uX0_round S p1)) H := hP
  have hD : va_D (va_A (wX0 cy a o S) s.heap.size) (wX0 cy a o (uX0_round S p1)) := hD
  obtain ⟨S1, eS2, h⟩ := lt_elim h
  have hP : va_P D vwCl (wX0 cy a o S1) H := by rw [eS2]; exact hP
  have hD : va_D (va_A (wX0 cy a o S) s.heap.size) (wX0 cy a o S1) := by rw [eS2]; exact hD
  refine lv_aload_n hx hb dX0_startRound_5 rfl (lv_at hl 0 rfl) ?_
  refine va_get (D := D) (ci := 0) (v := .ref (a (o + 23))) (C := RX0) (T := TX0) (N := 14) hx hb hts hinX0 hown hK hP 0 rfl rfl 9 (by decide) hf57 (fun _ h9 => h9) rfl dX0_startRound_6 ?_
  obtain ⟨x3, e4, h⟩ := bd_some h
  refine smVv (As := []) (rest := []) (ws' := (wX0 cy a o (uX0_stage S1 x3))) (q0 := 0) (qX7_empty l D cy a (o + 23) (gX0_stage S1)  (H).size x3 e4) ⟨hx, hb, hml, hown, hts⟩ (cwV 0 hts gX0_startRound_X7_empty rfl rfl rfl (by decide +kernel) ⟨Nat.le_of_ble_eq_true rfl, Nat.le_of_ble_eq_true rfl⟩) hG hP hD hS hA (pm1 (X := ((hX0 a o S1) ++ ((wX10 cy a (o + 1) (gX0_works S1)) ++ ((wX2 cy a (o + 5) (gX0_entrants S1)) ++ ((rowsW (cy 2) (cy 0) a (o + 7) 4 6 (gX0_rules S1)) ++ ((wX4 cy a (o + 12) (gX0_programs S1)) ++ (wX3 cy a (o + 14) (gX0_jury S1)))))))) (c := (wX7 cy a (o + 23) (gX0_stage S1))) (Y := ((wX6 cy a (o + 26) (gX0_sheet S1)) ++ ((wX9 cy a (o + 35) (gX0_tie S1)) ++ ((rowsW (cy 2) (cy 0) a (o + 46) 4 12 (gX0_closedScores S1)) ++ (wX1 cy a (o + 51) (gX0_cut S1)))))) (show (wX0 cy a o S1) = ((hX0 a o S1) ++ ((wX10 cy a (o + 1) (gX0_works S1)) ++ ((wX2 cy a (o + 5) (gX0_entrants S1)) ++ ((rowsW (cy 2) (cy 0) a (o + 7) 4 6 (gX0_rules S1)) ++ ((wX4 cy a (o + 12) (gX0_programs S1)) ++ (wX3 cy a (o + 14) (gX0_jury S1))))))) ++ ((wX7 cy a (o + 23) (gX0_stage S1)) ++ ((wX6 cy a (o + 26) (gX0_sheet S1)) ++ ((wX9 cy a (o + 35) (gX0_tie S1)) ++ ((rowsW (cy 2) (cy 0) a (o + 46) 4 12 (gX0_closedScores S1)) ++ (wX1 cy a (o + 51) (gX0_cut S1)))))) from by simp only [wX0, List.append_assoc, List.nil_append, List.append_nil] <;> rfl)) (pm1 (X := ((hX0 a o S1) ++ ((wX10 cy a (o + 1) (gX0_works S1)) ++ ((wX2 cy a (o + 5) (gX0_entrants S1)) ++ ((rowsW (cy 2) (cy 0) a (o + 7) 4 6 (gX0_rules S1)) ++ ((wX4 cy a (o + 12) (gX0_programs S1)) ++ (wX3 cy a (o + 14) (gX0_jury S1)))))))) (c := (wX7 cy a (o + 23) x3)) (Y := ((wX6 cy a (o + 26) (gX0_sheet S1)) ++ ((wX9 cy a (o + 35) (gX0_tie S1)) ++ ((rowsW (cy 2) (cy 0) a (o + 46) 4 12 (gX0_closedScores S1)) ++ (wX1 cy a (o + 51) (gX0_cut S1)))))) (show (wX0 cy a o (uX0_stage S1 x3)) = ((hX0 a o S1) ++ ((wX10 cy a (o + 1) (gX0_works S1)) ++ ((wX2 cy a (o + 5) (gX0_entrants S1)) ++ ((rowsW (cy 2) (cy 0) a (o + 7) 4 6 (gX0_rules S1)) ++ ((wX4 cy a (o + 12) (gX0_programs S1)) ++ (wX3 cy a (o + 14) (gX0_jury S1))))))) ++ ((wX7 cy a (o + 23) x3) ++ ((wX6 cy a (o + 26) (gX0_sheet S1)) ++ ((wX9 cy a (o + 35) (gX0_tie S1)) ++ ((rowsW (cy 2) (cy 0) a (o + 46) 4 12 (gX0_closedScores S1)) ++ (wX1 cy a (o + 51) (gX0_cut S1)))))) from by simp only [wX0, List.append_assoc, List.nil_append, List.append_nil] <;> rfl)) rfl rfl rfl hl.1 rfl (Nat.le_of_ble_eq_true rfl) dX0_startRound_9 ⟨Nat.zero_le _, Nat.zero_le _⟩ (fun H locs hP hD hS => ?_)
  obtain ⟨S5, eS6, h⟩ := lt_elim h
  have hP : va_P D vwCl (wX0 cy a o S5) H := by rw [eS6]; exact hP
  have hD : va_D (va_A (wX0 cy a o S) s.heap.size) (wX0 cy a o S5) := by rw [eS6]; exact hD
  refine lv_aload_n hx hb dX0_startRound_12 rfl (lv_at hl 0 rfl) ?_
  refine va_get (D := D) (ci := 0) (v := .ref (a (o + 26))) (C := RX0) (T := TX0) (N := 14) hx hb hts hinX0 hown hK hP 0 rfl rfl 10 (by decide) hf64 (fun _ h9 => h9) rfl dX0_startRound_13 ?_
  obtain ⟨x7, e8, h⟩ := bd_some h
  refine smVv (As := []) (rest := []) (ws' := (wX0 cy a o (uX0_sheet S5 x7))) (q0 := 0) (qX6_wipe l D cy a (o + 26) (gX0_sheet S5)  (H).size x7 e8) ⟨hx, hb, hml, hown, hts⟩ (cwV 0 hts gX0_startRound_X6_wipe rfl rfl rfl (by decide +kernel) ⟨Nat.le_of_ble_eq_true rfl, Nat.le_of_ble_eq_true rfl⟩) hG hP hD hS hA (pm1 (X := ((hX0 a o S5) ++ ((wX10 cy a (o + 1) (gX0_works S5)) ++ ((wX2 cy a (o + 5) (gX0_entrants S5)) ++ ((rowsW (cy 2) (cy 0) a (o + 7) 4 6 (gX0_rules S5)) ++ ((wX4 cy a (o + 12) (gX0_programs S5)) ++ ((wX3 cy a (o + 14) (gX0_jury S5)) ++ (wX7 cy a (o + 23) (gX0_stage S5))))))))) (c := (wX6 cy a (o + 26) (gX0_sheet S5))) (Y := ((wX9 cy a (o + 35) (gX0_tie S5)) ++ ((rowsW (cy 2) (cy 0) a (o + 46) 4 12 (gX0_closedScores S5)) ++ (wX1 cy a (o + 51) (gX0_cut S5))))) (show (wX0 cy a o S5) = ((hX0 a o S5) ++ ((wX10 cy a (o + 1) (gX0_works S5)) ++ ((wX2 cy a (o + 5) (gX0_entrants S5)) ++ ((rowsW (cy 2) (cy 0) a (o + 7) 4 6 (gX0_rules S5)) ++ ((wX4 cy a (o + 12) (gX0_programs S5)) ++ ((wX3 cy a (o + 14) (gX0_jury S5)) ++ (wX7 cy a (o + 23) (gX0_stage S5)))))))) ++ ((wX6 cy a (o + 26) (gX0_sheet S5)) ++ ((wX9 cy a (o + 35) (gX0_tie S5)) ++ ((rowsW (cy 2) (cy 0) a (o + 46) 4 12 (gX0_closedScores S5)) ++ (wX1 cy a (o + 51) (gX0_cut S5))))) from by simp only [wX0, List.append_assoc, List.nil_append, List.append_nil] <;> rfl)) (pm1 (X := ((hX0 a o S5) ++ ((wX10 cy a (o + 1) (gX0_works S5)) ++ ((wX2 cy a (o + 5) (gX0_entrants S5)) ++ ((rowsW (cy 2) (cy 0) a (o + 7) 4 6 (gX0_rules S5)) ++ ((wX4 cy a (o + 12) (gX0_programs S5)) ++ ((wX3 cy a (o + 14) (gX0_jury S5)) ++ (wX7 cy a (o + 23) (gX0_stage S5))))))))) (c := (wX6 cy a (o + 26) x7)) (Y := ((wX9 cy a (o + 35) (gX0_tie S5)) ++ ((rowsW (cy 2) (cy 0) a (o + 46) 4 12 (gX0_closedScores S5)) ++ (wX1 cy a (o + 51) (gX0_cut S5))))) (show (wX0 cy a o (uX0_sheet S5 x7)) = ((hX0 a o S5) ++ ((wX10 cy a (o + 1) (gX0_works S5)) ++ ((wX2 cy a (o + 5) (gX0_entrants S5)) ++ ((rowsW (cy 2) (cy 0) a (o + 7) 4 6 (gX0_rules S5)) ++ ((wX4 cy a (o + 12) (gX0_programs S5)) ++ ((wX3 cy a (o + 14) (gX0_jury S5)) ++ (wX7 cy a (o + 23) (gX0_stage S5)))))))) ++ ((wX6 cy a (o + 26) x7) ++ ((wX9 cy a (o + 35) (gX0_tie S5)) ++ ((rowsW (cy 2) (cy 0) a (o + 46) 4 12 (gX0_closedScores S5)) ++ (wX1 cy a (o + 51) (gX0_cut S5))))) from by simp only [wX0, List.append_assoc, List.nil_append, List.append_nil] <;> rfl)) rfl rfl rfl hl.1 rfl (Nat.le_of_ble_eq_true rfl) dX0_startRound_16 ⟨Nat.zero_le _, Nat.zero_le _⟩ (fun H locs hP hD hS => ?_)
  obtain ⟨S9, eS10, h⟩ := lt_elim h
  have hP : va_P D vwCl (wX0 cy a o S9) H := by rw [eS10]; exact hP
  have hD : va_D (va_A (wX0 cy a o S) s.heap.size) (wX0 cy a o S9) := by rw [eS10]; exact hD
  refine lv_iconst (v := (0 : Int32)) hx hb dX0_startRound_19 (by decide) ?_
  refine lv_istore_n (lv' := [(2, .int (0 : Int32)), (0, .ref (a o)), (1, .int p1)]) hx hb dX0_startRound_20 rfl hl (by decide) rfl (fun ls hl => ?_)
  have L39 : ∀ (c1_11 : Int32) (k13 : SX0 → Option (SX0)) (hk13 : ∀ (S14 : SX0) (H : Heap) (locs : List Loc) (ls : Array Slot), k13 S14 = some rs → va_P D vwCl (wX0 cy a o S14) H → va_D (va_A (wX0 cy a o S) s.heap.size) (wX0 cy a o S14) → va_S (va_A (wX0 cy a o S) s.heap.size) s.heap H locs → lv_has ls 3 [(0, .ref (a o))] → W p l e (headSpec wsX0_startRound ({ frames := 4, cells := 0, slots := 0, locals := 99 } : Room)).room s m ([.ref (a o), .int p1] : List Value).toArray below meth c H locs 0 0 (MQ below (va_Qv (fun (u : SX0) => u = rs) (fun u t => mB D s.heap.size (wX0 cy a o S) (wX0 cy a o u) t) (va_A (wX0 cy a o S) s.heap.size)) ([.ref (a o), .int p1] : List Value).toArray s 0 0 (va_A (wX0 cy a o S) s.heap.size)) (F0 m 91 ls [])) (f : Nat) (v2_24 : Int32) (S12 : SX0) (H : Heap) (locs : List Loc) (ls : Array Slot), DX0_startRound_L21 c1_11 k13 f v2_24 S12 = some rs → va_P D vwCl (wX0 cy a o S12) H → va_D (va_A (wX0 cy a o S) s.heap.size) (wX0 cy a o S12) → va_S (va_A (wX0 cy a o S) s.heap.size) s.heap H locs → lv_has ls 3 [(0, .ref (a o)), (1, .int c1_11), (2, .int v2_24)] → W p l e (headSpec wsX0_startRound ({ frames := 4, cells := 0, slots := 0, locals := 99 } : Room)).room s m ([.ref (a o), .int p1] : List Value).toArray below meth c H locs 0 0 (MQ below (va_Qv (fun (u : SX0) => u = rs) (fun u t => mB D s.heap.size (wX0 cy a o S) (wX0 cy a o u) t) (va_A (wX0 cy a o S) s.heap.size)) ([.ref (a o), .int p1] : List Value).toArray s 0 0 (va_A (wX0 cy a o S) s.heap.size)) (F0 m 21 ls []) := by
    intro c1_11 k13 hk13 f
    induction f with
    | zero =>
      intro v2_24 S12 H locs ls h hP hD hS hl
      rw [DX0_startRound_L21] at h
      cases h
    | succ f ih =>
      intro v2_24 S12 H locs ls h hP hD hS hl
      rw [DX0_startRound_L21] at h
      refine lv_iload_n hx hb dX0_startRound_21 rfl (lv_at hl 2 rfl) ?_
      refine lv_aload_n hx hb dX0_startRound_22 rfl (lv_at hl 0 rfl) ?_
      refine va_get (D := D) (ci := 0) (v := .ref (a (o + 5))) (C := RX0) (T := TX0) (N := 14) hx hb hts hinX0 hown hK hP 0 rfl rfl 5 (by decide) hf31 (fun _ h9 => h9) rfl dX0_startRound_23 ?_
      refine va_getN (D := D) (ci := 2) (v := .int (gX2_count (gX0_entrants S12))) (C := RX2) (T := TX2) (N := 2) hx hb hts hinX2 hown hK hP 5 rfl rfl 0 (by decide) hf134 (fun _ h9 => h9) rfl dX0_startRound_26 ?_
      refine lv_icmp_ge (tgt := 91) hx hb dX0_startRound_29 (by decide) (fun cc => ?_) (fun cc => ?_)
      · have h := ite_p cc h
        exact hk13 S12 H locs ls h hP hD hS (lv_sub hl [0] rfl)
      · have h := ite_n cc h
        refine lv_aload_n hx hb dX0_startRound_32 rfl (lv_at hl 0 rfl) ?_
        refine va_get (D := D) (ci := 0) (v := .ref (a (o + 5))) (C := RX0) (T := TX0) (N := 14) hx hb hts hinX0 hown hK hP 0 rfl rfl 5 (by decide) hf31 (fun _ h9 => h9) rfl dX0_startRound_33 ?_
        refine lv_iload_n hx hb dX0_startRound_36 rfl (lv_at hl 2 rfl) ?_
        obtain ⟨x25, e26, h⟩ := bd_some h
        refine pcV (As := [.int v2_24]) (rest := []) (q0 := 0) (qX2_isIn l D cy a (o + 5) (gX0_entrants S12) v2_24 x25 e26) ⟨hx, hb, hml, hown, hts⟩ (cwV 1 hts gX0_startRound_X2_isIn rfl rfl rfl (by decide +kernel) ⟨Nat.le_of_ble_eq_true rfl, Nat.le_of_ble_eq_true rfl⟩) hG (P_seg (X := ((hX0 a o S12) ++ (wX10 cy a (o + 1) (gX0_works S12)))) (c := (wX2 cy a (o + 5) (gX0_entrants S12))) (Y := ((rowsW (cy 2) (cy 0) a (o + 7) 4 6 (gX0_rules S12)) ++ ((wX4 cy a (o + 12) (gX0_programs S12)) ++ ((wX3 cy a (o + 14) (gX0_jury S12)) ++ ((wX7 cy a (o + 23) (gX0_stage S12)) ++ ((wX6 cy a (o + 26) (gX0_sheet S12)) ++ ((wX9 cy a (o + 35) (gX0_tie S12)) ++ ((rowsW (cy 2) (cy 0) a (o + 46) 4 12 (gX0_closedScores S12)) ++ (wX1 cy a (o + 51) (gX0_cut S12)))))))))) hP (by simp only [wX0, List.append_assoc, List.nil_append, List.append_nil] <;> rfl)) rfl rfl rfl hl.1 rfl (Nat.le_of_ble_eq_true rfl) dX0_startRound_37 ⟨Nat.zero_le _, Nat.zero_le _⟩ ?_
        obtain ⟨j28, hj28, h⟩ := jn_elim h
        have Jj28 : ∀ (S27 : SX0) (H : Heap) (locs : List Loc) (ls : Array Slot), j28 S27 = some rs → va_P D vwCl (wX0 cy a o S27) H → va_D (va_A (wX0 cy a o S) s.heap.size) (wX0 cy a o S27) → va_S (va_A (wX0 cy a o S) s.heap.size) s.heap H locs → lv_has ls 3 [(0, .ref (a o)), (1, .int c1_11), (2, .int v2_24)] → W p l e (headSpec wsX0_startRound ({ frames := 4, cells := 0, slots := 0, locals := 99 } : Room)).room s m ([.ref (a o), .int p1] : List Value).toArray below meth c H locs 0 0 (MQ below (va_Qv (fun (u : SX0) => u = rs) (fun u t => mB D s.heap.size (wX0 cy a o S) (wX0 cy a o u) t) (va_A (wX0 cy a o S) s.heap.size)) ([.ref (a o), .int p1] : List Value).toArray s 0 0 (va_A (wX0 cy a o S) s.heap.size)) (F0 m 85 ls []) := by
          intro S27 H locs ls h hP hD hS hl
          rw [hj28] at h
          refine lv_iinc (v := (v2_24 + (1 : Int32))) (lv' := [(2, .int (v2_24 + (1 : Int32))), (0, .ref (a o)), (1, .int c1_11)]) hx hb dX0_startRound_85 hl (k := 2) rfl (by rfl) (by decide) rfl (fun ls hl => ?_)
          refine lv_goto (tgt := 21) hx hb dX0_startRound_88 (by decide) ?_
          exact ih (v2_24 + (1 : Int32)) S27 H locs ls h hP hD hS (lv_sub hl [1, 2, 0] rfl)
        refine lv_if_ne (tgt := 46) hx hb dX0_startRound_40 (by decide) (fun cc => ?_) (fun cc => ?_)
        · have h := ite_n cc h
          refine lv_aload_n hx hb dX0_startRound_46 rfl (lv_at hl 0 rfl) ?_
          refine va_get (D := D) (ci := 0) (v := .ref (a (o + 12))) (C := RX0) (T := TX0) (N := 14) hx hb hts hinX0 hown hK hP 0 rfl rfl 7 (by decide) hf43 (fun _ h9 => h9) rfl dX0_startRound_47 ?_
          refine lv_iload_n hx hb dX0_startRound_50 rfl (lv_at hl 2 rfl) ?_
          refine lv_iload_n hx hb dX0_startRound_51 rfl (lv_at hl 1 rfl) ?_
          refine lv_aload_n hx hb dX0_startRound_52 rfl (lv_at hl 0 rfl) ?_
          refine va_get (D := D) (ci := 0) (v := .ref (a (o + 7))) (C := RX0) (T := TX0) (N := 14) hx hb hts hinX0 hown hK hP 0 rfl rfl 6 (by decide) hf37 (fun _ h9 => h9) rfl dX0_startRound_53 ?_
          refine lv_aload_n hx hb dX0_startRound_56 rfl (lv_at hl 0 rfl) ?_
          refine va_get (D := D) (ci := 0) (v := .ref (a (o + 1))) (C := RX0) (T := TX0) (N := 14) hx hb hts hinX0 hown hK hP 0 rfl rfl 4 (by decide) hf24 (fun _ h9 => h9) rfl dX0_startRound_57 ?_
          obtain ⟨x29, e30, h⟩ := bd_some h
          refine pcV (As := [.int v2_24, .int c1_11, .ref (a (o + 7)), .ref (a (o + 1))]) (rest := []) (q0 := 0) (qX4_flawOf l D cy a (o + 12) a (o + 7) a (o + 1) (gX0_programs S12) (gX0_rules S12) (gX0_works S12) v2_24 c1_11 x29 e30) ⟨hx, hb, hml, hown, hts⟩ (cwV 4 hts gX0_startRound_X4_flawOf rfl rfl rfl (by decide +kernel) ⟨Nat.le_of_ble_eq_true rfl, Nat.le_of_ble_eq_true rfl⟩) hG (va_P.app (va_P.app (P_seg (X := ((hX0 a o S12) ++ ((wX10 cy a (o + 1) (gX0_works S12)) ++ ((wX2 cy a (o + 5) (gX0_entrants S12)) ++ (rowsW (cy 2) (cy 0) a (o + 7) 4 6 (gX0_rules S12)))))) (c := (wX4 cy a (o + 12) (gX0_programs S12))) (Y := ((wX3 cy a (o + 14) (gX0_jury S12)) ++ ((wX7 cy a (o + 23) (gX0_stage S12)) ++ ((wX6 cy a (o + 26) (gX0_sheet S12)) ++ ((wX9 cy a (o + 35) (gX0_tie S12)) ++ ((rowsW (cy 2) (cy 0) a (o + 46) 4 12 (gX0_closedScores S12)) ++ (wX1 cy a (o + 51) (gX0_cut S12)))))))) hP (by simp only [wX0, List.append_assoc, List.nil_append, List.append_nil] <;> rfl)) (P_seg (X := ((hX0 a o S12) ++ ((wX10 cy a (o + 1) (gX0_works S12)) ++ (wX2 cy a (o + 5) (gX0_entrants S12))))) (c := (rowsW (cy 2) (cy 0) a (o + 7) 4 6 (gX0_rules S12))) (Y := ((wX4 cy a (o + 12) (gX0_programs S12)) ++ ((wX3 cy a (o + 14) (gX0_jury S12)) ++ ((wX7 cy a (o + 23) (gX0_stage S12)) ++ ((wX6 cy a (o + 26) (gX0_sheet S12)) ++ ((wX9 cy a (o + 35) (gX0_tie S12)) ++ ((rowsW (cy 2) (cy 0) a (o + 46) 4 12 (gX0_closedScores S12)) ++ (wX1 cy a (o + 51) (gX0_cut S12))))))))) hP (by simp only [wX0, List.append_assoc, List.nil_append, List.append_nil] <;> rfl))) (P_seg (X := (hX0 a o S12)) (c := (wX10 cy a (o + 1) (gX0_works S12))) (Y := ((wX2 cy a (o + 5) (gX0_entrants S12)) ++ ((rowsW (cy 2) (cy 0) a (o + 7) 4 6 (gX0_rules S12)) ++ ((wX4 cy a (o + 12) (gX0_programs S12)) ++ ((wX3 cy a (o + 14) (gX0_jury S12)) ++ ((wX7 cy a (o + 23) (gX0_stage S12)) ++ ((wX6 cy a (o + 26) (gX0_sheet S12)) ++ ((wX9 cy a (o + 35) (gX0_tie S12)) ++ ((rowsW (cy 2) (cy 0) a (o + 46) 4 12 (gX0_closedScores S12)) ++ (wX1 cy a (o + 51) (gX0_cut S12))))))))))) hP (by simp only [wX0, List.append_assoc, List.nil_append, List.append_nil] <;> rfl))) rfl rfl rfl hl.1 rfl (Nat.le_of_ble_eq_true rfl) dX0_startRound_60 ⟨Nat.zero_le _, Nat.zero_le _⟩ ?_
          refine lv_if_ne (tgt := 77) hx hb dX0_startRound_63 (by decide) (fun cc => ?_) (fun cc => ?_)
          · have h := ite_n cc h
            refine lv_aload_n hx hb dX0_startRound_77 rfl (lv_at hl 0 rfl) ?_
            refine va_get (D := D) (ci := 0) (v := .ref (a (o + 5))) (C := RX0) (T := TX0) (N := 14) hx hb hts hinX0 hown hK hP 0 rfl rfl 5 (by decide) hf31 (fun _ h9 => h9) rfl dX0_startRound_78 ?_
            refine lv_iload_n hx hb dX0_startRound_81 rfl (lv_at hl 2 rfl) ?_
            obtain ⟨x31, e32, h⟩ := bd_some h
            refine smVv (As := [.int v2_24]) (rest := []) (ws' := (wX0 cy a o (uX0_entrants S12 x31))) (q0 := 0) (qX2_putOut l D cy a (o + 5) (gX0_entrants S12) v2_24 (H).size x31 e32) ⟨hx, hb, hml, hown, hts⟩ (cwV 1 hts gX0_startRound_X2_putOut rfl rfl rfl (by decide +kernel) ⟨Nat.le_of_ble_eq_true rfl, Nat.le_of_ble_eq_true rfl⟩) hG hP hD hS hA (pm1 (X := ((hX0 a o S12) ++ (wX10 cy a (o + 1) (gX0_works S12)))) (c := (wX2 cy a (o + 5) (gX0_entrants S12))) (Y := ((rowsW (cy 2) (cy 0) a (o + 7) 4 6 (gX0_rules S12)) ++ ((wX4 cy a (o + 12) (gX0_programs S12)) ++ ((wX3 cy a (o + 14) (gX0_jury S12)) ++ ((wX7 cy a (o + 23) (gX0_stage S12)) ++ ((wX6 cy a (o + 26) (gX0_sheet S12)) ++ ((wX9 cy a (o + 35) (gX0_tie S12)) ++ ((rowsW (cy 2) (cy 0) a (o + 46) 4 12 (gX0_closedScores S12)) ++ (wX1 cy a (o + 51) (gX0_cut S12)))))))))) (show (wX0 cy a o S12) = ((hX0 a o S12) ++ (wX10 cy a (o + 1) (gX0_works S12))) ++ ((wX2 cy a (o + 5) (gX0_entrants S12)) ++ ((rowsW (cy 2) (cy 0) a (o + 7) 4 6 (gX0_rules S12)) ++ ((wX4 cy a (o + 12) (gX0_programs S12)) ++ ((wX3 cy a (o + 14) (gX0_jury S12)) ++ ((wX7 cy a (o + 23) (gX0_stage S12)) ++ ((wX6 cy a (o + 26) (gX0_sheet S12)) ++ ((wX9 cy a (o + 35) (gX0_tie S12)) ++ ((rowsW (cy 2) (cy 0) a (o + 46) 4 12 (gX0_closedScores S12)) ++ (wX1 cy a (o + 51) (gX0_cut S12)))))))))) from by simp only [wX0, List.append_assoc, List.nil_append, List.append_nil] <;> rfl)) (pm1 (X := ((hX0 a o S12) ++ (wX10 cy a (o + 1) (gX0_works S12)))) (c := (wX2 cy a (o + 5) x31)) (Y := ((rowsW (cy 2) (cy 0) a (o + 7) 4 6 (gX0_rules S12)) ++ ((wX4 cy a (o + 12) (gX0_programs S12)) ++ ((wX3 cy a (o + 14) (gX0_jury S12)) ++ ((wX7 cy a (o + 23) (gX0_stage S12)) ++ ((wX6 cy a (o + 26) (gX0_sheet S12)) ++ ((wX9 cy a (o + 35) (gX0_tie S12)) ++ ((rowsW (cy 2) (cy 0) a (o + 46) 4 12 (gX0_closedScores S12)) ++ (wX1 cy a (o + 51) (gX0_cut S12)))))))))) (show (wX0 cy a o (uX0_entrants S12 x31)) = ((hX0 a o S12) ++ (wX10 cy a (o + 1) (gX0_works S12))) ++ ((wX2 cy a (o + 5) x31) ++ ((rowsW (cy 2) (cy 0) a (o + 7) 4 6 (gX0_rules S12)) ++ ((wX4 cy a (o + 12) (gX0_programs S12)) ++ ((wX3 cy a (o + 14) (gX0_jury S12)) ++ ((wX7 cy a (o + 23) (gX0_stage S12)) ++ ((wX6 cy a (o + 26) (gX0_sheet S12)) ++ ((wX9 cy a (o + 35) (gX0_tie S12)) ++ ((rowsW (cy 2) (cy 0) a (o + 46) 4 12 (gX0_closedScores S12)) ++ (wX1 cy a (o + 51) (gX0_cut S12)))))))))) from by simp only [wX0, List.append_assoc, List.nil_append, List.append_nil] <;> rfl)) rfl rfl rfl hl.1 rfl (Nat.le_of_ble_eq_true rfl) dX0_startRound_82 ⟨Nat.zero_le _, Nat.zero_le _⟩ (fun H locs hP hD hS => ?_)
            obtain ⟨S33, eS34, h⟩ := lt_elim h
            have hP : va_P D vwCl (wX0 cy a o S33) H := by rw [eS34]; exact hP
            have hD : va_D (va_A (wX0 cy a o S) s.heap.size) (wX0 cy a o S33) := by rw [eS34]; exact hD
            exact Jj28 S33 H locs ls h hP hD hS (lv_sub hl [0, 1, 2] rfl)
          · have h := ite_p cc h
            refine lv_aload_n hx hb dX0_startRound_66 rfl (lv_at hl 0 rfl) ?_
            refine va_get (D := D) (ci := 0) (v := .ref (a (o + 23))) (C := RX0) (T := TX0) (N := 14) hx hb hts hinX0 hown hK hP 0 rfl rfl 9 (by decide) hf57 (fun _ h9 => h9) rfl dX0_startRound_67 ?_
            refine lv_iload_n hx hb dX0_startRound_70 rfl (lv_at hl 2 rfl) ?_
            obtain ⟨x35, e36, h⟩ := bd_some h
            refine smVv (As := [.int v2_24]) (rest := []) (ws' := (wX0 cy a o (uX0_stage S12 x35))) (q0 := 0) (qX7_seat l D cy a (o + 23) (gX0_stage S12) v2_24 (H).size x35 e36) ⟨hx, hb, hml, hown, hts⟩ (cwV 1 hts gX0_startRound_X7_seat rfl rfl rfl (by decide +kernel) ⟨Nat.le_of_ble_eq_true rfl, Nat.le_of_ble_eq_true rfl⟩) hG hP hD hS hA (pm1 (X := ((hX0 a o S12) ++ ((wX10 cy a (o + 1) (gX0_works S12)) ++ ((wX2 cy a (o + 5) (gX0_entrants S12)) ++ ((rowsW (cy 2) (cy 0) a (o + 7) 4 6 (gX0_rules S12)) ++ ((wX4 cy a (o + 12) (gX0_programs S12)) ++ (wX3 cy a (o + 14) (gX0_jury S12)))))))) (c := (wX7 cy a (o + 23) (gX0_stage S12))) (Y := ((wX6 cy a (o + 26) (gX0_sheet S12)) ++ ((wX9 cy a (o + 35) (gX0_tie S12)) ++ ((rowsW (cy 2) (cy 0) a (o + 46) 4 12 (gX0_closedScores S12)) ++ (wX1 cy a (o + 51) (gX0_cut S12)))))) (show (wX0 cy a o S12) = ((hX0 a o S12) ++ ((wX10 cy a (o + 1) (gX0_works S12)) ++ ((wX2 cy a (o + 5) (gX0_entrants S12)) ++ ((rowsW (cy 2) (cy 0) a (o + 7) 4 6 (gX0_rules S12)) ++ ((wX4 cy a (o + 12) (gX0_programs S12)) ++ (wX3 cy a (o + 14) (gX0_jury S12))))))) ++ ((wX7 cy a (o + 23) (gX0_stage S12)) ++ ((wX6 cy a (o + 26) (gX0_sheet S12)) ++ ((wX9 cy a (o + 35) (gX0_tie S12)) ++ ((rowsW (cy 2) (cy 0) a (o + 46) 4 12 (gX0_closedScores S12)) ++ (wX1 cy a (o + 51) (gX0_cut S12)))))) from by simp only [wX0, List.append_assoc, List.nil_append, List.append_nil] <;> rfl)) (pm1 (X := ((hX0 a o S12) ++ ((wX10 cy a (o + 1) (gX0_works S12)) ++ ((wX2 cy a (o + 5) (gX0_entrants S12)) ++ ((rowsW (cy 2) (cy 0) a (o + 7) 4 6 (gX0_rules S12)) ++ ((wX4 cy a (o + 12) (gX0_programs S12)) ++ (wX3 cy a (o + 14) (gX0_jury S12)))))))) (c := (wX7 cy a (o + 23) x35)) (Y := ((wX6 cy a (o + 26) (gX0_sheet S12)) ++ ((wX9 cy a (o + 35) (gX0_tie S12)) ++ ((rowsW (cy 2) (cy 0) a (o + 46) 4 12 (gX0_closedScores S12)) ++ (wX1 cy a (o + 51) (gX0_cut S12)))))) (show (wX0 cy a o (uX0_stage S12 x35)) = ((hX0 a o S12) ++ ((wX10 cy a (o + 1) (gX0_works S12)) ++ ((wX2 cy a (o + 5) (gX0_entrants S12)) ++ ((rowsW (cy 2) (cy 0) a (o + 7) 4 6 (gX0_rules S12)) ++ ((wX4 cy a (o + 12) (gX0_programs S12)) ++ (wX3 cy a (o + 14) (gX0_jury S12))))))) ++ ((wX7 cy a (o + 23) x35) ++ ((wX6 cy a (o + 26) (gX0_sheet S12)) ++ ((wX9 cy a (o + 35) (gX0_tie S12)) ++ ((rowsW (cy 2) (cy 0) a (o + 46) 4 12 (gX0_closedScores S12)) ++ (wX1 cy a (o + 51) (gX0_cut S12)))))) from by simp only [wX0, List.append_assoc, List.nil_append, List.append_nil] <;> rfl)) rfl rfl rfl hl.1 rfl (Nat.le_of_ble_eq_true rfl) dX0_startRound_71 ⟨Nat.zero_le _, Nat.zero_le _⟩ (fun H locs hP hD hS => ?_)
            obtain ⟨S37, eS38, h⟩ := lt_elim h
            have hP : va_P D vwCl (wX0 cy a o S37) H := by rw [eS38]; exact hP
            have hD : va_D (va_A (wX0 cy a o S) s.heap.size) (wX0 cy a o S37) := by rw [eS38]; exact hD
            refine lv_goto (tgt := 85) hx hb dX0_startRound_74 (by decide) ?_
            exact Jj28 S37 H locs ls h hP hD hS (lv_sub hl [0, 1, 2] rfl)
        · have h := ite_p cc h
          refine lv_goto (tgt := 85) hx hb dX0_startRound_43 (by decide) ?_
          exact Jj28 S12 H locs ls h hP hD hS (lv_sub hl [0, 1, 2] rfl)
  refine L39 p1 _ ?_ fu (0 : Int32) S9 H locs ls h hP hD hS (lv_sub hl [1, 2, 0] rfl)
  intro S15 H locs ls h hP hD hS hl
  refine lv_aload_n hx hb dX0_startRound_91 rfl (lv_at hl 0 rfl) ?_
  refine va_get (D := D) (ci := 0) (v := .ref (a (o + 23))) (C := RX0) (T := TX0) (N := 14) hx hb hts hinX0 hown hK hP 0 rfl rfl 9 (by decide) hf57 (fun _ h9 => h9) rfl dX0_startRound_92 ?_
  obtain ⟨x16, e17, h⟩ := bd_some h
  refine smVv (As := []) (rest := []) (ws' := (wX0 cy a o (uX0_stage S15 x16))) (q0 := 0) (qX7_drawLots l D cy a (o + 23) (gX0_stage S15)  (H).size x16 e17) ⟨hx, hb, hml, hown, hts⟩ (cwV 0 hts gX0_startRound_X7_drawLots rfl rfl rfl (by decide +kernel) ⟨Nat.le_of_ble_eq_true rfl, Nat.le_of_ble_eq_true rfl⟩) hG hP hD hS hA (pm1 (X := ((hX0 a o S15) ++ ((wX10 cy a (o + 1) (gX0_works S15)) ++ ((wX2 cy a (o + 5) (gX0_entrants S15)) ++ ((rowsW (cy 2) (cy 0) a (o + 7) 4 6 (gX0_rules S15)) ++ ((wX4 cy a (o + 12) (gX0_programs S15)) ++ (wX3 cy a (o + 14) (gX0_jury S15)))))))) (c := (wX7 cy a (o + 23) (gX0_stage S15))) (Y := ((wX6 cy a (o + 26) (gX0_sheet S15)) ++ ((wX9 cy a (o + 35) (gX0_tie S15)) ++ ((rowsW (cy 2) (cy 0) a (o + 46) 4 12 (gX0_closedScores S15)) ++ (wX1 cy a (o + 51) (gX0_cut S15)))))) (show (wX0 cy a o S15) = ((hX0 a o S15) ++ ((wX10 cy a (o + 1) (gX0_works S15)) ++ ((wX2 cy a (o + 5) (gX0_entrants S15)) ++ ((rowsW (cy 2) (cy 0) a (o + 7) 4 6 (gX0_rules S15)) ++ ((wX4 cy a (o + 12) (gX0_programs S15)) ++ (wX3 cy a (o + 14) (gX0_jury S15))))))) ++ ((wX7 cy a (o + 23) (gX0_stage S15)) ++ ((wX6 cy a (o + 26) (gX0_sheet S15)) ++ ((wX9 cy a (o + 35) (gX0_tie S15)) ++ ((rowsW (cy 2) (cy 0) a (o + 46) 4 12 (gX0_closedScores S15)) ++ (wX1 cy a (o + 51) (gX0_cut S15)))))) from by simp only [wX0, List.append_assoc, List.nil_append, List.append_nil] <;> rfl)) (pm1 (X := ((hX0 a o S15) ++ ((wX10 cy a (o + 1) (gX0_works S15)) ++ ((wX2 cy a (o + 5) (gX0_entrants S15)) ++ ((rowsW (cy 2) (cy 0) a (o + 7) 4 6 (gX0_rules S15)) ++ ((wX4 cy a (o + 12) (gX0_programs S15)) ++ (wX3 cy a (o + 14) (gX0_jury S15)))))))) (c := (wX7 cy a (o + 23) x16)) (Y := ((wX6 cy a (o + 26) (gX0_sheet S15)) ++ ((wX9 cy a (o + 35) (gX0_tie S15)) ++ ((rowsW (cy 2) (cy 0) a (o + 46) 4 12 (gX0_closedScores S15)) ++ (wX1 cy a (o + 51) (gX0_cut S15)))))) (show (wX0 cy a o (uX0_stage S15 x16)) = ((hX0 a o S15) ++ ((wX10 cy a (o + 1) (gX0_works S15)) ++ ((wX2 cy a (o + 5) (gX0_entrants S15)) ++ ((rowsW (cy 2) (cy 0) a (o + 7) 4 6 (gX0_rules S15)) ++ ((wX4 cy a (o + 12) (gX0_programs S15)) ++ (wX3 cy a (o + 14) (gX0_jury S15))))))) ++ ((wX7 cy a (o + 23) x16) ++ ((wX6 cy a (o + 26) (gX0_sheet S15)) ++ ((wX9 cy a (o + 35) (gX0_tie S15)) ++ ((rowsW (cy 2) (cy 0) a (o + 46) 4 12 (gX0_closedScores S15)) ++ (wX1 cy a (o + 51) (gX0_cut S15)))))) from by simp only [wX0, List.append_assoc, List.nil_append, List.append_nil] <;> rfl)) rfl rfl rfl hl.1 rfl (Nat.le_of_ble_eq_true rfl) dX0_startRound_95 ⟨Nat.zero_le _, Nat.zero_le _⟩ (fun H locs hP hD hS => ?_)
  obtain ⟨S18, eS19, h⟩ := lt_elim h
  have hP : va_P D vwCl (wX0 cy a o S18) H := by rw [eS19]; exact hP
  have hD : va_D (va_A (wX0 cy a o S) s.heap.size) (wX0 cy a o S18) := by rw [eS19]; exact hD
  refine lv_aload_n hx hb dX0_startRound_98 rfl (lv_at hl 0 rfl) ?_
  refine lv_aload_n hx hb dX0_startRound_99 rfl (lv_at hl 0 rfl) ?_
  refine va_get (D := D) (ci := 0) (v := .ref (a (o + 23))) (C := RX0) (T := TX0) (N := 14) hx hb hts hinX0 hown hK hP 0 rfl rfl 9 (by decide) hf57 (fun _ h9 => h9) rfl dX0_startRound_100 ?_
  refine va_getN (D := D) (ci := 7) (v := .int (gX7_players (gX0_stage S18))) (C := RX7) (T := TX7) (N := 5) hx hb hts hinX7 hown hK hP 23 rfl rfl 0 (by decide) hf139 (fun _ h9 => h9) rfl dX0_startRound_103 ?_
  obtain ⟨j21, hj21, h⟩ := jn_elim h
  have Jj21 : ∀ (x20 : Int32) (ls : Array Slot), j21 x20 = some rs → lv_has ls 3 [] → W p l e (headSpec wsX0_startRound ({ frames := 4, cells := 0, slots := 0, locals := 99 } : Room)).room s m ([.ref (a o), .int p1] : List Value).toArray below meth c H locs 0 0 (MQ below (va_Qv (fun (u : SX0) => u = rs) (fun u t => mB D s.heap.size (wX0 cy a o S) (wX0 cy a o u) t) (va_A (wX0 cy a o S) s.heap.size)) ([.ref (a o), .int p1] : List Value).toArray s 0 0 (va_A (wX0 cy a o S) s.heap.size)) (F0 m 114 ls [.int x20, .ref (a o)]) := by
    intro x20 ls h hl
    rw [hj21] at h
    refine va_put (D := D) (ci := 0) (v := .int x20) (ty := .int) (C := RX0) (T := TX0) (N := 14) hx hb hts hinX0 tyX0 tyX0_ok nmX0 hown hK hP hD hS 0 rfl rfl 0 (by decide) hf9 (fun _ h9 => h9) rfl (by decide +kernel) rfl rfl (Nat.le_of_ble_eq_true rfl) dX0_startRound_114 (fun H locs hP hD hS => ?_)
    have hP : va_P D vwCl (wX0 cy a o (uX0_state S18 x20)) H := hP
    have hD : va_D (va_A (wX0 cy a o S) s.heap.size) (wX0 cy a o (uX0_state S18 x20)) := hD
    obtain ⟨S22, eS23, h⟩ := lt_elim h
    have hP : va_P D vwCl (wX0 cy a o S22) H := by rw [eS23]; exact hP
    have hD : va_D (va_A (wX0 cy a o S) s.heap.size) (wX0 cy a o S22) := by rw [eS23]; exact hD
    exact W.vret hx hb hr (fun t ht hW => ⟨⟨S22, rfl, some_in h, by rw [ht]; exact hP, hD⟩, hS.F ht⟩) hS.2.2 dX0_startRound_117
  refine lv_if_le (tgt := 113) hx hb dX0_startRound_106 (by decide) (fun cc => ?_) (fun cc => ?_)
  · have h := ite_p cc h
    refine lv_iconst (v := (3 : Int32)) hx hb dX0_startRound_113 (by decide) ?_
    exact Jj21 (3 : Int32) ls h (lv_sub hl [] rfl)
  · have h := ite_n cc h
    refine lv_iconst (v := (1 : Int32)) hx hb dX0_startRound_109 (by decide) ?_
    refine lv_goto (tgt := 114) hx hb dX0_startRound_110 (by decide) ?_
    exact Jj21 (1 : Int32) ls h (lv_sub hl [] rfl)
set_option maxHeartbeats 4000000 in
set_option maxRecDepth 100000 in
theorem qX7_unseat (l : Launch) (D : va_G) (cy : Nat → ClassId) (a : Nat → Nat) (o : Nat) (S : SX7) (p1 : Int32) (sz : Nat) (rs : SX7) (h : DX7_unseat S p1 = some rs) : Met l yX7_unseat wsX7_unseat ({ frames := 2, cells := 0, slots := 0, locals := 45 } : Room) (mP D cy sz [.ref (a o), .int p1] (wX7 cy a o S)) (va_Qv (fun (u : SX7) => u = rs) (fun u t => mB D sz (wX7 cy a o S) (wX7 cy a o u) t) (va_A (wX7 cy a o S) sz)) 0 0 (va_A (wX7 cy a o S) sz) := by
  refine Met.ofW (cc := cX7_unseat) (maxL := 4) (ret := none) (by decide) rfl ?_
  intro p e s m args below meth c s₁ B hml hv
  obtain ⟨rfl, hsz, hP, hG, hD0⟩ := hv
  have hx := B.exec
  have hb := B.bytes
  have hr := B.returns
  have hts := atoms_spec (ws := wsX7_unseat) B.pre
  have hown : s.vm.findClass RX7 = some m.cls := findClass_of_methodNamed B.named
  have hlocks := B.notSynchronized
  have hK := hG.1
  subst hsz
  have hD := hD0.self (sz := s.heap.size)
  have hA : ∀ q : Nat, s.heap.size ≤ q → (va_A (wX7 cy a o S) s.heap.size) q := fun q h => Or.inr h
  have hS : va_S (va_A (wX7 cy a o S) s.heap.size) s.heap s.heap [] := va_S.rf
  have hinX7 := (by decide +kernel : ∀ w ∈ wsX70, w ∈ wsX7_unseat)
  have hf21 := hts (.fieldLink RX7 21 "PianoRounds$Stage" "players" "I") (by decide +kernel)
  have hl := lv_entry ([.ref (a o), .int p1]) (n := 4) (Nat.le_of_ble_eq_true rfl)
  rw [lg_entry_eq]
  generalize (lg_sl ([.ref (a o), .int p1]) ++ List.replicate (4 - (lg_sl ([.ref (a o), .int p1])).length) Slot.unset).toArray = ls at hl ⊢
  have hl : lv_has ls 4 [(0, .ref (a o)), (1, .int p1)] := hl
  rw [DX7_unseat] at h
  refine lv_aload_n hx hb dX7_unseat_0 rfl (lv_at hl 0 rfl) ?_
  refine lv_iload_n hx hb dX7_unseat_1 rfl (lv_at hl 1 rfl) ?_
  obtain ⟨x1, e2, h⟩ := bd_some h
  refine pcV (As := [.int p1]) (rest := []) (q0 := 0) (qX7_placeOf l D cy a o S p1 x1 e2) ⟨hx, hb, hml, hown, hts⟩ (cwV 1 hts gX7_unseat_X7_placeOf rfl rfl rfl (by decide +kernel) ⟨Nat.le_of_ble_eq_true rfl, Nat.le_of_ble_eq_true rfl⟩) hG hP rfl rfl rfl hl.1 rfl (Nat.le_of_ble_eq_true rfl) dX7_unseat_2 ⟨Nat.zero_le _, Nat.zero_le _⟩ ?_
  refine lv_istore_n (lv' := [(2, .int x1), (0, .ref (a o)), (1, .int p1)]) hx hb dX7_unseat_5 rfl hl (by decide) rfl (fun ls hl => ?_)
  refine lv_iload_n hx hb dX7_unseat_6 rfl (lv_at hl 0 rfl) ?_
  refine lv_iconst (v := (-1 : Int32)) hx hb dX7_unseat_7 (by decide) ?_
  refine lv_icmp_ne (tgt := 12) hx hb dX7_unseat_8 (by decide) (fun cc => ?_) (fun cc => ?_)
  · have h := ite_n cc h
    refine lv_iload_n hx hb dX7_unseat_12 rfl (lv_at hl 0 rfl) ?_
    refine lv_istore_n (lv' := [(3, .int x1), (2, .int x1), (0, .ref (a o)), (1, .int p1)]) hx hb dX7_unseat_13 rfl hl (by decide) rfl (fun ls hl => ?_)
    have L12 : ∀ (k4 : SX7 → Option (SX7)) (hk4 : ∀ (S5 : SX7) (H : Heap) (locs : List Loc) (ls : Array Slot), k4 S5 = some rs → va_P D vwCl (wX7 cy a o S5) H → va_D (va_A (wX7 cy a o S) s.heap.size) (wX7 cy a o S5) → va_S (va_A (wX7 cy a o S) s.heap.size) s.heap H locs → lv_has ls 4 [(0, .ref (a o))] → W p l e (headSpec wsX7_unseat ({ frames := 2, cells := 0, slots := 0, locals := 45 } : Room)).room s m ([.ref (a o), .int p1] : List Value).toArray below meth c H locs 0 0 (MQ below (va_Qv (fun (u : SX7) => u = rs) (fun u t => mB D s.heap.size (wX7 cy a o S) (wX7 cy a o u) t) (va_A (wX7 cy a o S) s.heap.size)) ([.ref (a o), .int p1] : List Value).toArray s 0 0 (va_A (wX7 cy a o S) s.heap.size)) (F0 m 38 ls [])) (f : Nat) (v3_9 : Int32) (S3 : SX7) (H : Heap) (locs : List Loc) (ls : Array Slot), DX7_unseat_L14 k4 f v3_9 S3 = some rs → va_P D vwCl (wX7 cy a o S3) H → va_D (va_A (wX7 cy a o S) s.heap.size) (wX7 cy a o S3) → va_S (va_A (wX7 cy a o S) s.heap.size) s.heap H locs → lv_has ls 4 [(0, .ref (a o)), (3, .int v3_9)] → W p l e (headSpec wsX7_unseat ({ frames := 2, cells := 0, slots := 0, locals := 45 } : Room)).room s m ([.ref (a o), .int p1] : List Value).toArray below meth c H locs 0 0 (MQ below (va_Qv (fun (u : SX7) => u = rs) (fun u t => mB D s.heap.size (wX7 cy a o S) (wX7 cy a o u) t) (va_A (wX7 cy a o S) s.heap.size)) ([.ref (a o), .int p1] : List Value).toArray s 0 0 (va_A (wX7 cy a o S) s.heap.size)) (F0 m 14 ls []) := by
      intro k4 hk4 f
      induction f with
      | zero =>
        intro v3_9 S3 H locs ls h hP hD hS hl
        rw [DX7_unseat_L14] at h
        cases h
      | succ f ih =>
        intro v3_9 S3 H locs ls h hP hD hS hl
        rw [DX7_unseat_L14] at h
        refine lv_iload_n hx hb dX7_unseat_14 rfl (lv_at hl 1 rfl) ?_
        refine lv_iconst (v := (1 : Int32)) hx hb dX7_unseat_15 (by decide) ?_
        refine lv_iadd hx hb dX7_unseat_16 ?_
        refine lv_aload_n hx hb dX7_unseat_17 rfl (lv_at hl 0 rfl) ?_
        refine va_get (D := D) (ci := 7) (v := .int (gX7_players S3)) (C := RX7) (T := TX7) (N := 5) hx hb hts hinX7 hown hK hP 0 rfl rfl 0 (by decide) hf21 (fun _ h9 => h9) rfl dX7_unseat_18 ?_
        refine lv_icmp_ge (tgt := 38) hx hb dX7_unseat_21 (by decide) (fun cc => ?_) (fun cc => ?_)
        · have h := ite_p cc h
          exact hk4 S3 H locs ls h hP hD hS (lv_sub hl [0] rfl)
        · have h := ite_n cc h
          refine lv_aload_n hx hb dX7_unseat_24 rfl (lv_at hl 0 rfl) ?_
          refine lv_iload_n hx hb dX7_unseat_25 rfl (lv_at hl 1 rfl) ?_
          refine lv_iload_n hx hb dX7_unseat_26 rfl (lv_at hl 1 rfl) ?_
          refine lv_iconst (v := (1 : Int32)) hx hb dX7_unseat_27 (by decide) ?_
          refine lv_iadd hx hb dX7_unseat_28 ?_
          obtain ⟨x10, e11, h⟩ := bd_some h
          refine smVv (As := [.int v3_9, .int (v3_9 + (1 : Int32))]) (rest := []) (ws' := (wX7 cy a o x10)) (q0 := 0) (qX7_exchange l D cy a o S3 v3_9 (v3_9 + (1 : Int32)) (H).size x10 e11) ⟨hx, hb, hml, hown, hts⟩ (cwV 2 hts gX7_unseat_X7_exchange rfl rfl rfl (by decide +kernel) ⟨Nat.le_of_ble_eq_true rfl, Nat.le_of_ble_eq_true rfl⟩) hG hP hD hS hA (pm1 (X := ([] : va_W)) (c := (wX7 cy a o S3)) (Y := ([] : va_W)) (show (wX7 cy a o S3) = ([] : va_W) ++ ((wX7 cy a o S3) ++ ([] : va_W)) from by simp only [List.append_assoc, List.nil_append, List.append_nil] <;> rfl)) (pm1 (X := ([] : va_W)) (c := (wX7 cy a o x10)) (Y := ([] : va_W)) (show (wX7 cy a o x10) = ([] : va_W) ++ ((wX7 cy a o x10) ++ ([] : va_W)) from by simp only [List.append_assoc, List.nil_append, List.append_nil] <;> rfl)) rfl rfl rfl hl.1 rfl (Nat.le_of_ble_eq_true rfl) dX7_unseat_29 ⟨Nat.zero_le _, Nat.zero_le _⟩ (fun H locs hP hD hS => ?_)
          refine lv_iinc (v := (v3_9 + (1 : Int32))) (lv' := [(3, .int (v3_9 + (1 : Int32))), (0, .ref (a o))]) hx hb dX7_unseat_32 hl (k := 1) rfl (by rfl) (by decide) rfl (fun ls hl => ?_)
          refine lv_goto (tgt := 14) hx hb dX7_unseat_35 (by decide) ?_
          exact ih (v3_9 + (1 : Int32)) x10 H locs ls h hP hD hS (lv_sub hl [1, 0] rfl)
    refine L12  _ ?_ fu x1 S s.heap [] ls h hP hD hS (lv_sub hl [2, 0] rfl)
    intro S6 H locs ls h hP hD hS hl
    refine lv_aload_n hx hb dX7_unseat_38 rfl (lv_at hl 0 rfl) ?_
    refine lv_dup hx hb dX7_unseat_39 rfl ?_
    refine va_get (D := D) (ci := 7) (v := .int (gX7_players S6)) (C := RX7) (T := TX7) (N := 5) hx hb hts hinX7 hown hK hP 0 rfl rfl 0 (by decide) hf21 (fun _ h9 => h9) rfl dX7_unseat_40 ?_
    refine lv_iconst (v := (1 : Int32)) hx hb dX7_unseat_43 (by decide) ?_
    refine lv_isub hx hb dX7_unseat_44 ?_
    refine va_put (D := D) (ci := 7) (v := .int ((gX7_players S6) - (1 : Int32))) (ty := .int) (C := RX7) (T := TX7) (N := 5) hx hb hts hinX7 tyX7 tyX7_ok nmX7 hown hK hP hD hS 0 rfl rfl 0 (by decide) hf21 (fun _ h9 => h9) rfl (by decide +kernel) rfl rfl (Nat.le_of_ble_eq_true rfl) dX7_unseat_45 (fun H locs hP hD hS => ?_)
    have hP : va_P D vwCl (wX7 cy a o (uX7_players S6 ((gX7_players S6) - (1 : Int32)))) H := hP
    have hD : va_D (va_A (wX7 cy a o S) s.heap.size) (wX7 cy a o (uX7_players S6 ((gX7_players S6) - (1 : Int32)))) := hD
    obtain ⟨S7, eS8, h⟩ := lt_elim h
    have hP : va_P D vwCl (wX7 cy a o S7) H := by rw [eS8]; exact hP
    have hD : va_D (va_A (wX7 cy a o S) s.heap.size) (wX7 cy a o S7) := by rw [eS8]; exact hD
    exact W.vret hx hb hr (fun t ht hW => ⟨⟨S7, rfl, some_in h, by rw [ht]; exact hP, hD⟩, hS.F ht⟩) hS.2.2 dX7_unseat_48
  · have h := ite_p cc h
    exact W.vret hx hb hr (fun t ht hW => ⟨⟨S, rfl, some_in h, by rw [ht]; exact hP, hD⟩, hS.F ht⟩) hS.2.2 dX7_unseat_11
set_option maxHeartbeats 4000000 in
set_option maxRecDepth 100000 in
theorem qX0_letGo (l : Launch) (D : va_G) (cy : Nat → ClassId) (a : Nat → Nat) (o : Nat) (S : SX0) (p1 : Int32) (sz : Nat) (rs : SX0) (h : DX0_letGo S p1 = some rs) : Met l yX0_letGo wsX0_letGo ({ frames := 3, cells := 0, slots := 0, locals := 68 } : Room) (mP D cy sz [.ref (a o), .int p1] (wX0 cy a o S)) (va_Qv (fun (u : SX0) => u = rs) (fun u t => mB D sz (wX0 cy a o S) (wX0 cy a o u) t) (va_A (wX0 cy a o S) sz)) 0 0 (va_A (wX0 cy a o S) sz) := by
  refine Met.ofW (cc := cX0_letGo) (maxL := 2) (ret := none) (by decide) rfl ?_
  intro p e s m args below meth c s₁ B hml hv
  obtain ⟨rfl, hsz, hP, hG, hD0⟩ := hv
  have hx := B.exec
  have hb := B.bytes
  have hr := B.returns
  have hts := atoms_spec (ws := wsX0_letGo) B.pre
  have hown : s.vm.findClass RX0 = some m.cls := findClass_of_methodNamed B.named
  have hlocks := B.notSynchronized
  have hK := hG.1
  subst hsz
  have hD := hD0.self (sz := s.heap.size)
  have hA : ∀ q : Nat, s.heap.size ≤ q → (va_A (wX0 cy a o S) s.heap.size) q := fun q h => Or.inr h
  have hS : va_S (va_A (wX0 cy a o S) s.heap.size) s.heap s.heap [] := va_S.rf
  have hinX0 := (by decide +kernel : ∀ w ∈ wsX00, w ∈ wsX0_letGo)
  have hf31 := hts (.fieldLink RX0 31 "PianoRounds$Competition" "entrants" "LPianoRounds$Entrants;") (by decide +kernel)
  have hf57 := hts (.fieldLink RX0 57 "PianoRounds$Competition" "stage" "LPianoRounds$Stage;") (by decide +kernel)
  have hf9 := hts (.fieldLink RX0 9 "PianoRounds$Competition" "state" "I") (by decide +kernel)
  have hinX7 := (by decide +kernel : ∀ w ∈ wsX70, w ∈ wsX0_letGo)
  have hf139 := va_Nw.use (A := ([.ref (a o), .int p1] : List Value).toArray) (U := s) (w := .fieldLinkNest "PianoRounds$Competition" 139 "PianoRounds$Stage" "players" "I" "PianoRounds") rfl (hG.2.1 _ (by decide +kernel))
  have hl := lv_entry ([.ref (a o), .int p1]) (n := 2) (Nat.le_of_ble_eq_true rfl)
  rw [lg_entry_eq]
  generalize (lg_sl ([.ref (a o), .int p1]) ++ List.replicate (2 - (lg_sl ([.ref (a o), .int p1])).length) Slot.unset).toArray = ls at hl ⊢
  have hl : lv_has ls 2 [(0, .ref (a o)), (1, .int p1)] := hl
  rw [DX0_letGo] at h
  refine lv_aload_n hx hb dX0_letGo_0 rfl (lv_at hl 0 rfl) ?_
  refine va_get (D := D) (ci := 0) (v := .ref (a (o + 5))) (C := RX0) (T := TX0) (N := 14) hx hb hts hinX0 hown hK hP 0 rfl rfl 5 (by decide) hf31 (fun _ h9 => h9) rfl dX0_letGo_1 ?_
  refine lv_iload_n hx hb dX0_letGo_4 rfl (lv_at hl 1 rfl) ?_
  obtain ⟨x1, e2, h⟩ := bd_some h
  refine smVv (As := [.int p1]) (rest := []) (ws' := (wX0 cy a o (uX0_entrants S x1))) (q0 := 0) (qX2_putOut l D cy a (o + 5) (gX0_entrants S) p1 (s.heap).size x1 e2) ⟨hx, hb, hml, hown, hts⟩ (cwV 1 hts gX0_letGo_X2_putOut rfl rfl rfl (by decide +kernel) ⟨Nat.le_of_ble_eq_true rfl, Nat.le_of_ble_eq_true rfl⟩) hG hP hD hS hA (pm1 (X := ((hX0 a o S) ++ (wX10 cy a (o + 1) (gX0_works S)))) (c := (wX2 cy a (o + 5) (gX0_entrants S))) (Y := ((rowsW (cy 2) (cy 0) a (o + 7) 4 6 (gX0_rules S)) ++ ((wX4 cy a (o + 12) (gX0_programs S)) ++ ((wX3 cy a (o + 14) (gX0_jury S)) ++ ((wX7 cy a (o + 23) (gX0_stage S)) ++ ((wX6 cy a (o + 26) (gX0_sheet S)) ++ ((wX9 cy a (o + 35) (gX0_tie S)) ++ ((rowsW (cy 2) (cy 0) a (o + 46) 4 12 (gX0_closedScores S)) ++ (wX1 cy a (o + 51) (gX0_cut S)))))))))) (show (wX0 cy a o S) = ((hX0 a o S) ++ (wX10 cy a (o + 1) (gX0_works S))) ++ ((wX2 cy a (o + 5) (gX0_entrants S)) ++ ((rowsW (cy 2) (cy 0) a (o + 7) 4 6 (gX0_rules S)) ++ ((wX4 cy a (o + 12) (gX0_programs S)) ++ ((wX3 cy a (o + 14) (gX0_jury S)) ++ ((wX7 cy a (o + 23) (gX0_stage S)) ++ ((wX6 cy a (o + 26) (gX0_sheet S)) ++ ((wX9 cy a (o + 35) (gX0_tie S)) ++ ((rowsW (cy 2) (cy 0) a (o + 46) 4 12 (gX0_closedScores S)) ++ (wX1 cy a (o + 51) (gX0_cut S)))))))))) from by simp only [wX0, List.append_assoc, List.nil_append, List.append_nil] <;> rfl)) (pm1 (X := ((hX0 a o S) ++ (wX10 cy a (o + 1) (gX0_works S)))) (c := (wX2 cy a (o + 5) x1)) (Y := ((rowsW (cy 2) (cy 0) a (o + 7) 4 6 (gX0_rules S)) ++ ((wX4 cy a (o + 12) (gX0_programs S)) ++ ((wX3 cy a (o + 14) (gX0_jury S)) ++ ((wX7 cy a (o + 23) (gX0_stage S)) ++ ((wX6 cy a (o + 26) (gX0_sheet S)) ++ ((wX9 cy a (o + 35) (gX0_tie S)) ++ ((rowsW (cy 2) (cy 0) a (o + 46) 4 12 (gX0_closedScores S)) ++ (wX1 cy a (o + 51) (gX0_cut S)))))))))) (show (wX0 cy a o (uX0_entrants S x1)) = ((hX0 a o S) ++ (wX10 cy a (o + 1) (gX0_works S))) ++ ((wX2 cy a (o + 5) x1) ++ ((rowsW (cy 2) (cy 0) a (o + 7) 4 6 (gX0_rules S)) ++ ((wX4 cy a (o + 12) (gX0_programs S)) ++ ((wX3 cy a (o + 14) (gX0_jury S)) ++ ((wX7 cy a (o + 23) (gX0_stage S)) ++ ((wX6 cy a (o + 26) (gX0_sheet S)) ++ ((wX9 cy a (o + 35) (gX0_tie S)) ++ ((rowsW (cy 2) (cy 0) a (o + 46) 4 12 (gX0_closedScores S)) ++ (wX1 cy a (o + 51) (gX0_cut S)))))))))) from by simp only [wX0, List.append_assoc, List.nil_append, List.append_nil] <;> rfl)) rfl rfl rfl hl.1 rfl (Nat.le_of_ble_eq_true rfl) dX0_letGo_5 ⟨Nat.zero_le _, Nat.zero_le _⟩ (fun H locs hP hD hS => ?_)
  obtain ⟨S3, eS4, h⟩ := lt_elim h
  have hP : va_P D vwCl (wX0 cy a o S3) H := by rw [eS4]; exact hP
  have hD : va_D (va_A (wX0 cy a o S) s.heap.size) (wX0 cy a o S3) := by rw [eS4]; exact hD
  refine lv_aload_n hx hb dX0_letGo_8 rfl (lv_at hl 0 rfl) ?_
  refine va_get (D := D) (ci := 0) (v := .ref (a (o + 23))) (C := RX0) (T := TX0) (N := 14) hx hb hts hinX0 hown hK hP 0 rfl rfl 9 (by decide) hf57 (fun _ h9 => h9) rfl dX0_letGo_9 ?_
  refine lv_iload_n hx hb dX0_letGo_12 rfl (lv_at hl 1 rfl) ?_
  obtain ⟨x5, e6, h⟩ := bd_some h
  refine smVv (As := [.int p1]) (rest := []) (ws' := (wX0 cy a o (uX0_stage S3 x5))) (q0 := 0) (qX7_unseat l D cy a (o + 23) (gX0_stage S3) p1 (H).size x5 e6) ⟨hx, hb, hml, hown, hts⟩ (cwV 1 hts gX0_letGo_X7_unseat rfl rfl rfl (by decide +kernel) ⟨Nat.le_of_ble_eq_true rfl, Nat.le_of_ble_eq_true rfl⟩) hG hP hD hS hA (pm1 (X := ((hX0 a o S3) ++ ((wX10 cy a (o + 1) (gX0_works S3)) ++ ((wX2 cy a (o + 5) (gX0_entrants S3)) ++ ((rowsW (cy 2) (cy 0) a (o + 7) 4 6 (gX0_rules S3)) ++ ((wX4 cy a (o + 12) (gX0_programs S3)) ++ (wX3 cy a (o + 14) (gX0_jury S3)))))))) (c := (wX7 cy a (o + 23) (gX0_stage S3))) (Y := ((wX6 cy a (o + 26) (gX0_sheet S3)) ++ ((wX9 cy a (o + 35) (gX0_tie S3)) ++ ((rowsW (cy 2) (cy 0) a (o + 46) 4 12 (gX0_closedScores S3)) ++ (wX1 cy a (o + 51) (gX0_cut S3)))))) (show (wX0 cy a o S3) = ((hX0 a o S3) ++ ((wX10 cy a (o + 1) (gX0_works S3)) ++ ((wX2 cy a (o + 5) (gX0_entrants S3)) ++ ((rowsW (cy 2) (cy 0) a (o + 7) 4 6 (gX0_rules S3)) ++ ((wX4 cy a (o + 12) (gX0_programs S3)) ++ (wX3 cy a (o + 14) (gX0_jury S3))))))) ++ ((wX7 cy a (o + 23) (gX0_stage S3)) ++ ((wX6 cy a (o + 26) (gX0_sheet S3)) ++ ((wX9 cy a (o + 35) (gX0_tie S3)) ++ ((rowsW (cy 2) (cy 0) a (o + 46) 4 12 (gX0_closedScores S3)) ++ (wX1 cy a (o + 51) (gX0_cut S3)))))) from by simp only [wX0, List.append_assoc, List.nil_append, List.append_nil] <;> rfl)) (pm1 (X := ((hX0 a o S3) ++ ((wX10 cy a (o + 1) (gX0_works S3)) ++ ((wX2 cy a (o + 5) (gX0_entrants S3)) ++ ((rowsW (cy 2) (cy 0) a (o + 7) 4 6 (gX0_rules S3)) ++ ((wX4 cy a (o + 12) (gX0_programs S3)) ++ (wX3 cy a (o + 14) (gX0_jury S3)))))))) (c := (wX7 cy a (o + 23) x5)) (Y := ((wX6 cy a (o + 26) (gX0_sheet S3)) ++ ((wX9 cy a (o + 35) (gX0_tie S3)) ++ ((rowsW (cy 2) (cy 0) a (o + 46) 4 12 (gX0_closedScores S3)) ++ (wX1 cy a (o + 51) (gX0_cut S3)))))) (show (wX0 cy a o (uX0_stage S3 x5)) = ((hX0 a o S3) ++ ((wX10 cy a (o + 1) (gX0_works S3)) ++ ((wX2 cy a (o + 5) (gX0_entrants S3)) ++ ((rowsW (cy 2) (cy 0) a (o + 7) 4 6 (gX0_rules S3)) ++ ((wX4 cy a (o + 12) (gX0_programs S3)) ++ (wX3 cy a (o + 14) (gX0_jury S3))))))) ++ ((wX7 cy a (o + 23) x5) ++ ((wX6 cy a (o + 26) (gX0_sheet S3)) ++ ((wX9 cy a (o + 35) (gX0_tie S3)) ++ ((rowsW (cy 2) (cy 0) a (o + 46) 4 12 (gX0_closedScores S3)) ++ (wX1 cy a (o + 51) (gX0_cut S3)))))) from by simp only [wX0, List.append_assoc, List.nil_append, List.append_nil] <;> rfl)) rfl rfl rfl hl.1 rfl (Nat.le_of_ble_eq_true rfl) dX0_letGo_13 ⟨Nat.zero_le _, Nat.zero_le _⟩ (fun H locs hP hD hS => ?_)
  obtain ⟨S7, eS8, h⟩ := lt_elim h
  have hP : va_P D vwCl (wX0 cy a o S7) H := by rw [eS8]; exact hP
  have hD : va_D (va_A (wX0 cy a o S) s.heap.size) (wX0 cy a o S7) := by rw [eS8]; exact hD
  refine lv_aload_n hx hb dX0_letGo_16 rfl (lv_at hl 0 rfl) ?_
  refine va_get (D := D) (ci := 0) (v := .int (gX0_state S7)) (C := RX0) (T := TX0) (N := 14) hx hb hts hinX0 hown hK hP 0 rfl rfl 0 (by decide) hf9 (fun _ h9 => h9) rfl dX0_letGo_17 ?_
  refine lv_iconst (v := (1 : Int32)) hx hb dX0_letGo_20 (by decide) ?_
  obtain ⟨j10, hj10, h⟩ := jn_elim h
  have Jj10 : ∀ (S9 : SX0) (H : Heap) (locs : List Loc) (ls : Array Slot), j10 S9 = some rs → va_P D vwCl (wX0 cy a o S9) H → va_D (va_A (wX0 cy a o S) s.heap.size) (wX0 cy a o S9) → va_S (va_A (wX0 cy a o S) s.heap.size) s.heap H locs → lv_has ls 2 [] → W p l e (headSpec wsX0_letGo ({ frames := 3, cells := 0, slots := 0, locals := 68 } : Room)).room s m ([.ref (a o), .int p1] : List Value).toArray below meth c H locs 0 0 (MQ below (va_Qv (fun (u : SX0) => u = rs) (fun u t => mB D s.heap.size (wX0 cy a o S) (wX0 cy a o u) t) (va_A (wX0 cy a o S) s.heap.size)) ([.ref (a o), .int p1] : List Value).toArray s 0 0 (va_A (wX0 cy a o S) s.heap.size)) (F0 m 39 ls []) := by
    intro S9 H locs ls h hP hD hS hl
    rw [hj10] at h
    exact W.vret hx hb hr (fun t ht hW => ⟨⟨S9, rfl, some_in h, by rw [ht]; exact hP, hD⟩, hS.F ht⟩) hS.2.2 dX0_letGo_39
  refine lv_icmp_ne (tgt := 39) hx hb dX0_letGo_21 (by decide) (fun cc => ?_) (fun cc => ?_)
  · have h := ite_n cc h
    exact Jj10 S7 H locs ls h hP hD hS (lv_sub hl [] rfl)
  · have h := ite_p cc h
    refine lv_aload_n hx hb dX0_letGo_24 rfl (lv_at hl 0 rfl) ?_
    refine va_get (D := D) (ci := 0) (v := .ref (a (o + 23))) (C := RX0) (T := TX0) (N := 14) hx hb hts hinX0 hown hK hP 0 rfl rfl 9 (by decide) hf57 (fun _ h9 => h9) rfl dX0_letGo_25 ?_
    refine va_getN (D := D) (ci := 7) (v := .int (gX7_players (gX0_stage S7))) (C := RX7) (T := TX7) (N := 5) hx hb hts hinX7 hown hK hP 23 rfl rfl 0 (by decide) hf139 (fun _ h9 => h9) rfl dX0_letGo_28 ?_
    refine lv_if_ne (tgt := 39) hx hb dX0_letGo_31 (by decide) (fun cc => ?_) (fun cc => ?_)
    · have h := ite_n cc h
      exact Jj10 S7 H locs ls h hP hD hS (lv_sub hl [] rfl)
    · have h := ite_p cc h
      refine lv_aload_n hx hb dX0_letGo_34 rfl (lv_at hl 0 rfl) ?_
      refine lv_iconst (v := (3 : Int32)) hx hb dX0_letGo_35 (by decide) ?_
      refine va_put (D := D) (ci := 0) (v := .int (3 : Int32)) (ty := .int) (C := RX0) (T := TX0) (N := 14) hx hb hts hinX0 tyX0 tyX0_ok nmX0 hown hK hP hD hS 0 rfl rfl 0 (by decide) hf9 (fun _ h9 => h9) rfl (by decide +kernel) rfl rfl (Nat.le_of_ble_eq_true rfl) dX0_letGo_36 (fun H locs hP hD hS => ?_)
      have hP : va_P D vwCl (wX0 cy a o (uX0_state S7 (3 : Int32))) H := hP
      have hD : va_D (va_A (wX0 cy a o S) s.heap.size) (wX0 cy a o (uX0_state S7 (3 : Int32))) := hD
      obtain ⟨S11, eS12, h⟩ := lt_elim h
      have hP : va_P D vwCl (wX0 cy a o S11) H := by rw [eS12]; exact hP
      have hD : va_D (va_A (wX0 cy a o S) s.heap.size) (wX0 cy a o S11) := by rw [eS12]; exact hD
      exact Jj10 S11 H locs ls h hP hD hS (lv_sub hl [] rfl)
set_option maxHeartbeats 4000000 in
set_option maxRecDepth 100000 in
theorem qX0_isAwaited (l : Launch) (D : va_G) (cy : Nat → ClassId) (a : Nat → Nat) (o : Nat) (S : SX0) (p1 : Int32) (rs : Int32) (h : DX0_isAwaited S p1 = some rs) : Met l yX0_isAwaited wsX0_isAwaited ({ frames := 4, cells := 0, slots := 0, locals := 85 } : Room) (va_Pc [.ref (a o), .int p1] (fun U => va_P D vwCl (wX0 cy a o S) U.heap ∧ gK D cy U)) (vp_Si (fun z => z = rs)) 0 0 (fun _ => False) := by
  refine Met.ofW (cc := cX0_isAwaited) (maxL := 2) (ret := (some .boolean)) (by decide) rfl ?_
  intro p e s m args below meth c s₁ B hml hv
  obtain ⟨rfl, hP, hG⟩ := hv
  have hx := B.exec
  have hb := B.bytes
  have hr := B.returns
  have hts := atoms_spec (ws := wsX0_isAwaited) B.pre
  have hown : s.vm.findClass RX0 = some m.cls := findClass_of_methodNamed B.named
  have hlocks := B.notSynchronized
  have hK := hG.1
  have hinX0 := (by decide +kernel : ∀ w ∈ wsX00, w ∈ wsX0_isAwaited)
  have hf9 := hts (.fieldLink RX0 9 "PianoRounds$Competition" "state" "I") (by decide +kernel)
  have hf71 := hts (.fieldLink RX0 71 "PianoRounds$Competition" "tie" "LPianoRounds$Tie;") (by decide +kernel)
  have hf50 := hts (.fieldLink RX0 50 "PianoRounds$Competition" "jury" "LPianoRounds$Jury;") (by decide +kernel)
  have hinX9 := (by decide +kernel : ∀ w ∈ wsX90, w ∈ wsX0_isAwaited)
  have hf176 := va_Nw.use (A := ([.ref (a o), .int p1] : List Value).toArray) (U := s) (w := .fieldLinkNest "PianoRounds$Competition" 176 "PianoRounds$Tie" "sheet" "LPianoRounds$Sheet;" "PianoRounds") rfl (hG.2.1 _ (by decide +kernel))
  have hl := lv_entry ([.ref (a o), .int p1]) (n := 2) (Nat.le_of_ble_eq_true rfl)
  rw [lg_entry_eq]
  generalize (lg_sl ([.ref (a o), .int p1]) ++ List.replicate (2 - (lg_sl ([.ref (a o), .int p1])).length) Slot.unset).toArray = ls at hl ⊢
  have hl : lv_has ls 2 [(0, .ref (a o)), (1, .int p1)] := hl
  rw [DX0_isAwaited] at h
  refine lv_aload_n hx hb dX0_isAwaited_0 rfl (lv_at hl 0 rfl) ?_
  refine va_get (D := D) (ci := 0) (v := .int (gX0_state S)) (C := RX0) (T := TX0) (N := 14) hx hb hts hinX0 hown hK hP 0 rfl rfl 0 (by decide) hf9 (fun _ h9 => h9) rfl dX0_isAwaited_1 ?_
  refine lv_iconst (v := (2 : Int32)) hx hb dX0_isAwaited_4 (by decide) ?_
  refine lv_icmp_ne (tgt := 43) hx hb dX0_isAwaited_5 (by decide) (fun cc => ?_) (fun cc => ?_)
  · have h := ite_n cc h
    refine lv_aload_n hx hb dX0_isAwaited_43 rfl (lv_at hl 0 rfl) ?_
    refine lv_iload_n hx hb dX0_isAwaited_44 rfl (lv_at hl 1 rfl) ?_
    obtain ⟨x1, e2, h⟩ := bd_some h
    refine pcV (As := [.int p1]) (rest := []) (q0 := 0) (qX0_isComplete l D cy a o S p1 x1 e2) ⟨hx, hb, hml, hown, hts⟩ (cwV 1 hts gX0_isAwaited_X0_isComplete rfl rfl rfl (by decide +kernel) ⟨Nat.le_of_ble_eq_true rfl, Nat.le_of_ble_eq_true rfl⟩) hG hP rfl rfl rfl hl.1 rfl (Nat.le_of_ble_eq_true rfl) dX0_isAwaited_45 ⟨Nat.zero_le _, Nat.zero_le _⟩ ?_
    obtain ⟨j4, hj4, h⟩ := jn_elim h
    have Jj4 : ∀ (x3 : Int32) (ls : Array Slot), j4 x3 = some rs → lv_has ls 2 [] → W p l e (headSpec wsX0_isAwaited ({ frames := 4, cells := 0, slots := 0, locals := 85 } : Room)).room s m ([.ref (a o), .int p1] : List Value).toArray below meth c s.heap [] 0 0 (MQ below (vp_Si (fun z => z = rs)) ([.ref (a o), .int p1] : List Value).toArray s 0 0 (fun _ => False)) (F0 m 56 ls [.int x3]) := by
      intro x3 ls h hl
      rw [hj4] at h
      obtain ⟨g5, h⟩ := gd_some h
      exact W.zret (v := x3) hx hb hr (zN g5) (fun t ht hW => ⟨x3, rfl, some_in h, ht⟩) (fun q hq => nomatch hq) dX0_isAwaited_56
    refine lv_if_ne (tgt := 55) hx hb dX0_isAwaited_48 (by decide) (fun cc => ?_) (fun cc => ?_)
    · have h := ite_n cc h
      refine lv_iconst (v := (0 : Int32)) hx hb dX0_isAwaited_55 (by decide) ?_
      exact Jj4 (0 : Int32) ls h (lv_sub hl [] rfl)
    · have h := ite_p cc h
      refine lv_iconst (v := (1 : Int32)) hx hb dX0_isAwaited_51 (by decide) ?_
      refine lv_goto (tgt := 56) hx hb dX0_isAwaited_52 (by decide) ?_
      exact Jj4 (1 : Int32) ls h (lv_sub hl [] rfl)
  · have h := ite_p cc h
    refine lv_aload_n hx hb dX0_isAwaited_8 rfl (lv_at hl 0 rfl) ?_
    refine va_get (D := D) (ci := 0) (v := .ref (a (o + 35))) (C := RX0) (T := TX0) (N := 14) hx hb hts hinX0 hown hK hP 0 rfl rfl 11 (by decide) hf71 (fun _ h9 => h9) rfl dX0_isAwaited_9 ?_
    refine lv_iload_n hx hb dX0_isAwaited_12 rfl (lv_at hl 1 rfl) ?_
    obtain ⟨x6, e7, h⟩ := bd_some h
    refine pcV (As := [.int p1]) (rest := []) (q0 := 0) (qX9_has l D cy a (o + 35) (gX0_tie S) p1 x6 e7) ⟨hx, hb, hml, hown, hts⟩ (cwV 1 hts gX0_isAwaited_X9_has rfl rfl rfl (by decide +kernel) ⟨Nat.le_of_ble_eq_true rfl, Nat.le_of_ble_eq_true rfl⟩) hG (P_seg (X := ((hX0 a o S) ++ ((wX10 cy a (o + 1) (gX0_works S)) ++ ((wX2 cy a (o + 5) (gX0_entrants S)) ++ ((rowsW (cy 2) (cy 0) a (o + 7) 4 6 (gX0_rules S)) ++ ((wX4 cy a (o + 12) (gX0_programs S)) ++ ((wX3 cy a (o + 14) (gX0_jury S)) ++ ((wX7 cy a (o + 23) (gX0_stage S)) ++ (wX6 cy a (o + 26) (gX0_sheet S)))))))))) (c := (wX9 cy a (o + 35) (gX0_tie S))) (Y := ((rowsW (cy 2) (cy 0) a (o + 46) 4 12 (gX0_closedScores S)) ++ (wX1 cy a (o + 51) (gX0_cut S)))) hP (by simp only [wX0, List.append_assoc, List.nil_append, List.append_nil] <;> rfl)) rfl rfl rfl hl.1 rfl (Nat.le_of_ble_eq_true rfl) dX0_isAwaited_13 ⟨Nat.zero_le _, Nat.zero_le _⟩ ?_
    obtain ⟨j9, hj9, h⟩ := jn_elim h
    have Jj9 : ∀ (x8 : Int32) (ls : Array Slot), j9 x8 = some rs → lv_has ls 2 [] → W p l e (headSpec wsX0_isAwaited ({ frames := 4, cells := 0, slots := 0, locals := 85 } : Room)).room s m ([.ref (a o), .int p1] : List Value).toArray below meth c s.heap [] 0 0 (MQ below (vp_Si (fun z => z = rs)) ([.ref (a o), .int p1] : List Value).toArray s 0 0 (fun _ => False)) (F0 m 42 ls [.int x8]) := by
      intro x8 ls h hl
      rw [hj9] at h
      obtain ⟨g10, h⟩ := gd_some h
      exact W.zret (v := x8) hx hb hr (zN g10) (fun t ht hW => ⟨x8, rfl, some_in h, ht⟩) (fun q hq => nomatch hq) dX0_isAwaited_42
    obtain ⟨j11, hj11, h⟩ := jn_elim h
    have Jj11 : ∀ (ls : Array Slot), j11 () = some rs → lv_has ls 2 [] → W p l e (headSpec wsX0_isAwaited ({ frames := 4, cells := 0, slots := 0, locals := 85 } : Room)).room s m ([.ref (a o), .int p1] : List Value).toArray below meth c s.heap [] 0 0 (MQ below (vp_Si (fun z => z = rs)) ([.ref (a o), .int p1] : List Value).toArray s 0 0 (fun _ => False)) (F0 m 41 ls []) := by
      intro ls h hl
      rw [hj11] at h
      refine lv_iconst (v := (0 : Int32)) hx hb dX0_isAwaited_41 (by decide) ?_
      exact Jj9 (0 : Int32) ls h (lv_sub hl [] rfl)
    refine lv_if_eq (tgt := 41) hx hb dX0_isAwaited_16 (by decide) (fun cc => ?_) (fun cc => ?_)
    · have h := ite_p cc h
      exact Jj11  ls h (lv_sub hl [] rfl)
    · have h := ite_n cc h
      refine lv_aload_n hx hb dX0_isAwaited_19 rfl (lv_at hl 0 rfl) ?_
      refine va_get (D := D) (ci := 0) (v := .ref (a (o + 14))) (C := RX0) (T := TX0) (N := 14) hx hb hts hinX0 hown hK hP 0 rfl rfl 8 (by decide) hf50 (fun _ h9 => h9) rfl dX0_isAwaited_20 ?_
      refine lv_aload_n hx hb dX0_isAwaited_23 rfl (lv_at hl 0 rfl) ?_
      refine va_get (D := D) (ci := 0) (v := .ref (a (o + 35))) (C := RX0) (T := TX0) (N := 14) hx hb hts hinX0 hown hK hP 0 rfl rfl 11 (by decide) hf71 (fun _ h9 => h9) rfl dX0_isAwaited_24 ?_
      refine va_getN (D := D) (ci := 9) (v := .ref (a (o + 35 + 2))) (C := RX9) (T := TX9) (N := 4) hx hb hts hinX9 hown hK hP 35 rfl rfl 3 (by decide) hf176 (fun _ h9 => h9) rfl dX0_isAwaited_27 ?_
      refine lv_iload_n hx hb dX0_isAwaited_30 rfl (lv_at hl 1 rfl) ?_
      obtain ⟨x12, e13, h⟩ := bd_some h
      refine pcV (As := [.ref (a (o + 35 + 2)), .int p1]) (rest := []) (q0 := 0) (qX3_isSettled l D cy a (o + 14) a (o + 35 + 2) (gX0_jury S) (gX9_sheet (gX0_tie S)) p1 x12 e13) ⟨hx, hb, hml, hown, hts⟩ (cwV 2 hts gX0_isAwaited_X3_isSettled rfl rfl rfl (by decide +kernel) ⟨Nat.le_of_ble_eq_true rfl, Nat.le_of_ble_eq_true rfl⟩) hG (va_P.app (P_seg (X := ((hX0 a o S) ++ ((wX10 cy a (o + 1) (gX0_works S)) ++ ((wX2 cy a (o + 5) (gX0_entrants S)) ++ ((rowsW (cy 2) (cy 0) a (o + 7) 4 6 (gX0_rules S)) ++ (wX4 cy a (o + 12) (gX0_programs S))))))) (c := (wX3 cy a (o + 14) (gX0_jury S))) (Y := ((wX7 cy a (o + 23) (gX0_stage S)) ++ ((wX6 cy a (o + 26) (gX0_sheet S)) ++ ((wX9 cy a (o + 35) (gX0_tie S)) ++ ((rowsW (cy 2) (cy 0) a (o + 46) 4 12 (gX0_closedScores S)) ++ (wX1 cy a (o + 51) (gX0_cut S))))))) hP (by simp only [wX0, List.append_assoc, List.nil_append, List.append_nil] <;> rfl)) (P_seg (X := ((hX0 a o S) ++ ((wX10 cy a (o + 1) (gX0_works S)) ++ ((wX2 cy a (o + 5) (gX0_entrants S)) ++ ((rowsW (cy 2) (cy 0) a (o + 7) 4 6 (gX0_rules S)) ++ ((wX4 cy a (o + 12) (gX0_programs S)) ++ ((wX3 cy a (o + 14) (gX0_jury S)) ++ ((wX7 cy a (o + 23) (gX0_stage S)) ++ ((wX6 cy a (o + 26) (gX0_sheet S)) ++ ((hX9 a (o + 35) (gX0_tie S)) ++ (aW cy a (o + 35 + 1) 12 (gX9_tied (gX0_tie S))))))))))))) (c := (wX6 cy a (o + 35 + 2) (gX9_sheet (gX0_tie S)))) (Y := ((rowsW (cy 2) (cy 0) a (o + 46) 4 12 (gX0_closedScores S)) ++ (wX1 cy a (o + 51) (gX0_cut S)))) hP (by simp only [wX0, wX9, List.append_assoc, List.nil_append, List.append_nil] <;> rfl))) rfl rfl rfl hl.1 rfl (Nat.le_of_ble_eq_true rfl) dX0_isAwaited_31 ⟨Nat.zero_le _, Nat.zero_le _⟩ ?_
      refine lv_if_ne (tgt := 41) hx hb dX0_isAwaited_34 (by decide) (fun cc => ?_) (fun cc => ?_)
      · have h := ite_n cc h
        exact Jj11  ls h (lv_sub hl [] rfl)
      · have h := ite_p cc h
        refine lv_iconst (v := (1 : Int32)) hx hb dX0_isAwaited_37 (by decide) ?_
        refine lv_goto (tgt := 42) hx hb dX0_isAwaited_38 (by decide) ?_
        exact Jj9 (1 : Int32) ls h (lv_sub hl [] rfl)
set_option maxHeartbeats 4000000 in
set_option maxRecDepth 100000 in
theorem qX0_canBeClosed (l : Launch) (D : va_G) (cy : Nat → ClassId) (a : Nat → Nat) (o : Nat) (S : SX0)  (rs : Int32) (h : DX0_canBeClosed S = some rs) : Met l yX0_canBeClosed wsX0_canBeClosed ({ frames := 5, cells := 0, slots := 0, locals := 106 } : Room) (va_Pc [.ref (a o)] (fun U => va_P D vwCl (wX0 cy a o S) U.heap ∧ gK D cy U)) (vp_Si (fun z => z = rs)) 0 0 (fun _ => False) := by
  refine Met.ofW (cc := cX0_canBeClosed) (maxL := 2) (ret := (some .boolean)) (by decide) rfl ?_
  intro p e s m args below meth c s₁ B hml hv
  obtain ⟨rfl, hP, hG⟩ := hv
  have hx := B.exec
  have hb := B.bytes
  have hr := B.returns
  have hts := atoms_spec (ws := wsX0_canBeClosed) B.pre
  have hown : s.vm.findClass RX0 = some m.cls := findClass_of_methodNamed B.named
  have hlocks := B.notSynchronized
  have hK := hG.1
  have hinX0 := (by decide +kernel : ∀ w ∈ wsX00, w ∈ wsX0_canBeClosed)
  have hf9 := hts (.fieldLink RX0 9 "PianoRounds$Competition" "state" "I") (by decide +kernel)
  have hf57 := hts (.fieldLink RX0 57 "PianoRounds$Competition" "stage" "LPianoRounds$Stage;") (by decide +kernel)
  have hinX7 := (by decide +kernel : ∀ w ∈ wsX70, w ∈ wsX0_canBeClosed)
  have hf139 := va_Nw.use (A := ([.ref (a o)] : List Value).toArray) (U := s) (w := .fieldLinkNest "PianoRounds$Competition" 139 "PianoRounds$Stage" "players" "I" "PianoRounds") rfl (hG.2.1 _ (by decide +kernel))
  have hl := lv_entry ([.ref (a o)]) (n := 2) (Nat.le_of_ble_eq_true rfl)
  rw [lg_entry_eq]
  generalize (lg_sl ([.ref (a o)]) ++ List.replicate (2 - (lg_sl ([.ref (a o)])).length) Slot.unset).toArray = ls at hl ⊢
  have hl : lv_has ls 2 [(0, .ref (a o))] := hl
  rw [DX0_canBeClosed] at h
  refine lv_aload_n hx hb dX0_canBeClosed_0 rfl (lv_at hl 0 rfl) ?_
  refine va_get (D := D) (ci := 0) (v := .int (gX0_state S)) (C := RX0) (T := TX0) (N := 14) hx hb hts hinX0 hown hK hP 0 rfl rfl 0 (by decide) hf9 (fun _ h9 => h9) rfl dX0_canBeClosed_1 ?_
  refine lv_iconst (v := (1 : Int32)) hx hb dX0_canBeClosed_4 (by decide) ?_
  obtain ⟨j1, hj1, h⟩ := jn_elim h
  have Jj1 : ∀ (ls : Array Slot), j1 () = some rs → lv_has ls 2 [(0, .ref (a o))] → W p l e (headSpec wsX0_canBeClosed ({ frames := 5, cells := 0, slots := 0, locals := 106 } : Room)).room s m ([.ref (a o)] : List Value).toArray below meth c s.heap [] 0 0 (MQ below (vp_Si (fun z => z = rs)) ([.ref (a o)] : List Value).toArray s 0 0 (fun _ => False)) (F0 m 18 ls []) := by
    intro ls h hl
    rw [hj1] at h
    refine lv_iconst (v := (0 : Int32)) hx hb dX0_canBeClosed_18 (by decide) ?_
    refine lv_istore_n (lv' := [(1, .int (0 : Int32)), (0, .ref (a o))]) hx hb dX0_canBeClosed_19 rfl hl (by decide) rfl (fun ls hl => ?_)
    have L9 : ∀ (k2 : Unit → Option (Int32)) (hk2 : ∀ (ls : Array Slot), k2 () = some rs → lv_has ls 2 [] → W p l e (headSpec wsX0_canBeClosed ({ frames := 5, cells := 0, slots := 0, locals := 106 } : Room)).room s m ([.ref (a o)] : List Value).toArray below meth c s.heap [] 0 0 (MQ below (vp_Si (fun z => z = rs)) ([.ref (a o)] : List Value).toArray s 0 0 (fun _ => False)) (F0 m 46 ls [])) (k3 : Unit → Option (Int32)) (hk3 : ∀ (ls : Array Slot), k3 () = some rs → lv_has ls 2 [] → W p l e (headSpec wsX0_canBeClosed ({ frames := 5, cells := 0, slots := 0, locals := 106 } : Room)).room s m ([.ref (a o)] : List Value).toArray below meth c s.heap [] 0 0 (MQ below (vp_Si (fun z => z = rs)) ([.ref (a o)] : List Value).toArray s 0 0 (fun _ => False)) (F0 m 54 ls [])) (f : Nat) (v1_4 : Int32) (ls : Array Slot), DX0_canBeClosed_L20 S k2 k3 f v1_4 = some rs → lv_has ls 2 [(0, .ref (a o)), (1, .int v1_4)] → W p l e (headSpec wsX0_canBeClosed ({ frames := 5, cells := 0, slots := 0, locals := 106 } : Room)).room s m ([.ref (a o)] : List Value).toArray below meth c s.heap [] 0 0 (MQ below (vp_Si (fun z => z = rs)) ([.ref (a o)] : List Value).toArray s 0 0 (fun _ => False)) (F0 m 20 ls []) := by
      intro k2 hk2 k3 hk3 f
      induction f with
      | zero =>
        intro v1_4 ls h hl
        rw [DX0_canBeClosed_L20] at h
        cases h
      | succ f ih =>
        intro v1_4 ls h hl
        rw [DX0_canBeClosed_L20] at h
        refine lv_iload_n hx hb dX0_canBeClosed_20 rfl (lv_at hl 1 rfl) ?_
        refine lv_aload_n hx hb dX0_canBeClosed_21 rfl (lv_at hl 0 rfl) ?_
        refine va_get (D := D) (ci := 0) (v := .ref (a (o + 23))) (C := RX0) (T := TX0) (N := 14) hx hb hts hinX0 hown hK hP 0 rfl rfl 9 (by decide) hf57 (fun _ h9 => h9) rfl dX0_canBeClosed_22 ?_
        refine va_getN (D := D) (ci := 7) (v := .int (gX7_players (gX0_stage S))) (C := RX7) (T := TX7) (N := 5) hx hb hts hinX7 hown hK hP 23 rfl rfl 0 (by decide) hf139 (fun _ h9 => h9) rfl dX0_canBeClosed_25 ?_
        refine lv_icmp_ge (tgt := 54) hx hb dX0_canBeClosed_28 (by decide) (fun cc => ?_) (fun cc => ?_)
        · have h := ite_p cc h
          exact hk3  ls h (lv_sub hl [] rfl)
        · have h := ite_n cc h
          refine lv_aload_n hx hb dX0_canBeClosed_31 rfl (lv_at hl 0 rfl) ?_
          refine lv_aload_n hx hb dX0_canBeClosed_32 rfl (lv_at hl 0 rfl) ?_
          refine va_get (D := D) (ci := 0) (v := .ref (a (o + 23))) (C := RX0) (T := TX0) (N := 14) hx hb hts hinX0 hown hK hP 0 rfl rfl 9 (by decide) hf57 (fun _ h9 => h9) rfl dX0_canBeClosed_33 ?_
          refine lv_iload_n hx hb dX0_canBeClosed_36 rfl (lv_at hl 1 rfl) ?_
          obtain ⟨x5, e6, h⟩ := bd_some h
          refine pcV (As := [.int v1_4]) (rest := [.ref (a o)]) (q0 := 0) (qX7_playerAt l D cy a (o + 23) (gX0_stage S) v1_4 x5 e6) ⟨hx, hb, hml, hown, hts⟩ (cwV 1 hts gX0_canBeClosed_X7_playerAt rfl rfl rfl (by decide +kernel) ⟨Nat.le_of_ble_eq_true rfl, Nat.le_of_ble_eq_true rfl⟩) hG (P_seg (X := ((hX0 a o S) ++ ((wX10 cy a (o + 1) (gX0_works S)) ++ ((wX2 cy a (o + 5) (gX0_entrants S)) ++ ((rowsW (cy 2) (cy 0) a (o + 7) 4 6 (gX0_rules S)) ++ ((wX4 cy a (o + 12) (gX0_programs S)) ++ (wX3 cy a (o + 14) (gX0_jury S)))))))) (c := (wX7 cy a (o + 23) (gX0_stage S))) (Y := ((wX6 cy a (o + 26) (gX0_sheet S)) ++ ((wX9 cy a (o + 35) (gX0_tie S)) ++ ((rowsW (cy 2) (cy 0) a (o + 46) 4 12 (gX0_closedScores S)) ++ (wX1 cy a (o + 51) (gX0_cut S)))))) hP (by simp only [wX0, List.append_assoc, List.nil_append, List.append_nil] <;> rfl)) rfl rfl rfl hl.1 rfl (Nat.le_of_ble_eq_true rfl) dX0_canBeClosed_37 ⟨Nat.zero_le _, Nat.zero_le _⟩ ?_
          obtain ⟨x7, e8, h⟩ := bd_some h
          refine pcV (As := [.int x5]) (rest := []) (q0 := 0) (qX0_isAwaited l D cy a o S x5 x7 e8) ⟨hx, hb, hml, hown, hts⟩ (cwV 1 hts gX0_canBeClosed_X0_isAwaited rfl rfl rfl (by decide +kernel) ⟨Nat.le_of_ble_eq_true rfl, Nat.le_of_ble_eq_true rfl⟩) hG hP rfl rfl rfl hl.1 rfl (Nat.le_of_ble_eq_true rfl) dX0_canBeClosed_40 ⟨Nat.zero_le _, Nat.zero_le _⟩ ?_
          refine lv_if_eq (tgt := 48) hx hb dX0_canBeClosed_43 (by decide) (fun cc => ?_) (fun cc => ?_)
          · have h := ite_p cc h
            refine lv_iinc (v := (v1_4 + (1 : Int32))) (lv' := [(1, .int (v1_4 + (1 : Int32))), (0, .ref (a o))]) hx hb dX0_canBeClosed_48 hl (k := 1) rfl (by rfl) (by decide) rfl (fun ls hl => ?_)
            refine lv_goto (tgt := 20) hx hb dX0_canBeClosed_51 (by decide) ?_
            exact ih (v1_4 + (1 : Int32)) ls h (lv_sub hl [1, 0] rfl)
          · have h := ite_n cc h
            exact hk2  ls h (lv_sub hl [] rfl)
    refine L9  _ ?_ _ ?_ fu (0 : Int32) ls h (lv_sub hl [1, 0] rfl)
    · intro ls h hl
      refine lv_iconst (v := (0 : Int32)) hx hb dX0_canBeClosed_46 (by decide) ?_
      exact W.zret (v := (0 : Int32)) hx hb hr rfl (fun t ht hW => ⟨(0 : Int32), rfl, some_in h, ht⟩) (fun q hq => nomatch hq) dX0_canBeClosed_47
    · intro ls h hl
      refine lv_iconst (v := (1 : Int32)) hx hb dX0_canBeClosed_54 (by decide) ?_
      exact W.zret (v := (1 : Int32)) hx hb hr rfl (fun t ht hW => ⟨(1 : Int32), rfl, some_in h, ht⟩) (fun q hq => nomatch hq) dX0_canBeClosed_55
  refine lv_icmp_eq (tgt := 18) hx hb dX0_canBeClosed_5 (by decide) (fun cc => ?_) (fun cc => ?_)
  · have h := ite_p cc h
    exact Jj1  ls h (lv_sub hl [0] rfl)
  · have h := ite_n cc h
    refine lv_aload_n hx hb dX0_canBeClosed_8 rfl (lv_at hl 0 rfl) ?_
    refine va_get (D := D) (ci := 0) (v := .int (gX0_state S)) (C := RX0) (T := TX0) (N := 14) hx hb hts hinX0 hown hK hP 0 rfl rfl 0 (by decide) hf9 (fun _ h9 => h9) rfl dX0_canBeClosed_9 ?_
    refine lv_iconst (v := (2 : Int32)) hx hb dX0_canBeClosed_12 (by decide) ?_
    refine lv_icmp_eq (tgt := 18) hx hb dX0_canBeClosed_13 (by decide) (fun cc => ?_) (fun cc => ?_)
    · have h := ite_p cc h
      exact Jj1  ls h (lv_sub hl [0] rfl)
    · have h := ite_n cc h
      refine lv_iconst (v := (0 : Int32)) hx hb dX0_canBeClosed_16 (by decide) ?_
      exact W.zret (v := (0 : Int32)) hx hb hr rfl (fun t ht hW => ⟨(0 : Int32), rfl, some_in h, ht⟩) (fun q hq => nomatch hq) dX0_canBeClosed_17
set_option maxHeartbeats 4000000 in
set_option maxRecDepth 100000 in
theorem qX1_clear (l : Launch) (D : va_G) (cy : Nat → ClassId) (a : Nat → Nat) (o : Nat) (S : SX1)  (sz : Nat) (rs : SX1) (h : DX1_clear S = some rs) : Met l yX1_clear wsX1_clear ({ frames := 1, cells := 0, slots := 0, locals := 23 } : Room) (mP D cy sz [.ref (a o)] (wX1 cy a o S)) (va_Qv (fun (u : SX1) => u = rs) (fun u t => mB D sz (wX1 cy a o S) (wX1 cy a o u) t) (va_A (wX1 cy a o S) sz)) 0 0 (va_A (wX1 cy a o S) sz) := by
  refine Met.ofW (cc := cX1_clear) (maxL := 1) (ret := none) (by decide) rfl ?_
  intro p e s m args below meth c s₁ B hml hv
  obtain ⟨rfl, hsz, hP, hG, hD0⟩ := hv
  have hx := B.exec
  have hb := B.bytes
  have hr := B.returns
  have hts := atoms_spec (ws := wsX1_clear) B.pre
  have hown : s.vm.findClass RX1 = some m.cls := findClass_of_methodNamed B.named
  have hlocks := B.notSynchronized
  have hK := hG.1
  subst hsz
  have hD := hD0.self (sz := s.heap.size)
  have hA : ∀ q : Nat, s.heap.size ≤ q → (va_A (wX1 cy a o S) s.heap.size) q := fun q h => Or.inr h
  have hS : va_S (va_A (wX1 cy a o S) s.heap.size) s.heap s.heap [] := va_S.rf
  have hinX1 := (by decide +kernel : ∀ w ∈ wsX10, w ∈ wsX1_clear)
  have hf9 := hts (.fieldLink RX1 9 "PianoRounds$Cut" "scores" "[I") (by decide +kernel)
  have hl := lv_entry ([.ref (a o)]) (n := 1) (Nat.le_of_ble_eq_true rfl)
  rw [lg_entry_eq]
  generalize (lg_sl ([.ref (a o)]) ++ List.replicate (1 - (lg_sl ([.ref (a o)])).length) Slot.unset).toArray = ls at hl ⊢
  have hl : lv_has ls 1 [(0, .ref (a o))] := hl
  rw [DX1_clear] at h
  refine lv_aload_n hx hb dX1_clear_0 rfl (lv_at hl 0 rfl) ?_
  refine va_get (D := D) (ci := 1) (v := .ref (a (o + 1))) (C := RX1) (T := TX1) (N := 6) hx hb hts hinX1 hown hK hP 0 rfl rfl 5 (by decide) hf9 (fun _ h9 => h9) rfl dX1_clear_1 ?_
  refine lv_iconst (v := (-1 : Int32)) hx hb dX1_clear_4 (by decide) ?_
  refine mcC1 (b := (a (o + 1))) (e0 := .inl (cy 0, 12, .inl (gX1_scores S))) (e1 := .inl (cy 0, 12, .inl (fun _ => (-1 : Int32)))) (ws' := (wX1 cy a o (uX1_scores S (fun _ => (-1 : Int32))))) (fun hp => va_runS (As := [.ref (a (o + 1)), .int (-1 : Int32)]) (rest := []) ⟨hx, hb, hml, hown, hts⟩ (qJ7_fill l D cy (a (o + 1)) 12 (by decide) (gX1_scores S) (-1 : Int32) (s.heap).size) (va_cwS 2 hts gX1_clear_J7_fill_53178 rfl rfl rfl (by decide +kernel) ⟨Nat.le_of_ble_eq_true rfl, Nat.le_of_ble_eq_true rfl⟩) hp rfl rfl hl.1 rfl (lv_room (Nat.le_of_ble_eq_true rfl)) dX1_clear_5 ⟨Nat.zero_le _, Nat.zero_le _⟩) hG hP hD hS hA 1 rfl rfl (fun H locs hP hD hS => ?_)
  obtain ⟨S1, eS2, h⟩ := lt_elim h
  have hP : va_P D vwCl (wX1 cy a o S1) H := by rw [eS2]; exact hP
  have hD : va_D (va_A (wX1 cy a o S) s.heap.size) (wX1 cy a o S1) := by rw [eS2]; exact hD
  exact W.vret hx hb hr (fun t ht hW => ⟨⟨S1, rfl, some_in h, by rw [ht]; exact hP, hD⟩, hS.F ht⟩) hS.2.2 dX1_clear_8
set_option maxHeartbeats 4000000 in
set_option maxRecDepth 100000 in
theorem qX1_put (l : Launch) (D : va_G) (cy : Nat → ClassId) (a : Nat → Nat) (o : Nat) (S : SX1) (p1 : Int32) (p2 : Int32) (sz : Nat) (rs : SX1) (h : DX1_put S p1 p2 = some rs) : Met l yX1_put wsX1_put ({ frames := 1, cells := 0, slots := 0, locals := 22 } : Room) (mP D cy sz [.ref (a o), .int p1, .int p2] (wX1 cy a o S)) (va_Qv (fun (u : SX1) => u = rs) (fun u t => mB D sz (wX1 cy a o S) (wX1 cy a o u) t) (va_A (wX1 cy a o S) sz)) 0 0 (va_A (wX1 cy a o S) sz) := by
  refine Met.ofW (cc := cX1_put) (maxL := 3) (ret := none) (by decide) rfl ?_
  intro p e s m args below meth c s₁ B hml hv
  obtain ⟨rfl, hsz, hP, hG, hD0⟩ := hv
  have hx := B.exec
  have hb := B.bytes
  have hr := B.returns
  have hts := atoms_spec (ws := wsX1_put) B.pre
  have hown : s.vm.findClass RX1 = some m.cls := findClass_of_methodNamed B.named
  have hlocks := B.notSynchronized
  have hK := hG.1
  subst hsz
  have hD := hD0.self (sz := s.heap.size)
  have hA : ∀ q : Nat, s.heap.size ≤ q → (va_A (wX1 cy a o S) s.heap.size) q := fun q h => Or.inr h
  have hS : va_S (va_A (wX1 cy a o S) s.heap.size) s.heap s.heap [] := va_S.rf
  have hinX1 := (by decide +kernel : ∀ w ∈ wsX10, w ∈ wsX1_put)
  have hf9 := hts (.fieldLink RX1 9 "PianoRounds$Cut" "scores" "[I") (by decide +kernel)
  have hl := lv_entry ([.ref (a o), .int p1, .int p2]) (n := 3) (Nat.le_of_ble_eq_true rfl)
  rw [lg_entry_eq]
  generalize (lg_sl ([.ref (a o), .int p1, .int p2]) ++ List.replicate (3 - (lg_sl ([.ref (a o), .int p1, .int p2])).length) Slot.unset).toArray = ls at hl ⊢
  have hl : lv_has ls 3 [(0, .ref (a o)), (1, .int p1), (2, .int p2)] := hl
  rw [DX1_put] at h
  refine lv_iload_n hx hb dX1_put_0 rfl (lv_at hl 1 rfl) ?_
  refine lv_iconst (v := (0 : Int32)) hx hb dX1_put_1 (by decide) ?_
  refine lv_bipush (v := (11 : Int32)) hx hb dX1_put_2 (by decide) ?_
  obtain ⟨x1, e2, h⟩ := bd_some h
  refine pcSN (As := [.int p1, .int (0 : Int32), .int (11 : Int32)]) (rest := []) (qX11_isBetween l D cy  p1 (0 : Int32) (11 : Int32) x1 e2) ⟨hx, hb, hml, hown, hts⟩ ⟨va_cnB (y := yX11_isBetween) 3 hts gX1_put_X11_isBetween_n21 rfl rfl rfl (hG.2.2.1 (.methodLinkNest "PianoRounds$Cut" 21 ⟨"PianoRounds", "isBetween", "(III)Z"⟩ "PianoRounds") (by decide +kernel)) (hts (.initialized RX11) (by decide +kernel)) (by decide +kernel) ⟨Nat.le_of_ble_eq_true rfl, Nat.le_of_ble_eq_true rfl⟩, hts (.static yX11_isBetween) (by decide +kernel), trivial⟩ hG (hP.sub [] rfl) rfl hl.1 rfl (Nat.le_of_ble_eq_true rfl) dX1_put_4 ⟨Nat.zero_le _, Nat.zero_le _⟩ ?_
  obtain ⟨j4, hj4, h⟩ := jn_elim h
  have Jj4 : ∀ (S3 : SX1) (H : Heap) (locs : List Loc) (ls : Array Slot), j4 S3 = some rs → va_P D vwCl (wX1 cy a o S3) H → va_D (va_A (wX1 cy a o S) s.heap.size) (wX1 cy a o S3) → va_S (va_A (wX1 cy a o S) s.heap.size) s.heap H locs → lv_has ls 3 [] → W p l e (headSpec wsX1_put ({ frames := 1, cells := 0, slots := 0, locals := 22 } : Room)).room s m ([.ref (a o), .int p1, .int p2] : List Value).toArray below meth c H locs 0 0 (MQ below (va_Qv (fun (u : SX1) => u = rs) (fun u t => mB D s.heap.size (wX1 cy a o S) (wX1 cy a o u) t) (va_A (wX1 cy a o S) s.heap.size)) ([.ref (a o), .int p1, .int p2] : List Value).toArray s 0 0 (va_A (wX1 cy a o S) s.heap.size)) (F0 m 17 ls []) := by
    intro S3 H locs ls h hP hD hS hl
    rw [hj4] at h
    exact W.vret hx hb hr (fun t ht hW => ⟨⟨S3, rfl, some_in h, by rw [ht]; exact hP, hD⟩, hS.F ht⟩) hS.2.2 dX1_put_17
  refine lv_if_eq (tgt := 17) hx hb dX1_put_7 (by decide) (fun cc => ?_) (fun cc => ?_)
  · have h := ite_p cc h
    exact Jj4 S s.heap [] ls h hP hD hS (lv_sub hl [] rfl)
  · have h := ite_n cc h
    refine lv_aload_n hx hb dX1_put_10 rfl (lv_at hl 0 rfl) ?_
    refine va_get (D := D) (ci := 1) (v := .ref (a (o + 1))) (C := RX1) (T := TX1) (N := 6) hx hb hts hinX1 hown hK hP 0 rfl rfl 5 (by decide) hf9 (fun _ h9 => h9) rfl dX1_put_11 ?_
    refine lv_iload_n hx hb dX1_put_14 rfl (lv_at hl 1 rfl) ?_
    refine lv_iload_n hx hb dX1_put_15 rfl (lv_at hl 2 rfl) ?_
    obtain ⟨g5, h⟩ := gd_some h
    refine r_ast (f := (gX1_scores S)) (f' := (upd (gX1_scores S) ((p1).toNatClampNeg) p2)) (n := 12) (ws' := (wX1 cy a o (uX1_scores S (upd (gX1_scores S) ((p1).toNatClampNeg) p2)))) hx hb hK hP hD hS 1 0 rfl rfl (gIn_in g5) rfl rfl dX1_put_16 (fun H locs hP hD hS => ?_)
    obtain ⟨S6, eS7, h⟩ := lt_elim h
    have hP : va_P D vwCl (wX1 cy a o S6) H := by rw [eS7]; exact hP
    have hD : va_D (va_A (wX1 cy a o S) s.heap.size) (wX1 cy a o S6) := by rw [eS7]; exact hD
    exact Jj4 S6 H locs ls h hP hD hS (lv_sub hl [] rfl)
set_option maxHeartbeats 4000000 in
set_option maxRecDepth 100000 in
theorem qX1_countFrom (l : Launch) (D : va_G) (cy : Nat → ClassId) (a : Nat → Nat) (o : Nat) (S : SX1) (p1 : Int32) (rs : Int32) (h : DX1_countFrom S p1 = some rs) : Met l yX1_countFrom wsX1_countFrom ({ frames := 0, cells := 0, slots := 0, locals := 0 } : Room) (va_Pc [.ref (a o), .int p1] (fun U => va_P D vwCl (wX1 cy a o S) U.heap ∧ gK D cy U)) (vp_Si (fun z => z = rs)) 0 0 (fun _ => False) := by
  refine Met.ofW (cc := cX1_countFrom) (maxL := 7) (ret := (some .int)) (by decide) rfl ?_
  intro p e s m args below meth c s₁ B hml hv
  obtain ⟨rfl, hP, hG⟩ := hv
  have hx := B.exec
  have hb := B.bytes
  have hr := B.returns
  have hts := atoms_spec (ws := wsX1_countFrom) B.pre
  have hown : s.vm.findClass RX1 = some m.cls := findClass_of_methodNamed B.named
  have hlocks := B.notSynchronized
  have hK := hG.1
  have hinX1 := (by decide +kernel : ∀ w ∈ wsX10, w ∈ wsX1_countFrom)
  have hf9 := hts (.fieldLink RX1 9 "PianoRounds$Cut" "scores" "[I") (by decide +kernel)
  have hl := lv_entry ([.ref (a o), .int p1]) (n := 7) (Nat.le_of_ble_eq_true rfl)
  rw [lg_entry_eq]
  generalize (lg_sl ([.ref (a o), .int p1]) ++ List.replicate (7 - (lg_sl ([.ref (a o), .int p1])).length) Slot.unset).toArray = ls at hl ⊢
  have hl : lv_has ls 7 [(0, .ref (a o)), (1, .int p1)] := hl
  rw [DX1_countFrom] at h
  refine lv_iconst (v := (0 : Int32)) hx hb dX1_countFrom_0 (by decide) ?_
  refine lv_istore_n (lv' := [(2, .int (0 : Int32)), (0, .ref (a o)), (1, .int p1)]) hx hb dX1_countFrom_1 rfl hl (by decide) rfl (fun ls hl => ?_)
  refine lv_aload_n hx hb dX1_countFrom_2 rfl (lv_at hl 1 rfl) ?_
  refine va_get (D := D) (ci := 1) (v := .ref (a (o + 1))) (C := RX1) (T := TX1) (N := 6) hx hb hts hinX1 hown hK hP 0 rfl rfl 5 (by decide) hf9 (fun _ h9 => h9) rfl dX1_countFrom_3 ?_
  refine lv_astore_n (lv' := [(3, .ref (a (o + 1))), (2, .int (0 : Int32)), (0, .ref (a o)), (1, .int p1)]) hx hb dX1_countFrom_6 rfl hl (by decide) rfl (fun ls hl => ?_)
  refine lv_aload_n hx hb dX1_countFrom_7 rfl (lv_at hl 0 rfl) ?_
  refine va_alen (v := (12 : Int32)) hx hb hK hP 1 0 rfl rfl rfl dX1_countFrom_8 ?_
  refine lv_istore (lv' := [(4, .int (12 : Int32)), (3, .ref (a (o + 1))), (2, .int (0 : Int32)), (0, .ref (a o)), (1, .int p1)]) hx hb dX1_countFrom_9 hl (by decide) rfl (fun ls hl => ?_)
  refine lv_iconst (v := (0 : Int32)) hx hb dX1_countFrom_11 (by decide) ?_
  refine lv_istore (lv' := [(5, .int (0 : Int32)), (4, .int (12 : Int32)), (3, .ref (a (o + 1))), (2, .int (0 : Int32)), (0, .ref (a o)), (1, .int p1)]) hx hb dX1_countFrom_12 hl (by decide) rfl (fun ls hl => ?_)
  have L11 : ∀ (c1_1 : Int32) (c4_2 : Int32) (k3 : Int32 → Option (Int32)) (hk3 : ∀ (v2_4 : Int32) (ls : Array Slot), k3 v2_4 = some rs → lv_has ls 7 [(2, .int v2_4)] → W p l e (headSpec wsX1_countFrom ({ frames := 0, cells := 0, slots := 0, locals := 0 } : Room)).room s m ([.ref (a o), .int p1] : List Value).toArray below meth c s.heap [] 0 0 (MQ below (vp_Si (fun z => z = rs)) ([.ref (a o), .int p1] : List Value).toArray s 0 0 (fun _ => False)) (F0 m 42 ls [])) (f : Nat) (v2_6 : Int32) (v5_7 : Int32) (ls : Array Slot), DX1_countFrom_L14 S c1_1 c4_2 k3 f v2_6 v5_7 = some rs → lv_has ls 7 [(1, .int c1_1), (2, .int v2_6), (3, .ref (a (o + 1))), (4, .int c4_2), (5, .int v5_7)] → W p l e (headSpec wsX1_countFrom ({ frames := 0, cells := 0, slots := 0, locals := 0 } : Room)).room s m ([.ref (a o), .int p1] : List Value).toArray below meth c s.heap [] 0 0 (MQ below (vp_Si (fun z => z = rs)) ([.ref (a o), .int p1] : List Value).toArray s 0 0 (fun _ => False)) (F0 m 14 ls []) := by
    intro c1_1 c4_2 k3 hk3 f
    induction f with
    | zero =>
      intro v2_6 v5_7 ls h hl
      rw [DX1_countFrom_L14] at h
      cases h
    | succ f ih =>
      intro v2_6 v5_7 ls h hl
      rw [DX1_countFrom_L14] at h
      refine lv_iload hx hb dX1_countFrom_14 (lv_at hl 4 rfl) ?_
      refine lv_iload hx hb dX1_countFrom_16 (lv_at hl 3 rfl) ?_
      refine lv_icmp_ge (tgt := 42) hx hb dX1_countFrom_18 (by decide) (fun cc => ?_) (fun cc => ?_)
      · have h := ite_p cc h
        exact hk3 v2_6 ls h (lv_sub hl [1] rfl)
      · have h := ite_n cc h
        refine lv_aload_n hx hb dX1_countFrom_21 rfl (lv_at hl 2 rfl) ?_
        refine lv_iload hx hb dX1_countFrom_22 (lv_at hl 4 rfl) ?_
        obtain ⟨g8, h⟩ := gd_some h
        refine r_ald (f := (gX1_scores S)) (n := 12) (v := ((gX1_scores S) ((v5_7).toNatClampNeg))) hx hb hK hP 1 0 rfl rfl (gIn_in g8) rfl dX1_countFrom_24 ?_
        refine lv_istore (lv' := [(6, .int ((gX1_scores S) ((v5_7).toNatClampNeg))), (1, .int c1_1), (2, .int v2_6), (3, .ref (a (o + 1))), (4, .int c4_2), (5, .int v5_7)]) hx hb dX1_countFrom_25 hl (by decide) rfl (fun ls hl => ?_)
        refine lv_iload hx hb dX1_countFrom_27 (lv_at hl 0 rfl) ?_
        refine lv_iload_n hx hb dX1_countFrom_29 rfl (lv_at hl 1 rfl) ?_
        obtain ⟨j10, hj10, h⟩ := jn_elim h
        have Jj10 : ∀ (v2_9 : Int32) (ls : Array Slot), j10 v2_9 = some rs → lv_has ls 7 [(1, .int c1_1), (2, .int v2_9), (3, .ref (a (o + 1))), (4, .int c4_2), (5, .int v5_7)] → W p l e (headSpec wsX1_countFrom ({ frames := 0, cells := 0, slots := 0, locals := 0 } : Room)).room s m ([.ref (a o), .int p1] : List Value).toArray below meth c s.heap [] 0 0 (MQ below (vp_Si (fun z => z = rs)) ([.ref (a o), .int p1] : List Value).toArray s 0 0 (fun _ => False)) (F0 m 36 ls []) := by
          intro v2_9 ls h hl
          rw [hj10] at h
          refine lv_iinc (v := (v5_7 + (1 : Int32))) (lv' := [(5, .int (v5_7 + (1 : Int32))), (1, .int c1_1), (2, .int v2_9), (3, .ref (a (o + 1))), (4, .int c4_2)]) hx hb dX1_countFrom_36 hl (k := 4) rfl (by rfl) (by decide) rfl (fun ls hl => ?_)
          refine lv_goto (tgt := 14) hx hb dX1_countFrom_39 (by decide) ?_
          exact ih v2_9 (v5_7 + (1 : Int32)) ls h (lv_sub hl [1, 2, 3, 4, 0] rfl)
        refine lv_icmp_lt (tgt := 36) hx hb dX1_countFrom_30 (by decide) (fun cc => ?_) (fun cc => ?_)
        · have h := ite_p cc h
          exact Jj10 v2_6 ls h (lv_sub hl [1, 2, 3, 4, 5] rfl)
        · have h := ite_n cc h
          refine lv_iinc (v := (v2_6 + (1 : Int32))) (lv' := [(2, .int (v2_6 + (1 : Int32))), (6, .int ((gX1_scores S) ((v5_7).toNatClampNeg))), (1, .int c1_1), (3, .ref (a (o + 1))), (4, .int c4_2), (5, .int v5_7)]) hx hb dX1_countFrom_33 hl (k := 2) rfl (by rfl) (by decide) rfl (fun ls hl => ?_)
          exact Jj10 (v2_6 + (1 : Int32)) ls h (lv_sub hl [2, 0, 3, 4, 5] rfl)
  refine L11 p1 (12 : Int32) _ ?_ fu (0 : Int32) (0 : Int32) ls h (lv_sub hl [5, 3, 2, 1, 0] rfl)
  intro v2_5 ls h hl
  refine lv_iload_n hx hb dX1_countFrom_42 rfl (lv_at hl 0 rfl) ?_
  exact W.iret (v := v2_5) hx hb hr (fun t ht hW => ⟨v2_5, rfl, some_in h, ht⟩) (fun q hq => nomatch hq) dX1_countFrom_43
set_option maxHeartbeats 4000000 in
set_option maxRecDepth 100000 in
theorem qX1_findLine (l : Launch) (D : va_G) (cy : Nat → ClassId) (a : Nat → Nat) (o : Nat) (S : SX1)  (rs : Int32) (h : DX1_findLine S = some rs) : Met l yX1_findLine wsX1_findLine ({ frames := 1, cells := 0, slots := 0, locals := 26 } : Room) (va_Pc [.ref (a o)] (fun U => va_P D vwCl (wX1 cy a o S) U.heap ∧ gK D cy U)) (vp_Si (fun z => z = rs)) 0 0 (fun _ => False) := by
  refine Met.ofW (cc := cX1_findLine) (maxL := 6) (ret := (some .int)) (by decide) rfl ?_
  intro p e s m args below meth c s₁ B hml hv
  obtain ⟨rfl, hP, hG⟩ := hv
  have hx := B.exec
  have hb := B.bytes
  have hr := B.returns
  have hts := atoms_spec (ws := wsX1_findLine) B.pre
  have hown : s.vm.findClass RX1 = some m.cls := findClass_of_methodNamed B.named
  have hlocks := B.notSynchronized
  have hK := hG.1
  have hinX1 := (by decide +kernel : ∀ w ∈ wsX10, w ∈ wsX1_findLine)
  have hf25 := hts (.fieldLink RX1 25 "PianoRounds$Cut" "places" "I") (by decide +kernel)
  have hf9 := hts (.fieldLink RX1 9 "PianoRounds$Cut" "scores" "[I") (by decide +kernel)
  have hl := lv_entry ([.ref (a o)]) (n := 6) (Nat.le_of_ble_eq_true rfl)
  rw [lg_entry_eq]
  generalize (lg_sl ([.ref (a o)]) ++ List.replicate (6 - (lg_sl ([.ref (a o)])).length) Slot.unset).toArray = ls at hl ⊢
  have hl : lv_has ls 6 [(0, .ref (a o))] := hl
  rw [DX1_findLine] at h
  refine lv_aload_n hx hb dX1_findLine_0 rfl (lv_at hl 0 rfl) ?_
  refine lv_iconst (v := (0 : Int32)) hx hb dX1_findLine_1 (by decide) ?_
  obtain ⟨x1, e2, h⟩ := bd_some h
  refine pcV (As := [.int (0 : Int32)]) (rest := []) (q0 := 0) (qX1_countFrom l D cy a o S (0 : Int32) x1 e2) ⟨hx, hb, hml, hown, hts⟩ (cwV 1 hts gX1_findLine_X1_countFrom rfl rfl rfl (by decide +kernel) ⟨Nat.le_of_ble_eq_true rfl, Nat.le_of_ble_eq_true rfl⟩) hG hP rfl rfl rfl hl.1 rfl (Nat.le_of_ble_eq_true rfl) dX1_findLine_2 ⟨Nat.zero_le _, Nat.zero_le _⟩ ?_
  refine lv_aload_n hx hb dX1_findLine_5 rfl (lv_at hl 0 rfl) ?_
  refine va_get (D := D) (ci := 1) (v := .int (gX1_places S)) (C := RX1) (T := TX1) (N := 6) hx hb hts hinX1 hown hK hP 0 rfl rfl 0 (by decide) hf25 (fun _ h9 => h9) rfl dX1_findLine_6 ?_
  refine lv_icmp_gt (tgt := 14) hx hb dX1_findLine_9 (by decide) (fun cc => ?_) (fun cc => ?_)
  · have h := ite_p cc h
    refine lv_iconst (v := (-1 : Int32)) hx hb dX1_findLine_14 (by decide) ?_
    refine lv_istore_n (lv' := [(1, .int (-1 : Int32)), (0, .ref (a o))]) hx hb dX1_findLine_15 rfl hl (by decide) rfl (fun ls hl => ?_)
    refine lv_aload_n hx hb dX1_findLine_16 rfl (lv_at hl 1 rfl) ?_
    refine va_get (D := D) (ci := 1) (v := .ref (a (o + 1))) (C := RX1) (T := TX1) (N := 6) hx hb hts hinX1 hown hK hP 0 rfl rfl 5 (by decide) hf9 (fun _ h9 => h9) rfl dX1_findLine_17 ?_
    refine lv_astore_n (lv' := [(2, .ref (a (o + 1))), (1, .int (-1 : Int32)), (0, .ref (a o))]) hx hb dX1_findLine_20 rfl hl (by decide) rfl (fun ls hl => ?_)
    refine lv_aload_n hx hb dX1_findLine_21 rfl (lv_at hl 0 rfl) ?_
    refine va_alen (v := (12 : Int32)) hx hb hK hP 1 0 rfl rfl rfl dX1_findLine_22 ?_
    refine lv_istore_n (lv' := [(3, .int (12 : Int32)), (2, .ref (a (o + 1))), (1, .int (-1 : Int32)), (0, .ref (a o))]) hx hb dX1_findLine_23 rfl hl (by decide) rfl (fun ls hl => ?_)
    refine lv_iconst (v := (0 : Int32)) hx hb dX1_findLine_24 (by decide) ?_
    refine lv_istore (lv' := [(4, .int (0 : Int32)), (3, .int (12 : Int32)), (2, .ref (a (o + 1))), (1, .int (-1 : Int32)), (0, .ref (a o))]) hx hb dX1_findLine_25 hl (by decide) rfl (fun ls hl => ?_)
    have L14 : ∀ (c3_3 : Int32) (k4 : Int32 → Option (Int32)) (hk4 : ∀ (v1_5 : Int32) (ls : Array Slot), k4 v1_5 = some rs → lv_has ls 6 [(1, .int v1_5)] → W p l e (headSpec wsX1_findLine ({ frames := 1, cells := 0, slots := 0, locals := 26 } : Room)).room s m ([.ref (a o)] : List Value).toArray below meth c s.heap [] 0 0 (MQ below (vp_Si (fun z => z = rs)) ([.ref (a o)] : List Value).toArray s 0 0 (fun _ => False)) (F0 m 67 ls [])) (f : Nat) (v1_7 : Int32) (v4_8 : Int32) (ls : Array Slot), DX1_findLine_L27 S c3_3 k4 f v1_7 v4_8 = some rs → lv_has ls 6 [(0, .ref (a o)), (1, .int v1_7), (2, .ref (a (o + 1))), (3, .int c3_3), (4, .int v4_8)] → W p l e (headSpec wsX1_findLine ({ frames := 1, cells := 0, slots := 0, locals := 26 } : Room)).room s m ([.ref (a o)] : List Value).toArray below meth c s.heap [] 0 0 (MQ below (vp_Si (fun z => z = rs)) ([.ref (a o)] : List Value).toArray s 0 0 (fun _ => False)) (F0 m 27 ls []) := by
      intro c3_3 k4 hk4 f
      induction f with
      | zero =>
        intro v1_7 v4_8 ls h hl
        rw [DX1_findLine_L27] at h
        cases h
      | succ f ih =>
        intro v1_7 v4_8 ls h hl
        rw [DX1_findLine_L27] at h
        refine lv_iload hx hb dX1_findLine_27 (lv_at hl 4 rfl) ?_
        refine lv_iload_n hx hb dX1_findLine_29 rfl (lv_at hl 3 rfl) ?_
        refine lv_icmp_ge (tgt := 67) hx hb dX1_findLine_30 (by decide) (fun cc => ?_) (fun cc => ?_)
        · have h := ite_p cc h
          exact hk4 v1_7 ls h (lv_sub hl [1] rfl)
        · have h := ite_n cc h
          refine lv_aload_n hx hb dX1_findLine_33 rfl (lv_at hl 2 rfl) ?_
          refine lv_iload hx hb dX1_findLine_34 (lv_at hl 4 rfl) ?_
          obtain ⟨g9, h⟩ := gd_some h
          refine r_ald (f := (gX1_scores S)) (n := 12) (v := ((gX1_scores S) ((v4_8).toNatClampNeg))) hx hb hK hP 1 0 rfl rfl (gIn_in g9) rfl dX1_findLine_36 ?_
          refine lv_istore (lv' := [(5, .int ((gX1_scores S) ((v4_8).toNatClampNeg))), (0, .ref (a o)), (1, .int v1_7), (2, .ref (a (o + 1))), (3, .int c3_3), (4, .int v4_8)]) hx hb dX1_findLine_37 hl (by decide) rfl (fun ls hl => ?_)
          refine lv_iload hx hb dX1_findLine_39 (lv_at hl 0 rfl) ?_
          refine lv_iload_n hx hb dX1_findLine_41 rfl (lv_at hl 2 rfl) ?_
          obtain ⟨j11, hj11, h⟩ := jn_elim h
          have Jj11 : ∀ (v1_10 : Int32) (ls : Array Slot), j11 v1_10 = some rs → lv_has ls 6 [(0, .ref (a o)), (1, .int v1_10), (2, .ref (a (o + 1))), (3, .int c3_3), (4, .int v4_8)] → W p l e (headSpec wsX1_findLine ({ frames := 1, cells := 0, slots := 0, locals := 26 } : Room)).room s m ([.ref (a o)] : List Value).toArray below meth c s.heap [] 0 0 (MQ below (vp_Si (fun z => z = rs)) ([.ref (a o)] : List Value).toArray s 0 0 (fun _ => False)) (F0 m 61 ls []) := by
            intro v1_10 ls h hl
            rw [hj11] at h
            refine lv_iinc (v := (v4_8 + (1 : Int32))) (lv' := [(4, .int (v4_8 + (1 : Int32))), (0, .ref (a o)), (1, .int v1_10), (2, .ref (a (o + 1))), (3, .int c3_3)]) hx hb dX1_findLine_61 hl (k := 4) rfl (by rfl) (by decide) rfl (fun ls hl => ?_)
            refine lv_goto (tgt := 27) hx hb dX1_findLine_64 (by decide) ?_
            exact ih v1_10 (v4_8 + (1 : Int32)) ls h (lv_sub hl [1, 2, 3, 4, 0] rfl)
          refine lv_icmp_le (tgt := 61) hx hb dX1_findLine_42 (by decide) (fun cc => ?_) (fun cc => ?_)
          · have h := ite_p cc h
            exact Jj11 v1_7 ls h (lv_sub hl [1, 2, 3, 4, 5] rfl)
          · have h := ite_n cc h
            refine lv_aload_n hx hb dX1_findLine_45 rfl (lv_at hl 1 rfl) ?_
            refine lv_iload hx hb dX1_findLine_46 (lv_at hl 0 rfl) ?_
            obtain ⟨x12, e13, h⟩ := bd_some h
            refine pcV (As := [.int ((gX1_scores S) ((v4_8).toNatClampNeg))]) (rest := []) (q0 := 0) (qX1_countFrom l D cy a o S ((gX1_scores S) ((v4_8).toNatClampNeg)) x12 e13) ⟨hx, hb, hml, hown, hts⟩ (cwV 1 hts gX1_findLine_X1_countFrom rfl rfl rfl (by decide +kernel) ⟨Nat.le_of_ble_eq_true rfl, Nat.le_of_ble_eq_true rfl⟩) hG hP rfl rfl rfl hl.1 rfl (Nat.le_of_ble_eq_true rfl) dX1_findLine_48 ⟨Nat.zero_le _, Nat.zero_le _⟩ ?_
            refine lv_aload_n hx hb dX1_findLine_51 rfl (lv_at hl 1 rfl) ?_
            refine va_get (D := D) (ci := 1) (v := .int (gX1_places S)) (C := RX1) (T := TX1) (N := 6) hx hb hts hinX1 hown hK hP 0 rfl rfl 0 (by decide) hf25 (fun _ h9 => h9) rfl dX1_findLine_52 ?_
            refine lv_icmp_lt (tgt := 61) hx hb dX1_findLine_55 (by decide) (fun cc => ?_) (fun cc => ?_)
            · have h := ite_p cc h
              exact Jj11 v1_7 ls h (lv_sub hl [1, 2, 3, 4, 5] rfl)
            · have h := ite_n cc h
              refine lv_iload hx hb dX1_findLine_58 (lv_at hl 0 rfl) ?_
              refine lv_istore_n (lv' := [(1, .int ((gX1_scores S) ((v4_8).toNatClampNeg))), (5, .int ((gX1_scores S) ((v4_8).toNatClampNeg))), (0, .ref (a o)), (2, .ref (a (o + 1))), (3, .int c3_3), (4, .int v4_8)]) hx hb dX1_findLine_60 rfl hl (by decide) rfl (fun ls hl => ?_)
              exact Jj11 ((gX1_scores S) ((v4_8).toNatClampNeg)) ls h (lv_sub hl [2, 0, 3, 4, 5] rfl)
    refine L14 (12 : Int32) _ ?_ fu (-1 : Int32) (0 : Int32) ls h (lv_sub hl [4, 3, 2, 1, 0] rfl)
    intro v1_6 ls h hl
    refine lv_iload_n hx hb dX1_findLine_67 rfl (lv_at hl 0 rfl) ?_
    exact W.iret (v := v1_6) hx hb hr (fun t ht hW => ⟨v1_6, rfl, some_in h, ht⟩) (fun q hq => nomatch hq) dX1_findLine_68
  · have h := ite_n cc h
    refine lv_iconst (v := (-1 : Int32)) hx hb dX1_findLine_12 (by decide) ?_
    exact W.iret (v := (-1 : Int32)) hx hb hr (fun t ht hW => ⟨(-1 : Int32), rfl, some_in h, ht⟩) (fun q hq => nomatch hq) dX1_findLine_13
set_option maxHeartbeats 4000000 in
set_option maxRecDepth 100000 in
theorem qX1_draw (l : Launch) (D : va_G) (cy : Nat → ClassId) (a : Nat → Nat) (o : Nat) (S : SX1) (p1 : Int32) (sz : Nat) (rs : SX1) (h : DX1_draw S p1 = some rs) : Met l yX1_draw wsX1_draw ({ frames := 2, cells := 0, slots := 0, locals := 51 } : Room) (mP D cy sz [.ref (a o), .int p1] (wX1 cy a o S)) (va_Qv (fun (u : SX1) => u = rs) (fun u t => mB D sz (wX1 cy a o S) (wX1 cy a o u) t) (va_A (wX1 cy a o S) sz)) 0 0 (va_A (wX1 cy a o S) sz) := by
  refine Met.ofW (cc := cX1_draw) (maxL := 6) (ret := none) (by decide) rfl ?_
  intro p e s m args below meth c s₁ B hml hv
  obtain ⟨rfl, hsz, hP, hG, hD0⟩ := hv
  have hx := B.exec
  have hb := B.bytes
  have hr := B.returns
  have hts := atoms_spec (ws := wsX1_draw) B.pre
  have hown : s.vm.findClass RX1 = some m.cls := findClass_of_methodNamed B.named
  have hlocks := B.notSynchronized
  have hK := hG.1
  subst hsz
  have hD := hD0.self (sz := s.heap.size)
  have hA : ∀ q : Nat, s.heap.size ≤ q → (va_A (wX1 cy a o S) s.heap.size) q := fun q h => Or.inr h
  have hS : va_S (va_A (wX1 cy a o S) s.heap.size) s.heap s.heap [] := va_S.rf
  have hinX1 := (by decide +kernel : ∀ w ∈ wsX10, w ∈ wsX1_draw)
  have hf25 := hts (.fieldLink RX1 25 "PianoRounds$Cut" "places" "I") (by decide +kernel)
  have hf33 := hts (.fieldLink RX1 33 "PianoRounds$Cut" "line" "I") (by decide +kernel)
  have hf36 := hts (.fieldLink RX1 36 "PianoRounds$Cut" "above" "I") (by decide +kernel)
  have hf39 := hts (.fieldLink RX1 39 "PianoRounds$Cut" "level" "I") (by decide +kernel)
  have hf42 := hts (.fieldLink RX1 42 "PianoRounds$Cut" "below" "I") (by decide +kernel)
  have hf9 := hts (.fieldLink RX1 9 "PianoRounds$Cut" "scores" "[I") (by decide +kernel)
  have hl := lv_entry ([.ref (a o), .int p1]) (n := 6) (Nat.le_of_ble_eq_true rfl)
  rw [lg_entry_eq]
  generalize (lg_sl ([.ref (a o), .int p1]) ++ List.replicate (6 - (lg_sl ([.ref (a o), .int p1])).length) Slot.unset).toArray = ls at hl ⊢
  have hl : lv_has ls 6 [(0, .ref (a o)), (1, .int p1)] := hl
  rw [DX1_draw] at h
  refine lv_aload_n hx hb dX1_draw_0 rfl (lv_at hl 0 rfl) ?_
  refine lv_iload_n hx hb dX1_draw_1 rfl (lv_at hl 1 rfl) ?_
  refine va_put (D := D) (ci := 1) (v := .int p1) (ty := .int) (C := RX1) (T := TX1) (N := 6) hx hb hts hinX1 tyX1 tyX1_ok nmX1 hown hK hP hD hS 0 rfl rfl 0 (by decide) hf25 (fun _ h9 => h9) rfl (by decide +kernel) rfl rfl (Nat.le_of_ble_eq_true rfl) dX1_draw_2 (fun H locs hP hD hS => ?_)
  have hP : va_P D vwCl (wX1 cy a o (uX1_places S p1)) H := hP
  have hD : va_D (va_A (wX1 cy a o S) s.heap.size) (wX1 cy a o (uX1_places S p1)) := hD
  obtain ⟨S1, eS2, h⟩ := lt_elim h
  have hP : va_P D vwCl (wX1 cy a o S1) H := by rw [eS2]; exact hP
  have hD : va_D (va_A (wX1 cy a o S) s.heap.size) (wX1 cy a o S1) := by rw [eS2]; exact hD
  refine lv_aload_n hx hb dX1_draw_5 rfl (lv_at hl 0 rfl) ?_
  refine lv_aload_n hx hb dX1_draw_6 rfl (lv_at hl 0 rfl) ?_
  obtain ⟨x3, e4, h⟩ := bd_some h
  refine pcV (As := []) (rest := [.ref (a o)]) (q0 := 0) (qX1_findLine l D cy a o S1  x3 e4) ⟨hx, hb, hml, hown, hts⟩ (cwV 0 hts gX1_draw_X1_findLine rfl rfl rfl (by decide +kernel) ⟨Nat.le_of_ble_eq_true rfl, Nat.le_of_ble_eq_true rfl⟩) hG hP rfl rfl rfl hl.1 rfl (Nat.le_of_ble_eq_true rfl) dX1_draw_7 ⟨Nat.zero_le _, Nat.zero_le _⟩ ?_
  refine va_put (D := D) (ci := 1) (v := .int x3) (ty := .int) (C := RX1) (T := TX1) (N := 6) hx hb hts hinX1 tyX1 tyX1_ok nmX1 hown hK hP hD hS 0 rfl rfl 1 (by decide) hf33 (fun _ h9 => h9) rfl (by decide +kernel) rfl rfl (Nat.le_of_ble_eq_true rfl) dX1_draw_10 (fun H locs hP hD hS => ?_)
  have hP : va_P D vwCl (wX1 cy a o (uX1_line S1 x3)) H := hP
  have hD : va_D (va_A (wX1 cy a o S) s.heap.size) (wX1 cy a o (uX1_line S1 x3)) := hD
  obtain ⟨S5, eS6, h⟩ := lt_elim h
  have hP : va_P D vwCl (wX1 cy a o S5) H := by rw [eS6]; exact hP
  have hD : va_D (va_A (wX1 cy a o S) s.heap.size) (wX1 cy a o S5) := by rw [eS6]; exact hD
  refine lv_aload_n hx hb dX1_draw_13 rfl (lv_at hl 0 rfl) ?_
  refine lv_iconst (v := (0 : Int32)) hx hb dX1_draw_14 (by decide) ?_
  refine va_put (D := D) (ci := 1) (v := .int (0 : Int32)) (ty := .int) (C := RX1) (T := TX1) (N := 6) hx hb hts hinX1 tyX1 tyX1_ok nmX1 hown hK hP hD hS 0 rfl rfl 2 (by decide) hf36 (fun _ h9 => h9) rfl (by decide +kernel) rfl rfl (Nat.le_of_ble_eq_true rfl) dX1_draw_15 (fun H locs hP hD hS => ?_)
  have hP : va_P D vwCl (wX1 cy a o (uX1_above S5 (0 : Int32))) H := hP
  have hD : va_D (va_A (wX1 cy a o S) s.heap.size) (wX1 cy a o (uX1_above S5 (0 : Int32))) := hD
  obtain ⟨S7, eS8, h⟩ := lt_elim h
  have hP : va_P D vwCl (wX1 cy a o S7) H := by rw [eS8]; exact hP
  have hD : va_D (va_A (wX1 cy a o S) s.heap.size) (wX1 cy a o S7) := by rw [eS8]; exact hD
  refine lv_aload_n hx hb dX1_draw_18 rfl (lv_at hl 0 rfl) ?_
  refine lv_iconst (v := (0 : Int32)) hx hb dX1_draw_19 (by decide) ?_
  refine va_put (D := D) (ci := 1) (v := .int (0 : Int32)) (ty := .int) (C := RX1) (T := TX1) (N := 6) hx hb hts hinX1 tyX1 tyX1_ok nmX1 hown hK hP hD hS 0 rfl rfl 3 (by decide) hf39 (fun _ h9 => h9) rfl (by decide +kernel) rfl rfl (Nat.le_of_ble_eq_true rfl) dX1_draw_20 (fun H locs hP hD hS => ?_)
  have hP : va_P D vwCl (wX1 cy a o (uX1_level S7 (0 : Int32))) H := hP
  have hD : va_D (va_A (wX1 cy a o S) s.heap.size) (wX1 cy a o (uX1_level S7 (0 : Int32))) := hD
  obtain ⟨S9, eS10, h⟩ := lt_elim h
  have hP : va_P D vwCl (wX1 cy a o S9) H := by rw [eS10]; exact hP
  have hD : va_D (va_A (wX1 cy a o S) s.heap.size) (wX1 cy a o S9) := by rw [eS10]; exact hD
  refine lv_aload_n hx hb dX1_draw_23 rfl (lv_at hl 0 rfl) ?_
  refine lv_iconst (v := (0 : Int32)) hx hb dX1_draw_24 (by decide) ?_
  refine va_put (D := D) (ci := 1) (v := .int (0 : Int32)) (ty := .int) (C := RX1) (T := TX1) (N := 6) hx hb hts hinX1 tyX1 tyX1_ok nmX1 hown hK hP hD hS 0 rfl rfl 4 (by decide) hf42 (fun _ h9 => h9) rfl (by decide +kernel) rfl rfl (Nat.le_of_ble_eq_true rfl) dX1_draw_25 (fun H locs hP hD hS => ?_)
  have hP : va_P D vwCl (wX1 cy a o (uX1_below S9 (0 : Int32))) H := hP
  have hD : va_D (va_A (wX1 cy a o S) s.heap.size) (wX1 cy a o (uX1_below S9 (0 : Int32))) := hD
  obtain ⟨S11, eS12, h⟩ := lt_elim h
  have hP : va_P D vwCl (wX1 cy a o S11) H := by rw [eS12]; exact hP
  have hD : va_D (va_A (wX1 cy a o S) s.heap.size) (wX1 cy a o S11) := by rw [eS12]; exact hD
  refine lv_aload_n hx hb dX1_draw_28 rfl (lv_at hl 0 rfl) ?_
  refine va_get (D := D) (ci := 1) (v := .ref (a (o + 1))) (C := RX1) (T := TX1) (N := 6) hx hb hts hinX1 hown hK hP 0 rfl rfl 5 (by decide) hf9 (fun _ h9 => h9) rfl dX1_draw_29 ?_
  refine lv_astore_n (lv' := [(2, .ref (a (o + 1))), (0, .ref (a o)), (1, .int p1)]) hx hb dX1_draw_32 rfl hl (by decide) rfl (fun ls hl => ?_)
  refine lv_aload_n hx hb dX1_draw_33 rfl (lv_at hl 0 rfl) ?_
  refine va_alen (v := (12 : Int32)) hx hb hK hP 1 0 rfl rfl rfl dX1_draw_34 ?_
  refine lv_istore_n (lv' := [(3, .int (12 : Int32)), (2, .ref (a (o + 1))), (0, .ref (a o)), (1, .int p1)]) hx hb dX1_draw_35 rfl hl (by decide) rfl (fun ls hl => ?_)
  refine lv_iconst (v := (0 : Int32)) hx hb dX1_draw_36 (by decide) ?_
  refine lv_istore (lv' := [(4, .int (0 : Int32)), (3, .int (12 : Int32)), (2, .ref (a (o + 1))), (0, .ref (a o)), (1, .int p1)]) hx hb dX1_draw_37 hl (by decide) rfl (fun ls hl => ?_)
  have L28 : ∀ (c3_13 : Int32) (k15 : SX1 → Option (SX1)) (hk15 : ∀ (S16 : SX1) (H : Heap) (locs : List Loc) (ls : Array Slot), k15 S16 = some rs → va_P D vwCl (wX1 cy a o S16) H → va_D (va_A (wX1 cy a o S) s.heap.size) (wX1 cy a o S16) → va_S (va_A (wX1 cy a o S) s.heap.size) s.heap H locs → lv_has ls 6 [] → W p l e (headSpec wsX1_draw ({ frames := 2, cells := 0, slots := 0, locals := 51 } : Room)).room s m ([.ref (a o), .int p1] : List Value).toArray below meth c H locs 0 0 (MQ below (va_Qv (fun (u : SX1) => u = rs) (fun u t => mB D s.heap.size (wX1 cy a o S) (wX1 cy a o u) t) (va_A (wX1 cy a o S) s.heap.size)) ([.ref (a o), .int p1] : List Value).toArray s 0 0 (va_A (wX1 cy a o S) s.heap.size)) (F0 m 120 ls [])) (f : Nat) (v4_18 : Int32) (S14 : SX1) (H : Heap) (locs : List Loc) (ls : Array Slot), DX1_draw_L39 c3_13 k15 f v4_18 S14 = some rs → va_P D vwCl (wX1 cy a o S14) H → va_D (va_A (wX1 cy a o S) s.heap.size) (wX1 cy a o S14) → va_S (va_A (wX1 cy a o S) s.heap.size) s.heap H locs → lv_has ls 6 [(0, .ref (a o)), (2, .ref (a (o + 1))), (3, .int c3_13), (4, .int v4_18)] → W p l e (headSpec wsX1_draw ({ frames := 2, cells := 0, slots := 0, locals := 51 } : Room)).room s m ([.ref (a o), .int p1] : List Value).toArray below meth c H locs 0 0 (MQ below (va_Qv (fun (u : SX1) => u = rs) (fun u t => mB D s.heap.size (wX1 cy a o S) (wX1 cy a o u) t) (va_A (wX1 cy a o S) s.heap.size)) ([.ref (a o), .int p1] : List Value).toArray s 0 0 (va_A (wX1 cy a o S) s.heap.size)) (F0 m 39 ls []) := by
    intro c3_13 k15 hk15 f
    induction f with
    | zero =>
      intro v4_18 S14 H locs ls h hP hD hS hl
      rw [DX1_draw_L39] at h
      cases h
    | succ f ih =>
      intro v4_18 S14 H locs ls h hP hD hS hl
      rw [DX1_draw_L39] at h
      refine lv_iload hx hb dX1_draw_39 (lv_at hl 3 rfl) ?_
      refine lv_iload_n hx hb dX1_draw_41 rfl (lv_at hl 2 rfl) ?_
      refine lv_icmp_ge (tgt := 120) hx hb dX1_draw_42 (by decide) (fun cc => ?_) (fun cc => ?_)
      · have h := ite_p cc h
        exact hk15 S14 H locs ls h hP hD hS (lv_sub hl [] rfl)
      · have h := ite_n cc h
        refine lv_aload_n hx hb dX1_draw_45 rfl (lv_at hl 1 rfl) ?_
        refine lv_iload hx hb dX1_draw_46 (lv_at hl 3 rfl) ?_
        obtain ⟨g19, h⟩ := gd_some h
        refine r_ald (f := (gX1_scores S14)) (n := 12) (v := ((gX1_scores S14) ((v4_18).toNatClampNeg))) hx hb hK hP 1 0 rfl rfl (gIn_in g19) rfl dX1_draw_48 ?_
        refine lv_istore (lv' := [(5, .int ((gX1_scores S14) ((v4_18).toNatClampNeg))), (0, .ref (a o)), (2, .ref (a (o + 1))), (3, .int c3_13), (4, .int v4_18)]) hx hb dX1_draw_49 hl (by decide) rfl (fun ls hl => ?_)
        refine lv_iload hx hb dX1_draw_51 (lv_at hl 0 rfl) ?_
        refine lv_iconst (v := (-1 : Int32)) hx hb dX1_draw_53 (by decide) ?_
        obtain ⟨j21, hj21, h⟩ := jn_elim h
        have Jj21 : ∀ (S20 : SX1) (H : Heap) (locs : List Loc) (ls : Array Slot), j21 S20 = some rs → va_P D vwCl (wX1 cy a o S20) H → va_D (va_A (wX1 cy a o S) s.heap.size) (wX1 cy a o S20) → va_S (va_A (wX1 cy a o S) s.heap.size) s.heap H locs → lv_has ls 6 [(0, .ref (a o)), (2, .ref (a (o + 1))), (3, .int c3_13), (4, .int v4_18)] → W p l e (headSpec wsX1_draw ({ frames := 2, cells := 0, slots := 0, locals := 51 } : Room)).room s m ([.ref (a o), .int p1] : List Value).toArray below meth c H locs 0 0 (MQ below (va_Qv (fun (u : SX1) => u = rs) (fun u t => mB D s.heap.size (wX1 cy a o S) (wX1 cy a o u) t) (va_A (wX1 cy a o S) s.heap.size)) ([.ref (a o), .int p1] : List Value).toArray s 0 0 (va_A (wX1 cy a o S) s.heap.size)) (F0 m 114 ls []) := by
          intro S20 H locs ls h hP hD hS hl
          rw [hj21] at h
          refine lv_iinc (v := (v4_18 + (1 : Int32))) (lv' := [(4, .int (v4_18 + (1 : Int32))), (0, .ref (a o)), (2, .ref (a (o + 1))), (3, .int c3_13)]) hx hb dX1_draw_114 hl (k := 3) rfl (by rfl) (by decide) rfl (fun ls hl => ?_)
          refine lv_goto (tgt := 39) hx hb dX1_draw_117 (by decide) ?_
          exact ih (v4_18 + (1 : Int32)) S20 H locs ls h hP hD hS (lv_sub hl [1, 2, 3, 0] rfl)
        refine lv_icmp_ne (tgt := 60) hx hb dX1_draw_54 (by decide) (fun cc => ?_) (fun cc => ?_)
        · have h := ite_n cc h
          refine lv_iload hx hb dX1_draw_60 (lv_at hl 0 rfl) ?_
          refine lv_aload_n hx hb dX1_draw_62 rfl (lv_at hl 1 rfl) ?_
          refine va_get (D := D) (ci := 1) (v := .int (gX1_line S14)) (C := RX1) (T := TX1) (N := 6) hx hb hts hinX1 hown hK hP 0 rfl rfl 1 (by decide) hf33 (fun _ h9 => h9) rfl dX1_draw_63 ?_
          refine lv_icmp_le (tgt := 82) hx hb dX1_draw_66 (by decide) (fun cc => ?_) (fun cc => ?_)
          · have h := ite_p cc h
            refine lv_iload hx hb dX1_draw_82 (lv_at hl 0 rfl) ?_
            refine lv_aload_n hx hb dX1_draw_84 rfl (lv_at hl 1 rfl) ?_
            refine va_get (D := D) (ci := 1) (v := .int (gX1_line S14)) (C := RX1) (T := TX1) (N := 6) hx hb hts hinX1 hown hK hP 0 rfl rfl 1 (by decide) hf33 (fun _ h9 => h9) rfl dX1_draw_85 ?_
            refine lv_icmp_ne (tgt := 104) hx hb dX1_draw_88 (by decide) (fun cc => ?_) (fun cc => ?_)
            · have h := ite_n cc h
              refine lv_aload_n hx hb dX1_draw_104 rfl (lv_at hl 1 rfl) ?_
              refine lv_dup hx hb dX1_draw_105 rfl ?_
              refine va_get (D := D) (ci := 1) (v := .int (gX1_below S14)) (C := RX1) (T := TX1) (N := 6) hx hb hts hinX1 hown hK hP 0 rfl rfl 4 (by decide) hf42 (fun _ h9 => h9) rfl dX1_draw_106 ?_
              refine lv_iconst (v := (1 : Int32)) hx hb dX1_draw_109 (by decide) ?_
              refine lv_iadd hx hb dX1_draw_110 ?_
              refine va_put (D := D) (ci := 1) (v := .int ((gX1_below S14) + (1 : Int32))) (ty := .int) (C := RX1) (T := TX1) (N := 6) hx hb hts hinX1 tyX1 tyX1_ok nmX1 hown hK hP hD hS 0 rfl rfl 4 (by decide) hf42 (fun _ h9 => h9) rfl (by decide +kernel) rfl rfl (Nat.le_of_ble_eq_true rfl) dX1_draw_111 (fun H locs hP hD hS => ?_)
              have hP : va_P D vwCl (wX1 cy a o (uX1_below S14 ((gX1_below S14) + (1 : Int32)))) H := hP
              have hD : va_D (va_A (wX1 cy a o S) s.heap.size) (wX1 cy a o (uX1_below S14 ((gX1_below S14) + (1 : Int32)))) := hD
              obtain ⟨S22, eS23, h⟩ := lt_elim h
              have hP : va_P D vwCl (wX1 cy a o S22) H := by rw [eS23]; exact hP
              have hD : va_D (va_A (wX1 cy a o S) s.heap.size) (wX1 cy a o S22) := by rw [eS23]; exact hD
              exact Jj21 S22 H locs ls h hP hD hS (lv_sub hl [1, 2, 3, 4] rfl)
            · have h := ite_p cc h
              refine lv_aload_n hx hb dX1_draw_91 rfl (lv_at hl 1 rfl) ?_
              refine lv_dup hx hb dX1_draw_92 rfl ?_
              refine va_get (D := D) (ci := 1) (v := .int (gX1_level S14)) (C := RX1) (T := TX1) (N := 6) hx hb hts hinX1 hown hK hP 0 rfl rfl 3 (by decide) hf39 (fun _ h9 => h9) rfl dX1_draw_93 ?_
              refine lv_iconst (v := (1 : Int32)) hx hb dX1_draw_96 (by decide) ?_
              refine lv_iadd hx hb dX1_draw_97 ?_
              refine va_put (D := D) (ci := 1) (v := .int ((gX1_level S14) + (1 : Int32))) (ty := .int) (C := RX1) (T := TX1) (N := 6) hx hb hts hinX1 tyX1 tyX1_ok nmX1 hown hK hP hD hS 0 rfl rfl 3 (by decide) hf39 (fun _ h9 => h9) rfl (by decide +kernel) rfl rfl (Nat.le_of_ble_eq_true rfl) dX1_draw_98 (fun H locs hP hD hS => ?_)
              have hP : va_P D vwCl (wX1 cy a o (uX1_level S14 ((gX1_level S14) + (1 : Int32)))) H := hP
              have hD : va_D (va_A (wX1 cy a o S) s.heap.size) (wX1 cy a o (uX1_level S14 ((gX1_level S14) + (1 : Int32)))) := hD
              obtain ⟨S24, eS25, h⟩ := lt_elim h
              have hP : va_P D vwCl (wX1 cy a o S24) H := by rw [eS25]; exact hP
              have hD : va_D (va_A (wX1 cy a o S) s.heap.size) (wX1 cy a o S24) := by rw [eS25]; exact hD
              refine lv_goto (tgt := 114) hx hb dX1_draw_101 (by decide) ?_
              exact Jj21 S24 H locs ls h hP hD hS (lv_sub hl [1, 2, 3, 4] rfl)
          · have h := ite_n cc h
            refine lv_aload_n hx hb dX1_draw_69 rfl (lv_at hl 1 rfl) ?_
            refine lv_dup hx hb dX1_draw_70 rfl ?_
            refine va_get (D := D) (ci := 1) (v := .int (gX1_above S14)) (C := RX1) (T := TX1) (N := 6) hx hb hts hinX1 hown hK hP 0 rfl rfl 2 (by decide) hf36 (fun _ h9 => h9) rfl dX1_draw_71 ?_
            refine lv_iconst (v := (1 : Int32)) hx hb dX1_draw_74 (by decide) ?_
            refine lv_iadd hx hb dX1_draw_75 ?_
            refine va_put (D := D) (ci := 1) (v := .int ((gX1_above S14) + (1 : Int32))) (ty := .int) (C := RX1) (T := TX1) (N := 6) hx hb hts hinX1 tyX1 tyX1_ok nmX1 hown hK hP hD hS 0 rfl rfl 2 (by decide) hf36 (fun _ h9 => h9) rfl (by decide +kernel) rfl rfl (Nat.le_of_ble_eq_true rfl) dX1_draw_76 (fun H locs hP hD hS => ?_)
            have hP : va_P D vwCl (wX1 cy a o (uX1_above S14 ((gX1_above S14) + (1 : Int32)))) H := hP
            have hD : va_D (va_A (wX1 cy a o S) s.heap.size) (wX1 cy a o (uX1_above S14 ((gX1_above S14) + (1 : Int32)))) := hD
            obtain ⟨S26, eS27, h⟩ := lt_elim h
            have hP : va_P D vwCl (wX1 cy a o S26) H := by rw [eS27]; exact hP
            have hD : va_D (va_A (wX1 cy a o S) s.heap.size) (wX1 cy a o S26) := by rw [eS27]; exact hD
            refine lv_goto (tgt := 114) hx hb dX1_draw_79 (by decide) ?_
            exact Jj21 S26 H locs ls h hP hD hS (lv_sub hl [1, 2, 3, 4] rfl)
        · have h := ite_p cc h
          refine lv_goto (tgt := 114) hx hb dX1_draw_57 (by decide) ?_
          exact Jj21 S14 H locs ls h hP hD hS (lv_sub hl [1, 2, 3, 4] rfl)
  refine L28 (12 : Int32) _ ?_ fu (0 : Int32) S11 H locs ls h hP hD hS (lv_sub hl [3, 2, 1, 0] rfl)
  intro S17 H locs ls h hP hD hS hl
  exact W.vret hx hb hr (fun t ht hW => ⟨⟨S17, rfl, some_in h, by rw [ht]; exact hP, hD⟩, hS.F ht⟩) hS.2.2 dX1_draw_120
