set_option maxHeartbeats 8000000 in
set_option maxRecDepth 100000 in
theorem qX11_init (l : Launch) (D : va_G) (cy : Nat → ClassId) (tt : Nat → Nat) (o h0 : Nat) (sz : Nat) : Met l yX11_init wsX11_init ({ frames := 6, cells := 271, slots := 3734, locals := 163 } : Room) (rP D cy tt sz [.ref h0] [(h0, .inr (11, [.null, .null, .null]))]) (va_Qv (fun (u : Nat → Nat) => u o = h0) (fun u t => mB D sz [(h0, .inr (11, [.null, .null, .null]))] (wX11 cy u o to0) t) (va_A [(h0, .inr (11, [.null, .null, .null]))] sz)) 271 3734 (va_A [(h0, .inr (11, [.null, .null, .null]))] sz) := by
  refine Met.ofW (cc := cX11_init) (maxL := 1) (ret := none) (by decide) rfl ?_
  intro p e s m args below meth c s₁ B hml hv
  obtain ⟨rfl, hsz, hP, hG, hD0, hO, hT⟩ := hv
  have hx := B.exec
  have hb := B.bytes
  have hr := B.returns
  have hts := atoms_spec (ws := wsX11_init) B.pre
  have hown : s.vm.findClass RX11 = some m.cls := findClass_of_methodNamed B.named
  have hlocks := B.notSynchronized
  have hin : meth.name = "<init>" := (name_of_methodNamed B.named B.method).1
  have hK := hG.1
  subst hsz
  have hD := hD0.self (sz := s.heap.size)
  generalize hAe : va_A [(h0, .inr (11, [.null, .null, .null]))] s.heap.size = A at hD hT ⊢
  have hA : ∀ q : Nat, s.heap.size ≤ q → A q := fun q h => by rw [← hAe]; exact Or.inr h
  have hS : va_S A s.heap s.heap [] := va_S.rf
  have hP : va_P D vwCl [(h0, .inr (11, [.null, .null, .null]))] s.heap := hP
  have hl := lv_entry ([.ref h0]) (n := 1) (Nat.le_of_ble_eq_true rfl)
  rw [lg_entry_eq]
  generalize (lg_sl ([.ref h0]) ++ List.replicate (1 - (lg_sl ([.ref h0])).length) Slot.unset).toArray = ls at hl ⊢
  have hl : lv_has ls 1 [(0, .ref h0)] := hl
  refine lv_aload_n hx hb dX11_init_0 rfl (lv_at hl 0 rfl) ?_
  refine W.objInit hx hb hown (hts (.methodLink RX11 1 objectInit) (by decide +kernel)) (hts (.instanceMethod objectInit) (by decide +kernel)) (hts (.code objectInit ⟨#[0xb1]⟩ 1 none) (by decide +kernel)) rfl (by rw [hml]; exact hl.1) rfl dX11_init_1 (Nat.le_of_ble_eq_true rfl) (Nat.le_of_ble_eq_true rfl) ?_
  refine W.eq (g2 := F0 m 4 ls []) rfl ?_
  refine lv_aload_n hx hb dX11_init_4 rfl (lv_at hl 0 rfl) ?_
  refine va_new (ci := 0) (fs := [.int 0, .int 0, .int 0, .int 0, .null, .null, .null, .null, .null, .null, .null, .null, .null, .null]) (C := RX0) (T := TX0) (N := 14) hx hb hts (by decide +kernel) tyX0 tyX0_ok hown (hts (.classLink RX11 7 RX0) (by decide +kernel)) (hts (.instantiable RX0 14) (by decide +kernel)) (hts (.initialized RX0) (by decide +kernel)) hK hP hD hS hA rfl (fun j hj => by rcases (show j = 0 ∨ j = 1 ∨ j = 2 ∨ j = 3 ∨ j = 4 ∨ j = 5 ∨ j = 6 ∨ j = 7 ∨ j = 8 ∨ j = 9 ∨ j = 10 ∨ j = 11 ∨ j = 12 ∨ j = 13 by omega) with rfl | rfl | rfl | rfl | rfl | rfl | rfl | rfl | rfl | rfl | rfl | rfl | rfl | rfl <;> rfl) (Nat.le_of_ble_eq_true rfl) (Nat.le_of_ble_eq_true rfl) dX11_init_5 (fun q0 H hP hD hS => ?_)
  refine lv_dup hx hb dX11_init_8 rfl ?_
  refine smR (oc := o + 1) (wf := fun u => wX0 cy u (o + 1) co0) (mc := 52) (ms := 721) (fun hp => va_runI (As := []) (rest := [.ref q0, .ref h0]) ⟨hx, hb, hml, hown, hts⟩ (qX0_init l D cy tt (o + 1) q0 H.size) (cwI 0 hts gX11_init_X0_init rfl rfl rfl (hts (.initialized RX0) (by decide +kernel)) (hts (.methodLink RX11 9 yX0_init) (by decide +kernel)) (hts (.instanceMethod yX0_init) (by decide +kernel)) rfl (by decide +kernel) ⟨Nat.le_of_ble_eq_true rfl, Nat.le_of_ble_eq_true rfl⟩) hp rfl rfl hl.1 rfl (lv_room (Nat.le_of_ble_eq_true rfl)) dX11_init_9 ⟨Nat.le_of_ble_eq_true rfl, Nat.le_of_ble_eq_true rfl⟩) hG hO hT hP hD hS hA (fun u0 H locs eu0 hP hD hS => ?_)
  have hP : va_P D vwCl ([(h0, .inr (11, [.null, .null, .null]))] ++ (wX0 cy u0 (o + 1) co0)) H := hP
  have hD : va_D A ([(h0, .inr (11, [.null, .null, .null]))] ++ (wX0 cy u0 (o + 1) co0)) := hD
  obtain ⟨W1, hW1⟩ : ∃ W : va_W, W = wX0 cy u0 (o + 1) co0 := ⟨_, rfl⟩
  rw [← hW1] at hP hD
  refine va_putF (D := D) (ci := 11) (v := .ref q0) (ty := .object "PianoRounds$Competition") (C := RX11) (T := TX11) (N := 3) hx hb hts (by decide +kernel) tyX11 tyX11_ok nmX11 hown hK hP hD hS 0 rfl rfl 0 (by decide) (hts (.fieldLink RX11 10 "PianoRounds" "now" "LPianoRounds$Competition;") (by decide +kernel)) (fun _ h9 => h9) rfl hin rfl (by decide +kernel) rfl rfl (Nat.le_of_ble_eq_true rfl) dX11_init_12 (fun H locs hP hD hS => ?_)
  have hP : va_P D vwCl ([(h0, .inr (11, [.ref q0, .null, .null]))] ++ W1) H := hP
  have hD : va_D A ([(h0, .inr (11, [.ref q0, .null, .null]))] ++ W1) := hD
  refine lv_aload_n hx hb dX11_init_15 rfl (lv_at hl 0 rfl) ?_
  refine va_new (ci := 5) (fs := [.int 0, .null]) (C := RX5) (T := TX5) (N := 2) hx hb hts (by decide +kernel) tyX5 tyX5_ok hown (hts (.classLink RX11 16 RX5) (by decide +kernel)) (hts (.instantiable RX5 2) (by decide +kernel)) (hts (.initialized RX5) (by decide +kernel)) hK hP hD hS hA rfl (fun j hj => by rcases (show j = 0 ∨ j = 1 by omega) with rfl | rfl <;> rfl) (Nat.le_of_ble_eq_true rfl) (Nat.le_of_ble_eq_true rfl) dX11_init_16 (fun q1 H hP hD hS => ?_)
  refine lv_dup hx hb dX11_init_19 rfl ?_
  refine smR (oc := o + 54) (wf := fun u => wX5 cy u (o + 54) re0) (mc := 213) (ms := 2944) (fun hp => va_runI (As := []) (rest := [.ref q1, .ref h0]) ⟨hx, hb, hml, hown, hts⟩ (qX5_init l D cy tt (o + 54) q1 H.size) (cwI 0 hts gX11_init_X5_init rfl rfl rfl (hts (.initialized RX5) (by decide +kernel)) (hts (.methodLink RX11 18 yX5_init) (by decide +kernel)) (hts (.instanceMethod yX5_init) (by decide +kernel)) rfl (by decide +kernel) ⟨Nat.le_of_ble_eq_true rfl, Nat.le_of_ble_eq_true rfl⟩) hp rfl rfl hl.1 rfl (lv_room (Nat.le_of_ble_eq_true rfl)) dX11_init_20 ⟨Nat.le_of_ble_eq_true rfl, Nat.le_of_ble_eq_true rfl⟩) hG hO hT hP hD hS hA (fun u1 H locs eu1 hP hD hS => ?_)
  have hP : va_P D vwCl ([(h0, .inr (11, [.ref q0, .null, .null]))] ++ (W1 ++ wX5 cy u1 (o + 54) re0)) H := hP
  have hD : va_D A ([(h0, .inr (11, [.ref q0, .null, .null]))] ++ (W1 ++ wX5 cy u1 (o + 54) re0)) := hD
  obtain ⟨W2, hW2⟩ : ∃ W : va_W, W = W1 ++ wX5 cy u1 (o + 54) re0 := ⟨_, rfl⟩
  rw [← hW2] at hP hD
  refine va_putF (D := D) (ci := 11) (v := .ref q1) (ty := .object "PianoRounds$Records") (C := RX11) (T := TX11) (N := 3) hx hb hts (by decide +kernel) tyX11 tyX11_ok nmX11 hown hK hP hD hS 0 rfl rfl 1 (by decide) (hts (.fieldLink RX11 19 "PianoRounds" "records" "LPianoRounds$Records;") (by decide +kernel)) (fun _ h9 => h9) rfl hin rfl (by decide +kernel) rfl rfl (Nat.le_of_ble_eq_true rfl) dX11_init_23 (fun H locs hP hD hS => ?_)
  have hP : va_P D vwCl ([(h0, .inr (11, [.ref q0, .ref q1, .null]))] ++ W2) H := hP
  have hD : va_D A ([(h0, .inr (11, [.ref q0, .ref q1, .null]))] ++ W2) := hD
  refine lv_aload_n hx hb dX11_init_26 rfl (lv_at hl 0 rfl) ?_
  refine va_new (ci := 8) (fs := [.int 0, .null, .int 0, .null, .null]) (C := RX8) (T := TX8) (N := 5) hx hb hts (by decide +kernel) tyX8 tyX8_ok hown (hts (.classLink RX11 23 RX8) (by decide +kernel)) (hts (.instantiable RX8 5) (by decide +kernel)) (hts (.initialized RX8) (by decide +kernel)) hK hP hD hS hA rfl (fun j hj => by rcases (show j = 0 ∨ j = 1 ∨ j = 2 ∨ j = 3 ∨ j = 4 by omega) with rfl | rfl | rfl | rfl | rfl <;> rfl) (Nat.le_of_ble_eq_true rfl) (Nat.le_of_ble_eq_true rfl) dX11_init_27 (fun q2 H hP hD hS => ?_)
  refine lv_dup hx hb dX11_init_30 rfl ?_
  refine smM (oc := o + 268) (wf := fun u => wX8 cy u (o + 268) ((0, (fun _ => 0), 0, (fun _ => 0), fun _ => 0) : SX8)) (mc := 3) (ms := 48) (fun hp => va_runIN (As := []) (rest := [.ref q2, .ref h0]) ⟨hx, hb, hml, hown, hts⟩ (qX8_init l D cy (o + 268) q2 H.size) ⟨va_cnB (y := yX8_init) 0 hts gX11_init_X8_init_n25 rfl rfl rfl (hG.2.2.1 (.methodLinkNest "PianoRounds" 25 ⟨"PianoRounds$Text", "<init>", "()V"⟩ "PianoRounds") (by decide +kernel)) (hts (.initialized RX8) (by decide +kernel)) (by decide +kernel) ⟨Nat.le_of_ble_eq_true rfl, Nat.le_of_ble_eq_true rfl⟩, rfl, hts (.instanceMethod yX8_init) (by decide +kernel)⟩ hp rfl rfl hl.1 rfl (lv_room (Nat.le_of_ble_eq_true rfl)) dX11_init_31 ⟨Nat.le_of_ble_eq_true rfl, Nat.le_of_ble_eq_true rfl⟩) hG hP hD hS hA (fun u2 H locs eu2 hP hD hS => ?_)
  have hP : va_P D vwCl ([(h0, .inr (11, [.ref q0, .ref q1, .null]))] ++ (W2 ++ wX8 cy u2 (o + 268) ((0, (fun _ => 0), 0, (fun _ => 0), fun _ => 0) : SX8))) H := hP
  have hD : va_D A ([(h0, .inr (11, [.ref q0, .ref q1, .null]))] ++ (W2 ++ wX8 cy u2 (o + 268) ((0, (fun _ => 0), 0, (fun _ => 0), fun _ => 0) : SX8))) := hD
  obtain ⟨W3, hW3⟩ : ∃ W : va_W, W = W2 ++ wX8 cy u2 (o + 268) ((0, (fun _ => 0), 0, (fun _ => 0), fun _ => 0) : SX8) := ⟨_, rfl⟩
  rw [← hW3] at hP hD
  refine va_putF (D := D) (ci := 11) (v := .ref q2) (ty := .object "PianoRounds$Text") (C := RX11) (T := TX11) (N := 3) hx hb hts (by decide +kernel) tyX11 tyX11_ok nmX11 hown hK hP hD hS 0 rfl rfl 2 (by decide) (hts (.fieldLink RX11 26 "PianoRounds" "text" "LPianoRounds$Text;") (by decide +kernel)) (fun _ h9 => h9) rfl hin rfl (by decide +kernel) rfl rfl (Nat.le_of_ble_eq_true rfl) dX11_init_34 (fun H locs hP hD hS => ?_)
  have hP : va_P D vwCl ([(h0, .inr (11, [.ref q0, .ref q1, .ref q2]))] ++ W3) H := hP
  have hD : va_D A ([(h0, .inr (11, [.ref q0, .ref q1, .ref q2]))] ++ W3) := hD
  obtain ⟨u, hu⟩ : ∃ u : Nat → Nat, u = fun k => if k = o then h0 else if k < o + 54 then u0 k else if k < o + 268 then u1 k else u2 k := ⟨_, rfl⟩
  have eu : u o = h0 := by rw [hu]; exact if_pos rfl
  have a0 : ∀ k : Nat, o + 1 ≤ k → k < o + 54 → u k = u0 k := fun k h1 h2 => by rw [hu]; show (if k = o then h0 else if k < o + 54 then u0 k else if k < o + 268 then u1 k else u2 k) = u0 k; rw [if_neg (show ¬ k = o by omega), if_pos h2]
  have a1 : ∀ k : Nat, o + 54 ≤ k → k < o + 268 → u k = u1 k := fun k h1 h2 => by rw [hu]; show (if k = o then h0 else if k < o + 54 then u0 k else if k < o + 268 then u1 k else u2 k) = u1 k; rw [if_neg (show ¬ k = o by omega), if_neg (by omega), if_pos h2]
  have a2 : ∀ k : Nat, o + 268 ≤ k → u k = u2 k := fun k h1 => by rw [hu]; show (if k = o then h0 else if k < o + 54 then u0 k else if k < o + 268 then u1 k else u2 k) = u2 k; rw [if_neg (show ¬ k = o by omega), if_neg (by omega), if_neg (by omega)]
  have b0 : wX0 cy u0 (o + 1) co0 = wX0 cy u (o + 1) co0 := wX0_eq fun k h1 h2 => (a0 k (by omega) (by omega)).symm
  have b1 : wX5 cy u1 (o + 54) re0 = wX5 cy u (o + 54) re0 := wX5_eq (fun i hi => hi) fun k h1 h2 => (a1 k (by omega) (by omega)).symm
  have b2 : wX8 cy u2 (o + 268) ((0, (fun _ => 0), 0, (fun _ => 0), fun _ => 0) : SX8) = wX8 cy u (o + 268) ((0, (fun _ => 0), 0, (fun _ => 0), fun _ => 0) : SX8) := wX8_eq fun k h1 h2 => (a2 k (by omega)).symm
  have c0 : q0 = u (o + 1) := ((a0 _ (by omega) (by omega)).trans eu0).symm
  have c1 : q1 = u (o + 54) := ((a1 _ (by omega) (by omega)).trans eu1).symm
  have c2 : q2 = u (o + 268) := ((a2 _ (by omega)).trans eu2).symm
  have ew : [(h0, .inr (11, [.ref q0, .ref q1, .ref q2]))] ++ W3 = wX11 cy u o to0 := by
    rw [hW3, hW2, hW1, b0, b1, b2, c0, c1, c2, ← eu]
    unfold wX11 hX11
    simp only [List.append_assoc]
    rfl
  rw [ew] at hP hD
  refine W.widen (k := 271) (n := 3734) (by decide) (by decide) ?_
  exact W.vret hx hb hr (fun t ht hW => ⟨⟨u, rfl, eu, by rw [ht]; exact hP, by rw [hAe]; exact hD⟩, hS.F ht⟩) hS.2.2 dX11_init_37
