theorem qX4_init (l : Launch) (D : va_G) (cy : Nat → ClassId) (o h0 : Nat) (sz : Nat) : Met l yX4_init wsX4_init ({ frames := 1, cells := 1, slots := 192, locals := 23 } : Room) (mP D cy sz [.ref h0] [(h0, .inr (4, [.null]))]) (va_Qv (fun (u : Nat → Nat) => u o = h0) (fun u t => mB D sz [(h0, .inr (4, [.null]))] (wX4 cy u o ((fun _ => -1) : SX4)) t) (va_A [(h0, .inr (4, [.null]))] sz)) 1 192 (va_A [(h0, .inr (4, [.null]))] sz) := by
  refine Met.ofW (cc := cX4_init) (maxL := 1) (ret := none) (by decide) rfl ?_
  intro p e s m args below meth c s₁ B hml hv
  obtain ⟨rfl, hsz, hP, hG, hD0⟩ := hv
  have hx := B.exec
  have hb := B.bytes
  have hr := B.returns
  have hts := atoms_spec (ws := wsX4_init) B.pre
  have hown : s.vm.findClass RX4 = some m.cls := findClass_of_methodNamed B.named
  have hlocks := B.notSynchronized
  have hin : meth.name = "<init>" := (name_of_methodNamed B.named B.method).1
  have hK := hG.1
  subst hsz
  have hD := hD0.self (sz := s.heap.size)
  generalize hAe : va_A [(h0, .inr (4, [.null]))] s.heap.size = A at hD ⊢
  have hA : ∀ q : Nat, s.heap.size ≤ q → A q := fun q h => by rw [← hAe]; exact Or.inr h
  have hS : va_S A s.heap s.heap [] := va_S.rf
  have hP : va_P D vwCl [(h0, .inr (4, [.null]))] s.heap := hP
  have hl := lv_entry ([.ref h0]) (n := 1) (Nat.le_of_ble_eq_true rfl)
  rw [lg_entry_eq]
  generalize (lg_sl ([.ref h0]) ++ List.replicate (1 - (lg_sl ([.ref h0])).length) Slot.unset).toArray = ls at hl ⊢
  have hl : lv_has ls 1 [(0, .ref h0)] := hl
  refine lv_aload_n hx hb dX4_init_0 rfl (lv_at hl 0 rfl) ?_
  refine W.objInit hx hb hown (hts (.methodLink RX4 3 objectInit) (by decide +kernel)) (hts (.instanceMethod objectInit) (by decide +kernel)) (hts (.code objectInit ⟨#[0xb1]⟩ 1 none) (by decide +kernel)) rfl (by rw [hml]; exact hl.1) rfl dX4_init_1 (Nat.le_of_ble_eq_true rfl) (Nat.le_of_ble_eq_true rfl) ?_
  refine W.eq (g2 := F0 m 4 ls []) rfl ?_
  refine lv_aload_n hx hb dX4_init_4 rfl (lv_at hl 0 rfl) ?_
  refine lv_sipush (v := (192 : Int32)) hx hb dX4_init_5 (by decide) ?_
  refine va_newi (N' := 192) hx hb (hts (.arrayClass .int) (by decide +kernel)) hK hP hD hS hA (by decide) (by decide) (by decide) (Nat.le_of_ble_eq_true rfl) (Nat.le_of_ble_eq_true rfl) dX4_init_8 (fun q8 H hP hD hS => ?_)
  have hP : va_P D vwCl [(h0, .inr (4, [.null])), (q8, .inl (cy 0, 192, .inl (fun _ => 0)))] H := hP
  have hD : va_D A [(h0, .inr (4, [.null])), (q8, .inl (cy 0, 192, .inl (fun _ => 0)))] := hD
  refine va_putF (D := D) (ci := 4) (v := .ref q8) (ty := .array .int) (C := RX4) (T := TX4) (N := 1) hx hb hts (by decide +kernel) tyX4 tyX4_ok nmX4 hown hK hP hD hS 0 rfl rfl 0 (by decide) (hts (.fieldLink RX4 9 "PianoRounds$Programs" "places" "[I") (by decide +kernel)) (fun _ h9 => h9) rfl hin rfl (by decide +kernel) rfl rfl (Nat.le_of_ble_eq_true rfl) dX4_init_10 (fun H locs hP hD hS => ?_)
  have hP : va_P D vwCl [(h0, .inr (4, [.ref q8])), (q8, .inl (cy 0, 192, .inl (fun _ => 0)))] H := hP
  have hD : va_D A [(h0, .inr (4, [.ref q8])), (q8, .inl (cy 0, 192, .inl (fun _ => 0)))] := hD
  refine lv_aload_n hx hb dX4_init_13 rfl (lv_at hl 0 rfl) ?_
  refine va_get (D := D) (ci := 4) (v := .ref q8) (C := RX4) (T := TX4) (N := 1) hx hb hts (by decide +kernel) hown hK hP 0 rfl rfl 0 (by decide) (hts (.fieldLink RX4 9 "PianoRounds$Programs" "places" "[I") (by decide +kernel)) (fun _ h9 => h9) rfl dX4_init_14 ?_
  refine lv_iconst (v := ((-1) : Int32)) hx hb dX4_init_17 (by decide) ?_
  refine mcC1 (b := q8) (e0 := .inl (cy 0, 192, .inl (fun _ => 0))) (e1 := .inl (cy 0, 192, .inl (fun _ => (-1 : Int32)))) (ws' := [(h0, .inr (4, [.ref q8])), (q8, .inl (cy 0, 192, .inl (fun _ => (-1 : Int32))))]) (fun hp => va_runS (As := [.ref q8, .int (-1 : Int32)]) (rest := []) ⟨hx, hb, hml, hown, hts⟩ (qJ7_fill l D cy q8 192 (by decide) (fun _ => 0) (-1 : Int32) (H).size) (va_cwS 2 hts gX4_init_J7_fill_53178 rfl rfl rfl (by decide +kernel) ⟨Nat.le_of_ble_eq_true rfl, Nat.le_of_ble_eq_true rfl⟩) hp rfl rfl hl.1 rfl (lv_room (Nat.le_of_ble_eq_true rfl)) dX4_init_18 ⟨Nat.le_of_ble_eq_true rfl, Nat.le_of_ble_eq_true rfl⟩) hG hP hD hS hA 1 rfl rfl (fun H locs hP hD hS => ?_)
  have ew : wX4 cy (fun k => if k = o then h0 else q8) o ((fun _ => -1) : SX4) = [(h0, .inr (4, [.ref q8])), (q8, .inl (cy 0, 192, .inl (fun _ => (-1 : Int32))))] := by
    unfold wX4 hX4 aW
    simp only [if_true, List.cons_append, List.nil_append, show ∀ x y : Nat, (if o + 1 = o then x else y) = y from fun x y => if_neg (by omega)]
    rfl
  refine W.widen (k := 1) (n := 192) (by decide) (by decide) ?_
  exact W.vret hx hb hr (fun t ht hW => ⟨⟨fun k => if k = o then h0 else q8, rfl, if_pos rfl, by rw [ht, ew]; exact hP, by rw [ew, hAe]; exact hD⟩, hS.F ht⟩) hS.2.2 dX4_init_21
theorem qX7_init (l : Launch) (D : va_G) (cy : Nat → ClassId) (o h0 : Nat) (sz : Nat) : Met l yX7_init wsX7_init ({ frames := 2, cells := 2, slots := 24, locals := 43 } : Room) (mP D cy sz [.ref h0] [(h0, .inr (7, [.int 0, .int 0, .long 0, .null, .null]))]) (va_Qv (fun (u : Nat → Nat) => u o = h0) (fun u t => mB D sz [(h0, .inr (7, [.int 0, .int 0, .long 0, .null, .null]))] (wX7 cy u o ((0, 0, 0, (fun _ => 0), fun _ => -1) : SX7)) t) (va_A [(h0, .inr (7, [.int 0, .int 0, .long 0, .null, .null]))] sz)) 2 24 (va_A [(h0, .inr (7, [.int 0, .int 0, .long 0, .null, .null]))] sz) := by
  refine Met.ofW (cc := cX7_init) (maxL := 1) (ret := none) (by decide) rfl ?_
  intro p e s m args below meth c s₁ B hml hv
  obtain ⟨rfl, hsz, hP, hG, hD0⟩ := hv
  have hx := B.exec
  have hb := B.bytes
  have hr := B.returns
  have hts := atoms_spec (ws := wsX7_init) B.pre
  have hown : s.vm.findClass RX7 = some m.cls := findClass_of_methodNamed B.named
  have hlocks := B.notSynchronized
  have hin : meth.name = "<init>" := (name_of_methodNamed B.named B.method).1
  have hK := hG.1
  subst hsz
  have hD := hD0.self (sz := s.heap.size)
  generalize hAe : va_A [(h0, .inr (7, [.int 0, .int 0, .long 0, .null, .null]))] s.heap.size = A at hD ⊢
  have hA : ∀ q : Nat, s.heap.size ≤ q → A q := fun q h => by rw [← hAe]; exact Or.inr h
  have hS : va_S A s.heap s.heap [] := va_S.rf
  have hP : va_P D vwCl [(h0, .inr (7, [.int 0, .int 0, .long 0, .null, .null]))] s.heap := hP
  have hl := lv_entry ([.ref h0]) (n := 1) (Nat.le_of_ble_eq_true rfl)
  rw [lg_entry_eq]
  generalize (lg_sl ([.ref h0]) ++ List.replicate (1 - (lg_sl ([.ref h0])).length) Slot.unset).toArray = ls at hl ⊢
  have hl : lv_has ls 1 [(0, .ref h0)] := hl
  refine lv_aload_n hx hb dX7_init_0 rfl (lv_at hl 0 rfl) ?_
  refine W.objInit hx hb hown (hts (.methodLink RX7 3 objectInit) (by decide +kernel)) (hts (.instanceMethod objectInit) (by decide +kernel)) (hts (.code objectInit ⟨#[0xb1]⟩ 1 none) (by decide +kernel)) rfl (by rw [hml]; exact hl.1) rfl dX7_init_1 (Nat.le_of_ble_eq_true rfl) (Nat.le_of_ble_eq_true rfl) ?_
  refine W.eq (g2 := F0 m 4 ls []) rfl ?_
  refine lv_aload_n hx hb dX7_init_4 rfl (lv_at hl 0 rfl) ?_
  refine lv_bipush (v := (12 : Int32)) hx hb dX7_init_5 (by decide) ?_
  refine va_newi (N' := 12) hx hb (hts (.arrayClass .int) (by decide +kernel)) hK hP hD hS hA (by decide) (by decide) (by decide) (Nat.le_of_ble_eq_true rfl) (Nat.le_of_ble_eq_true rfl) dX7_init_7 (fun q7 H hP hD hS => ?_)
  have hP : va_P D vwCl [(h0, .inr (7, [.int 0, .int 0, .long 0, .null, .null])), (q7, .inl (cy 0, 12, .inl (fun _ => 0)))] H := hP
  have hD : va_D A [(h0, .inr (7, [.int 0, .int 0, .long 0, .null, .null])), (q7, .inl (cy 0, 12, .inl (fun _ => 0)))] := hD
  refine va_putF (D := D) (ci := 7) (v := .ref q7) (ty := .array .int) (C := RX7) (T := TX7) (N := 5) hx hb hts (by decide +kernel) tyX7 tyX7_ok nmX7 hown hK hP hD hS 0 rfl rfl 3 (by decide) (hts (.fieldLink RX7 9 "PianoRounds$Stage" "order" "[I") (by decide +kernel)) (fun _ h9 => h9) rfl hin rfl (by decide +kernel) rfl rfl (Nat.le_of_ble_eq_true rfl) dX7_init_9 (fun H locs hP hD hS => ?_)
  have hP : va_P D vwCl [(h0, .inr (7, [.int 0, .int 0, .long 0, .ref q7, .null])), (q7, .inl (cy 0, 12, .inl (fun _ => 0)))] H := hP
  have hD : va_D A [(h0, .inr (7, [.int 0, .int 0, .long 0, .ref q7, .null])), (q7, .inl (cy 0, 12, .inl (fun _ => 0)))] := hD
  refine lv_aload_n hx hb dX7_init_12 rfl (lv_at hl 0 rfl) ?_
  refine lv_bipush (v := (12 : Int32)) hx hb dX7_init_13 (by decide) ?_
  refine va_newi (N' := 12) hx hb (hts (.arrayClass .int) (by decide +kernel)) hK hP hD hS hA (by decide) (by decide) (by decide) (Nat.le_of_ble_eq_true rfl) (Nat.le_of_ble_eq_true rfl) dX7_init_15 (fun q15 H hP hD hS => ?_)
  have hP : va_P D vwCl [(h0, .inr (7, [.int 0, .int 0, .long 0, .ref q7, .null])), (q7, .inl (cy 0, 12, .inl (fun _ => 0))), (q15, .inl (cy 0, 12, .inl (fun _ => 0)))] H := hP
  have hD : va_D A [(h0, .inr (7, [.int 0, .int 0, .long 0, .ref q7, .null])), (q7, .inl (cy 0, 12, .inl (fun _ => 0))), (q15, .inl (cy 0, 12, .inl (fun _ => 0)))] := hD
  refine va_putF (D := D) (ci := 7) (v := .ref q15) (ty := .array .int) (C := RX7) (T := TX7) (N := 5) hx hb hts (by decide +kernel) tyX7 tyX7_ok nmX7 hown hK hP hD hS 0 rfl rfl 4 (by decide) (hts (.fieldLink RX7 15 "PianoRounds$Stage" "slips" "[I") (by decide +kernel)) (fun _ h9 => h9) rfl hin rfl (by decide +kernel) rfl rfl (Nat.le_of_ble_eq_true rfl) dX7_init_17 (fun H locs hP hD hS => ?_)
  have hP : va_P D vwCl [(h0, .inr (7, [.int 0, .int 0, .long 0, .ref q7, .ref q15])), (q7, .inl (cy 0, 12, .inl (fun _ => 0))), (q15, .inl (cy 0, 12, .inl (fun _ => 0)))] H := hP
  have hD : va_D A [(h0, .inr (7, [.int 0, .int 0, .long 0, .ref q7, .ref q15])), (q7, .inl (cy 0, 12, .inl (fun _ => 0))), (q15, .inl (cy 0, 12, .inl (fun _ => 0)))] := hD
  refine lv_aload_n hx hb dX7_init_20 rfl (lv_at hl 0 rfl) ?_
  obtain ⟨u, hu⟩ : ∃ u : Nat → Nat, u = fun k => if k = o then h0 else if k = o + 1 then q7 else q15 := ⟨_, rfl⟩
  have eu : u o = h0 := by rw [hu]; exact if_pos rfl
  have ew : wX7 cy u o ((0, 0, 0, (fun _ => 0), fun _ => 0) : SX7) = [(h0, .inr (7, [.int 0, .int 0, .long 0, .ref q7, .ref q15])), (q7, .inl (cy 0, 12, .inl (fun _ => 0))), (q15, .inl (cy 0, 12, .inl (fun _ => 0)))] := by
    rw [hu]
    unfold wX7 hX7 aW
    simp only [if_true, List.cons_append, List.nil_append, show ∀ x y : Nat, (if o + 1 = o then x else y) = y from fun x y => if_neg (by omega), show ∀ x y : Nat, (if o + 2 = o then x else y) = y from fun x y => if_neg (by omega), show ∀ x y : Nat, (if o + 2 = o + 1 then x else y) = y from fun x y => if_neg (by omega)]
    rfl
  have hM := qX7_empty l D cy u o ((0, 0, 0, (fun _ => 0), fun _ => 0) : SX7) H.size ((0, 0, 0, (fun _ => 0), fun _ => -1) : SX7) rfl
  rw [eu, ew] at hM
  refine smVv (As := []) (rest := []) (ws' := wX7 cy u o ((0, 0, 0, (fun _ => 0), fun _ => -1) : SX7)) (q0 := 0) hM ⟨hx, hb, hml, hown, hts⟩ (cwV 0 hts gX7_init_X7_empty rfl rfl rfl (by decide +kernel) ⟨Nat.le_of_ble_eq_true rfl, Nat.le_of_ble_eq_true rfl⟩) hG hP hD hS hA (List.Perm.of_eq (List.append_nil _).symm) (List.Perm.of_eq (List.append_nil _).symm) rfl rfl rfl hl.1 rfl (Nat.le_of_ble_eq_true rfl) dX7_init_21 ⟨Nat.le_of_ble_eq_true rfl, Nat.le_of_ble_eq_true rfl⟩ (fun H locs hP hD hS => ?_)
  refine W.widen (k := 2) (n := 24) (by decide) (by decide) ?_
  exact W.vret hx hb hr (fun t ht hW => ⟨⟨u, rfl, eu, by rw [ht]; exact hP, by rw [hAe]; exact hD⟩, hS.F ht⟩) hS.2.2 dX7_init_24
