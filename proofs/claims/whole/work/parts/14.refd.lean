set_option maxHeartbeats 4000000 in
set_option maxRecDepth 100000 in
theorem qX12_mayMark (l : Launch) (D : va_G) (cy : Nat → ClassId) (a : Nat → Nat) (o : Nat) (S : SX12) (p1 : Int32) (p2 : Int32) (rs : Int32) (h : DX12_mayMark S p1 p2 = some rs) : Met l yX12_mayMark wsX12_mayMark ({ frames := 2, cells := 0, slots := 0, locals := 43 } : Room) (va_Pc [.ref (a o), .int p1, .int p2] (fun U => va_P D vwCl (wX12 cy a o S) U.heap ∧ gK D cy U)) (vp_Si (fun z => z = rs)) 0 0 (fun _ => False) := by
  refine Met.ofW (cc := cX12_mayMark) (maxL := 4) (ret := (some .boolean)) (by decide) rfl ?_
  intro p e s m args below meth c s₁ B hml hv
  obtain ⟨rfl, hP, hG⟩ := hv
  have hx := B.exec
  have hb := B.bytes
  have hr := B.returns
  have hts := atoms_spec (ws := wsX12_mayMark) B.pre
  have hown : s.vm.findClass RX12 = some m.cls := findClass_of_methodNamed B.named
  have hlocks := B.notSynchronized
  have hK := hG.1
  have hinX12 := (by decide +kernel : ∀ w ∈ wsX120, w ∈ wsX12_mayMark)
  have hf7 := hts (.fieldLink RX12 7 "PianoRoundsModel" "m" "[I") (by decide +kernel)
  have hl := lv_entry ([.ref (a o), .int p1, .int p2]) (n := 4) (Nat.le_of_ble_eq_true rfl)
  rw [lg_entry_eq]
  generalize (lg_sl ([.ref (a o), .int p1, .int p2]) ++ List.replicate (4 - (lg_sl ([.ref (a o), .int p1, .int p2])).length) Slot.unset).toArray = ls at hl ⊢
  have hl : lv_has ls 4 [(0, .ref (a o)), (1, .int p1), (2, .int p2)] := hl
  rw [DX12_mayMark] at h
  refine lv_aload_n hx hb dX12_mayMark_0 rfl (lv_at hl 0 rfl) ?_
  refine va_get (D := D) (ci := 12) (v := .ref (a (o + 1))) (C := RX12) (T := TX12) (N := 12) hx hb hts hinX12 hown hK hP 0 rfl rfl 0 (by decide) hf7 (fun _ h9 => h9) rfl dX12_mayMark_1 ?_
  refine lv_iconst (v := (3 : Int32)) hx hb dX12_mayMark_4 (by decide) ?_
  refine r_ald (f := (gX12_m S)) (n := 714) (v := ((gX12_m S) 3)) hx hb hK hP 1 0 rfl rfl (vp_in_nI (n := 3) (N := 714) (by decide) (by decide)) (congrArg (gX12_m S) (nI_clamp (n := 3) (by decide))) dX12_mayMark_5 ?_
  refine lv_iconst (v := (1 : Int32)) hx hb dX12_mayMark_6 (by decide) ?_
  obtain ⟨j2, hj2, h⟩ := jn_elim h
  have Jj2 : ∀ (x1 : Int32) (ls : Array Slot), j2 x1 = some rs → lv_has ls 4 [(0, .ref (a o)), (1, .int p1), (2, .int p2)] → W p l e (headSpec wsX12_mayMark ({ frames := 2, cells := 0, slots := 0, locals := 43 } : Room)).room s m ([.ref (a o), .int p1, .int p2] : List Value).toArray below meth c s.heap [] 0 0 (MQ below (vp_Si (fun z => z = rs)) ([.ref (a o), .int p1, .int p2] : List Value).toArray s 0 0 (fun _ => False)) (F0 m 47 ls [.int x1]) := by
    intro x1 ls h hl
    rw [hj2] at h
    refine lv_istore_n (lv' := [(3, .int x1), (0, .ref (a o)), (1, .int p1), (2, .int p2)]) hx hb dX12_mayMark_47 rfl hl (by decide) rfl (fun ls hl => ?_)
    refine lv_iload_n hx hb dX12_mayMark_48 rfl (lv_at hl 0 rfl) ?_
    obtain ⟨j4, hj4, h⟩ := jn_elim h
    have Jj4 : ∀ (x3 : Int32) (ls : Array Slot), j4 x3 = some rs → lv_has ls 4 [] → W p l e (headSpec wsX12_mayMark ({ frames := 2, cells := 0, slots := 0, locals := 43 } : Room)).room s m ([.ref (a o), .int p1, .int p2] : List Value).toArray below meth c s.heap [] 0 0 (MQ below (vp_Si (fun z => z = rs)) ([.ref (a o), .int p1, .int p2] : List Value).toArray s 0 0 (fun _ => False)) (F0 m 66 ls [.int x3]) := by
      intro x3 ls h hl
      rw [hj4] at h
      obtain ⟨g5, h⟩ := gd_some h
      exact W.zret (v := x3) hx hb hr (zN g5) (fun t ht hW => ⟨x3, rfl, some_in h, ht⟩) (fun q hq => nomatch hq) dX12_mayMark_66
    obtain ⟨j6, hj6, h⟩ := jn_elim h
    have Jj6 : ∀ (ls : Array Slot), j6 () = some rs → lv_has ls 4 [] → W p l e (headSpec wsX12_mayMark ({ frames := 2, cells := 0, slots := 0, locals := 43 } : Room)).room s m ([.ref (a o), .int p1, .int p2] : List Value).toArray below meth c s.heap [] 0 0 (MQ below (vp_Si (fun z => z = rs)) ([.ref (a o), .int p1, .int p2] : List Value).toArray s 0 0 (fun _ => False)) (F0 m 65 ls []) := by
      intro ls h hl
      rw [hj6] at h
      refine lv_iconst (v := (0 : Int32)) hx hb dX12_mayMark_65 (by decide) ?_
      exact Jj4 (0 : Int32) ls h (lv_sub hl [] rfl)
    refine lv_if_eq (tgt := 65) hx hb dX12_mayMark_49 (by decide) (fun cc => ?_) (fun cc => ?_)
    · have h := ite_p cc h
      exact Jj6  ls h (lv_sub hl [] rfl)
    · have h := ite_n cc h
      refine lv_aload_n hx hb dX12_mayMark_52 rfl (lv_at hl 1 rfl) ?_
      refine lv_iload_n hx hb dX12_mayMark_53 rfl (lv_at hl 2 rfl) ?_
      refine lv_iload_n hx hb dX12_mayMark_54 rfl (lv_at hl 3 rfl) ?_
      obtain ⟨x7, e8, h⟩ := bd_some h
      refine pcV (As := [.int p1, .int p2]) (rest := []) (q0 := 0) (qX12_isBarred l D cy a o S p1 p2 x7 e8) ⟨hx, hb, hml, hown, hts⟩ (cwV 2 hts gX12_mayMark_X12_isBarred rfl rfl rfl (by decide +kernel) ⟨Nat.le_of_ble_eq_true rfl, Nat.le_of_ble_eq_true rfl⟩) hG hP rfl rfl rfl hl.1 rfl (Nat.le_of_ble_eq_true rfl) dX12_mayMark_55 ⟨Nat.zero_le _, Nat.zero_le _⟩ ?_
      refine lv_if_ne (tgt := 65) hx hb dX12_mayMark_58 (by decide) (fun cc => ?_) (fun cc => ?_)
      · have h := ite_n cc h
        exact Jj6  ls h (lv_sub hl [] rfl)
      · have h := ite_p cc h
        refine lv_iconst (v := (1 : Int32)) hx hb dX12_mayMark_61 (by decide) ?_
        refine lv_goto (tgt := 66) hx hb dX12_mayMark_62 (by decide) ?_
        exact Jj4 (1 : Int32) ls h (lv_sub hl [] rfl)
  obtain ⟨j9, hj9, h⟩ := jn_elim h
  have Jj9 : ∀ (ls : Array Slot), j9 () = some rs → lv_has ls 4 [(0, .ref (a o)), (1, .int p1), (2, .int p2)] → W p l e (headSpec wsX12_mayMark ({ frames := 2, cells := 0, slots := 0, locals := 43 } : Room)).room s m ([.ref (a o), .int p1, .int p2] : List Value).toArray below meth c s.heap [] 0 0 (MQ below (vp_Si (fun z => z = rs)) ([.ref (a o), .int p1, .int p2] : List Value).toArray s 0 0 (fun _ => False)) (F0 m 42 ls []) := by
    intro ls h hl
    rw [hj9] at h
    refine lv_iconst (v := (1 : Int32)) hx hb dX12_mayMark_42 (by decide) ?_
    refine lv_goto (tgt := 47) hx hb dX12_mayMark_43 (by decide) ?_
    exact Jj2 (1 : Int32) ls h (lv_sub hl [0, 1, 2] rfl)
  obtain ⟨j10, hj10, h⟩ := jn_elim h
  have Jj10 : ∀ (ls : Array Slot), j10 () = some rs → lv_has ls 4 [(0, .ref (a o)), (1, .int p1), (2, .int p2)] → W p l e (headSpec wsX12_mayMark ({ frames := 2, cells := 0, slots := 0, locals := 43 } : Room)).room s m ([.ref (a o), .int p1, .int p2] : List Value).toArray below meth c s.heap [] 0 0 (MQ below (vp_Si (fun z => z = rs)) ([.ref (a o), .int p1, .int p2] : List Value).toArray s 0 0 (fun _ => False)) (F0 m 18 ls []) := by
    intro ls h hl
    rw [hj10] at h
    refine lv_aload_n hx hb dX12_mayMark_18 rfl (lv_at hl 0 rfl) ?_
    refine va_get (D := D) (ci := 12) (v := .ref (a (o + 1))) (C := RX12) (T := TX12) (N := 12) hx hb hts hinX12 hown hK hP 0 rfl rfl 0 (by decide) hf7 (fun _ h9 => h9) rfl dX12_mayMark_19 ?_
    refine lv_iconst (v := (3 : Int32)) hx hb dX12_mayMark_22 (by decide) ?_
    refine r_ald (f := (gX12_m S)) (n := 714) (v := ((gX12_m S) 3)) hx hb hK hP 1 0 rfl rfl (vp_in_nI (n := 3) (N := 714) (by decide) (by decide)) (congrArg (gX12_m S) (nI_clamp (n := 3) (by decide))) dX12_mayMark_23 ?_
    refine lv_iconst (v := (2 : Int32)) hx hb dX12_mayMark_24 (by decide) ?_
    obtain ⟨j11, hj11, h⟩ := jn_elim h
    have Jj11 : ∀ (ls : Array Slot), j11 () = some rs → lv_has ls 4 [(0, .ref (a o)), (1, .int p1), (2, .int p2)] → W p l e (headSpec wsX12_mayMark ({ frames := 2, cells := 0, slots := 0, locals := 43 } : Room)).room s m ([.ref (a o), .int p1, .int p2] : List Value).toArray below meth c s.heap [] 0 0 (MQ below (vp_Si (fun z => z = rs)) ([.ref (a o), .int p1, .int p2] : List Value).toArray s 0 0 (fun _ => False)) (F0 m 46 ls []) := by
      intro ls h hl
      rw [hj11] at h
      refine lv_iconst (v := (0 : Int32)) hx hb dX12_mayMark_46 (by decide) ?_
      exact Jj2 (0 : Int32) ls h (lv_sub hl [0, 1, 2] rfl)
    refine lv_icmp_ne (tgt := 46) hx hb dX12_mayMark_25 (by decide) (fun cc => ?_) (fun cc => ?_)
    · have h := ite_n cc h
      exact Jj11  ls h (lv_sub hl [0, 1, 2] rfl)
    · have h := ite_p cc h
      refine lv_aload_n hx hb dX12_mayMark_28 rfl (lv_at hl 0 rfl) ?_
      refine va_get (D := D) (ci := 12) (v := .ref (a (o + 1))) (C := RX12) (T := TX12) (N := 12) hx hb hts hinX12 hown hK hP 0 rfl rfl 0 (by decide) hf7 (fun _ h9 => h9) rfl dX12_mayMark_29 ?_
      refine lv_sipush (v := (654 : Int32)) hx hb dX12_mayMark_32 (by decide) ?_
      refine lv_iload_n hx hb dX12_mayMark_35 rfl (lv_at hl 2 rfl) ?_
      refine lv_iadd hx hb dX12_mayMark_36 ?_
      obtain ⟨g12, h⟩ := gd_some h
      refine r_ald (f := (gX12_m S)) (n := 714) (v := ((gX12_m S) ((((654 : Int32) + p2)).toNatClampNeg))) hx hb hK hP 1 0 rfl rfl (gIn_in g12) rfl dX12_mayMark_37 ?_
      refine lv_iconst (v := (1 : Int32)) hx hb dX12_mayMark_38 (by decide) ?_
      refine lv_icmp_ne (tgt := 46) hx hb dX12_mayMark_39 (by decide) (fun cc => ?_) (fun cc => ?_)
      · have h := ite_n cc h
        exact Jj11  ls h (lv_sub hl [0, 1, 2] rfl)
      · have h := ite_p cc h
        exact Jj9  ls h (lv_sub hl [0, 1, 2] rfl)
  refine lv_icmp_ne (tgt := 18) hx hb dX12_mayMark_7 (by decide) (fun cc => ?_) (fun cc => ?_)
  · have h := ite_n cc h
    exact Jj10  ls h (lv_sub hl [0, 1, 2] rfl)
  · have h := ite_p cc h
    refine lv_aload_n hx hb dX12_mayMark_10 rfl (lv_at hl 0 rfl) ?_
    refine lv_iload_n hx hb dX12_mayMark_11 rfl (lv_at hl 2 rfl) ?_
    obtain ⟨x13, e14, h⟩ := bd_some h
    refine pcV (As := [.int p2]) (rest := []) (q0 := 0) (qX12_hasPlayed l D cy a o S p2 x13 e14) ⟨hx, hb, hml, hown, hts⟩ (cwV 1 hts gX12_mayMark_X12_hasPlayed rfl rfl rfl (by decide +kernel) ⟨Nat.le_of_ble_eq_true rfl, Nat.le_of_ble_eq_true rfl⟩) hG hP rfl rfl rfl hl.1 rfl (Nat.le_of_ble_eq_true rfl) dX12_mayMark_12 ⟨Nat.zero_le _, Nat.zero_le _⟩ ?_
    refine lv_if_ne (tgt := 42) hx hb dX12_mayMark_15 (by decide) (fun cc => ?_) (fun cc => ?_)
    · have h := ite_n cc h
      exact Jj9  ls h (lv_sub hl [0, 1, 2] rfl)
    · have h := ite_p cc h
      exact Jj10  ls h (lv_sub hl [0, 1, 2] rfl)
set_option maxHeartbeats 4000000 in
set_option maxRecDepth 100000 in
theorem qX12_marks (l : Launch) (D : va_G) (cy : Nat → ClassId) (a : Nat → Nat) (o : Nat) (S : SX12) (p1 : Int32) (p2 : Int32) (p3 : Int32) (sz : Nat) (rs : Int32 × SX12) (h : DX12_marks S p1 p2 p3 = some rs) : Met l yX12_marks wsX12_marks ({ frames := 4, cells := 0, slots := 0, locals := 90 } : Room) (mP D cy sz [.ref (a o), .int p1, .int p2, .int p3] (wX12 cy a o S)) (va_Qi (fun r (u : SX12) => (r, u) = rs) (fun u t => mB D sz (wX12 cy a o S) (wX12 cy a o u) t) (va_A (wX12 cy a o S) sz)) 0 0 (va_A (wX12 cy a o S) sz) := by
  refine Met.ofW (cc := cX12_marks) (maxL := 5) (ret := (some .int)) (by decide) rfl ?_
  intro p e s m args below meth c s₁ B hml hv
  obtain ⟨rfl, hsz, hP, hG, hD0⟩ := hv
  have hx := B.exec
  have hb := B.bytes
  have hr := B.returns
  have hts := atoms_spec (ws := wsX12_marks) B.pre
  have hown : s.vm.findClass RX12 = some m.cls := findClass_of_methodNamed B.named
  have hlocks := B.notSynchronized
  have hK := hG.1
  subst hsz
  have hD := hD0.self (sz := s.heap.size)
  have hA : ∀ q : Nat, s.heap.size ≤ q → (va_A (wX12 cy a o S) s.heap.size) q := fun q h => Or.inr h
  have hS : va_S (va_A (wX12 cy a o S) s.heap.size) s.heap s.heap [] := va_S.rf
  have hinX12 := (by decide +kernel : ∀ w ∈ wsX120, w ∈ wsX12_marks)
  have hf7 := hts (.fieldLink RX12 7 "PianoRoundsModel" "m" "[I") (by decide +kernel)
  have hl := lv_entry ([.ref (a o), .int p1, .int p2, .int p3]) (n := 5) (Nat.le_of_ble_eq_true rfl)
  rw [lg_entry_eq]
  generalize (lg_sl ([.ref (a o), .int p1, .int p2, .int p3]) ++ List.replicate (5 - (lg_sl ([.ref (a o), .int p1, .int p2, .int p3])).length) Slot.unset).toArray = ls at hl ⊢
  have hl : lv_has ls 5 [(0, .ref (a o)), (1, .int p1), (2, .int p2), (3, .int p3)] := hl
  rw [DX12_marks] at h
  refine lv_aload_n hx hb dX12_marks_0 rfl (lv_at hl 0 rfl) ?_
  obtain ⟨x1, e2, h⟩ := bd_some h
  refine smVv (As := []) (rest := []) (ws' := (wX12 cy a o x1)) (q0 := 0) (qX12_keep l D cy a o S  (s.heap).size x1 e2) ⟨hx, hb, hml, hown, hts⟩ (cwV 0 hts gX12_marks_X12_keep rfl rfl rfl (by decide +kernel) ⟨Nat.le_of_ble_eq_true rfl, Nat.le_of_ble_eq_true rfl⟩) hG hP hD hS hA (pm1 (X := ([] : va_W)) (c := (wX12 cy a o S)) (Y := ([] : va_W)) (show (wX12 cy a o S) = ([] : va_W) ++ ((wX12 cy a o S) ++ ([] : va_W)) from by simp only [List.append_assoc, List.nil_append, List.append_nil] <;> rfl)) (pm1 (X := ([] : va_W)) (c := (wX12 cy a o x1)) (Y := ([] : va_W)) (show (wX12 cy a o x1) = ([] : va_W) ++ ((wX12 cy a o x1) ++ ([] : va_W)) from by simp only [List.append_assoc, List.nil_append, List.append_nil] <;> rfl)) rfl rfl rfl hl.1 rfl (Nat.le_of_ble_eq_true rfl) dX12_marks_1 ⟨Nat.zero_le _, Nat.zero_le _⟩ (fun H locs hP hD hS => ?_)
  refine lv_aload_n hx hb dX12_marks_4 rfl (lv_at hl 0 rfl) ?_
  refine va_get (D := D) (ci := 12) (v := .ref (a (o + 1))) (C := RX12) (T := TX12) (N := 12) hx hb hts hinX12 hown hK hP 0 rfl rfl 0 (by decide) hf7 (fun _ h9 => h9) rfl dX12_marks_5 ?_
  refine lv_iconst (v := (3 : Int32)) hx hb dX12_marks_8 (by decide) ?_
  refine r_ald (f := (gX12_m x1)) (n := 714) (v := ((gX12_m x1) 3)) hx hb hK hP 1 0 rfl rfl (vp_in_nI (n := 3) (N := 714) (by decide) (by decide)) (congrArg (gX12_m x1) (nI_clamp (n := 3) (by decide))) dX12_marks_9 ?_
  refine lv_iconst (v := (1 : Int32)) hx hb dX12_marks_10 (by decide) ?_
  obtain ⟨j4, hj4, h⟩ := jn_elim h
  have Jj4 : ∀ (x3 : Int32) (ls : Array Slot), j4 x3 = some rs → lv_has ls 5 [(0, .ref (a o)), (1, .int p1), (2, .int p2), (3, .int p3)] → W p l e (headSpec wsX12_marks ({ frames := 4, cells := 0, slots := 0, locals := 90 } : Room)).room s m ([.ref (a o), .int p1, .int p2, .int p3] : List Value).toArray below meth c H locs 0 0 (MQ below (va_Qi (fun r (u : SX12) => (r, u) = rs) (fun u t => mB D s.heap.size (wX12 cy a o S) (wX12 cy a o u) t) (va_A (wX12 cy a o S) s.heap.size)) ([.ref (a o), .int p1, .int p2, .int p3] : List Value).toArray s 0 0 (va_A (wX12 cy a o S) s.heap.size)) (F0 m 23 ls [.int x3]) := by
    intro x3 ls h hl
    rw [hj4] at h
    refine lv_istore (lv' := [(4, .int x3), (0, .ref (a o)), (1, .int p1), (2, .int p2), (3, .int p3)]) hx hb dX12_marks_23 hl (by decide) rfl (fun ls hl => ?_)
    refine lv_aload_n hx hb dX12_marks_25 rfl (lv_at hl 1 rfl) ?_
    refine va_get (D := D) (ci := 12) (v := .ref (a (o + 1))) (C := RX12) (T := TX12) (N := 12) hx hb hts hinX12 hown hK hP 0 rfl rfl 0 (by decide) hf7 (fun _ h9 => h9) rfl dX12_marks_26 ?_
    refine lv_iload hx hb dX12_marks_29 (lv_at hl 0 rfl) ?_
    refine lv_iload_n hx hb dX12_marks_31 rfl (lv_at hl 2 rfl) ?_
    refine lv_iload_n hx hb dX12_marks_32 rfl (lv_at hl 3 rfl) ?_
    obtain ⟨x5, e6, h⟩ := bd_some h
    refine pcS (As := [.int p1, .int p2]) (rest := [.int x3, .ref (a (o + 1))]) (qX12_seat l D cy  p1 p2 x5 e6) ⟨hx, hb, hml, hown, hts⟩ (va_cwS 2 hts gX12_marks_X12_seat rfl rfl rfl (by decide +kernel) ⟨Nat.le_of_ble_eq_true rfl, Nat.le_of_ble_eq_true rfl⟩) hG (hP.sub [] rfl) rfl hl.1 rfl (Nat.le_of_ble_eq_true rfl) dX12_marks_33 ⟨Nat.zero_le _, Nat.zero_le _⟩ ?_
    refine lv_iadd hx hb dX12_marks_36 ?_
    refine lv_iload_n hx hb dX12_marks_37 rfl (lv_at hl 4 rfl) ?_
    obtain ⟨g7, h⟩ := gd_some h
    refine r_ast (f := (gX12_m x1)) (f' := (upd (gX12_m x1) (((x3 + x5)).toNatClampNeg) p3)) (n := 714) (ws' := (wX12 cy a o (uX12_m x1 (upd (gX12_m x1) (((x3 + x5)).toNatClampNeg) p3)))) hx hb hK hP hD hS 1 0 rfl rfl (gIn_in g7) rfl rfl dX12_marks_38 (fun H locs hP hD hS => ?_)
    obtain ⟨S8, eS9, h⟩ := lt_elim h
    have hP : va_P D vwCl (wX12 cy a o S8) H := by rw [eS9]; exact hP
    have hD : va_D (va_A (wX12 cy a o S) s.heap.size) (wX12 cy a o S8) := by rw [eS9]; exact hD
    refine lv_aload_n hx hb dX12_marks_39 rfl (lv_at hl 1 rfl) ?_
    refine lv_iload hx hb dX12_marks_40 (lv_at hl 0 rfl) ?_
    refine lv_iload_n hx hb dX12_marks_42 rfl (lv_at hl 3 rfl) ?_
    obtain ⟨x10, e11, h⟩ := bd_some h
    refine pcV (As := [.int x3, .int p2]) (rest := []) (q0 := 0) (qX12_counting l D cy a o S8 x3 p2 x10 e11) ⟨hx, hb, hml, hown, hts⟩ (cwV 2 hts gX12_marks_X12_counting rfl rfl rfl (by decide +kernel) ⟨Nat.le_of_ble_eq_true rfl, Nat.le_of_ble_eq_true rfl⟩) hG hP rfl rfl rfl hl.1 rfl (Nat.le_of_ble_eq_true rfl) dX12_marks_43 ⟨Nat.zero_le _, Nat.zero_le _⟩ ?_
    exact W.iret (v := x10) hx hb hr (fun t ht hW => ⟨⟨x10, S8, rfl, some_in h, by rw [ht]; exact hP, hD⟩, hS.F ht⟩) hS.2.2 dX12_marks_46
  refine lv_icmp_ne (tgt := 20) hx hb dX12_marks_11 (by decide) (fun cc => ?_) (fun cc => ?_)
  · have h := ite_n cc h
    refine lv_sipush (v := (570 : Int32)) hx hb dX12_marks_20 (by decide) ?_
    exact Jj4 (570 : Int32) ls h (lv_sub hl [0, 1, 2, 3] rfl)
  · have h := ite_p cc h
    refine lv_sipush (v := (486 : Int32)) hx hb dX12_marks_14 (by decide) ?_
    refine lv_goto (tgt := 23) hx hb dX12_marks_17 (by decide) ?_
    exact Jj4 (486 : Int32) ls h (lv_sub hl [0, 1, 2, 3] rfl)
set_option maxHeartbeats 4000000 in
set_option maxRecDepth 100000 in
theorem qX12_mark (l : Launch) (D : va_G) (cy : Nat → ClassId) (a : Nat → Nat) (o : Nat) (S : SX12) (p1 : Int32) (p2 : Int32) (p3 : Int32) (sz : Nat) (rs : Int32 × SX12) (h : DX12_mark S p1 p2 p3 = some rs) : Met l yX12_mark wsX12_mark ({ frames := 5, cells := 0, slots := 0, locals := 114 } : Room) (mP D cy sz [.ref (a o), .int p1, .int p2, .int p3] (wX12 cy a o S)) (va_Qi (fun r (u : SX12) => (r, u) = rs) (fun u t => mB D sz (wX12 cy a o S) (wX12 cy a o u) t) (va_A (wX12 cy a o S) sz)) 0 0 (va_A (wX12 cy a o S) sz) := by
  refine Met.ofW (cc := cX12_mark) (maxL := 5) (ret := (some .int)) (by decide) rfl ?_
  intro p e s m args below meth c s₁ B hml hv
  obtain ⟨rfl, hsz, hP, hG, hD0⟩ := hv
  have hx := B.exec
  have hb := B.bytes
  have hr := B.returns
  have hts := atoms_spec (ws := wsX12_mark) B.pre
  have hown : s.vm.findClass RX12 = some m.cls := findClass_of_methodNamed B.named
  have hlocks := B.notSynchronized
  have hK := hG.1
  subst hsz
  have hD := hD0.self (sz := s.heap.size)
  have hA : ∀ q : Nat, s.heap.size ≤ q → (va_A (wX12 cy a o S) s.heap.size) q := fun q h => Or.inr h
  have hS : va_S (va_A (wX12 cy a o S) s.heap.size) s.heap s.heap [] := va_S.rf
  have hinX12 := (by decide +kernel : ∀ w ∈ wsX120, w ∈ wsX12_mark)
  have hf7 := hts (.fieldLink RX12 7 "PianoRoundsModel" "m" "[I") (by decide +kernel)
  have hf31 := hts (.fieldLink RX12 31 "PianoRoundsModel" "code" "I") (by decide +kernel)
  have hl := lv_entry ([.ref (a o), .int p1, .int p2, .int p3]) (n := 5) (Nat.le_of_ble_eq_true rfl)
  rw [lg_entry_eq]
  generalize (lg_sl ([.ref (a o), .int p1, .int p2, .int p3]) ++ List.replicate (5 - (lg_sl ([.ref (a o), .int p1, .int p2, .int p3])).length) Slot.unset).toArray = ls at hl ⊢
  have hl : lv_has ls 5 [(0, .ref (a o)), (1, .int p1), (2, .int p2), (3, .int p3)] := hl
  rw [DX12_mark] at h
  refine lv_aload_n hx hb dX12_mark_0 rfl (lv_at hl 0 rfl) ?_
  refine va_get (D := D) (ci := 12) (v := .ref (a (o + 1))) (C := RX12) (T := TX12) (N := 12) hx hb hts hinX12 hown hK hP 0 rfl rfl 0 (by decide) hf7 (fun _ h9 => h9) rfl dX12_mark_1 ?_
  refine lv_iconst (v := (3 : Int32)) hx hb dX12_mark_4 (by decide) ?_
  refine r_ald (f := (gX12_m S)) (n := 714) (v := ((gX12_m S) 3)) hx hb hK hP 1 0 rfl rfl (vp_in_nI (n := 3) (N := 714) (by decide) (by decide)) (congrArg (gX12_m S) (nI_clamp (n := 3) (by decide))) dX12_mark_5 ?_
  refine lv_iconst (v := (2 : Int32)) hx hb dX12_mark_6 (by decide) ?_
  obtain ⟨j2, hj2, h⟩ := jn_elim h
  have Jj2 : ∀ (x1 : Int32) (ls : Array Slot), j2 x1 = some rs → lv_has ls 5 [(0, .ref (a o)), (1, .int p1), (2, .int p2), (3, .int p3)] → W p l e (headSpec wsX12_mark ({ frames := 5, cells := 0, slots := 0, locals := 114 } : Room)).room s m ([.ref (a o), .int p1, .int p2, .int p3] : List Value).toArray below meth c s.heap [] 0 0 (MQ below (va_Qi (fun r (u : SX12) => (r, u) = rs) (fun u t => mB D s.heap.size (wX12 cy a o S) (wX12 cy a o u) t) (va_A (wX12 cy a o S) s.heap.size)) ([.ref (a o), .int p1, .int p2, .int p3] : List Value).toArray s 0 0 (va_A (wX12 cy a o S) s.heap.size)) (F0 m 17 ls [.int x1]) := by
    intro x1 ls h hl
    rw [hj2] at h
    refine lv_istore (lv' := [(4, .int x1), (0, .ref (a o)), (1, .int p1), (2, .int p2), (3, .int p3)]) hx hb dX12_mark_17 hl (by decide) rfl (fun ls hl => ?_)
    refine lv_aload_n hx hb dX12_mark_19 rfl (lv_at hl 1 rfl) ?_
    refine lv_aload_n hx hb dX12_mark_20 rfl (lv_at hl 1 rfl) ?_
    refine lv_iload_n hx hb dX12_mark_21 rfl (lv_at hl 2 rfl) ?_
    obtain ⟨x3, e4, h⟩ := bd_some h
    refine pcV (As := [.int p1]) (rest := [.ref (a o)]) (q0 := 0) (qX12_isJuror l D cy a o S p1 x3 e4) ⟨hx, hb, hml, hown, hts⟩ (cwV 1 hts gX12_mark_X12_isJuror rfl rfl rfl (by decide +kernel) ⟨Nat.le_of_ble_eq_true rfl, Nat.le_of_ble_eq_true rfl⟩) hG hP rfl rfl rfl hl.1 rfl (Nat.le_of_ble_eq_true rfl) dX12_mark_22 ⟨Nat.zero_le _, Nat.zero_le _⟩ ?_
    obtain ⟨j6, hj6, h⟩ := jn_elim h
    have Jj6 : ∀ (x5 : Int32) (ls : Array Slot), j6 x5 = some rs → lv_has ls 5 [(0, .ref (a o)), (1, .int p1), (2, .int p2), (3, .int p3)] → W p l e (headSpec wsX12_mark ({ frames := 5, cells := 0, slots := 0, locals := 114 } : Room)).room s m ([.ref (a o), .int p1, .int p2, .int p3] : List Value).toArray below meth c s.heap [] 0 0 (MQ below (va_Qi (fun r (u : SX12) => (r, u) = rs) (fun u t => mB D s.heap.size (wX12 cy a o S) (wX12 cy a o u) t) (va_A (wX12 cy a o S) s.heap.size)) ([.ref (a o), .int p1, .int p2, .int p3] : List Value).toArray s 0 0 (va_A (wX12 cy a o S) s.heap.size)) (F0 m 68 ls [.int x5, .ref (a o)]) := by
      intro x5 ls h hl
      rw [hj6] at h
      refine va_put (D := D) (ci := 12) (v := .int x5) (ty := .int) (C := RX12) (T := TX12) (N := 12) hx hb hts hinX12 tyX12 tyX12_ok nmX12 hown hK hP hD hS 0 rfl rfl 5 (by decide) hf31 (fun _ h9 => h9) rfl (by decide +kernel) rfl rfl (Nat.le_of_ble_eq_true rfl) dX12_mark_68 (fun H locs hP hD hS => ?_)
      have hP : va_P D vwCl (wX12 cy a o (uX12_code S x5)) H := hP
      have hD : va_D (va_A (wX12 cy a o S) s.heap.size) (wX12 cy a o (uX12_code S x5)) := hD
      obtain ⟨S7, eS8, h⟩ := lt_elim h
      have hP : va_P D vwCl (wX12 cy a o S7) H := by rw [eS8]; exact hP
      have hD : va_D (va_A (wX12 cy a o S) s.heap.size) (wX12 cy a o S7) := by rw [eS8]; exact hD
      refine lv_aload_n hx hb dX12_mark_71 rfl (lv_at hl 0 rfl) ?_
      refine va_get (D := D) (ci := 12) (v := .int (gX12_code S7)) (C := RX12) (T := TX12) (N := 12) hx hb hts hinX12 hown hK hP 0 rfl rfl 5 (by decide) hf31 (fun _ h9 => h9) rfl dX12_mark_72 ?_
      obtain ⟨j11, hj11, h⟩ := jn_elim h
      have Jj11 : ∀ (x9 : Int32) (S10 : SX12) (H : Heap) (locs : List Loc) (ls : Array Slot), j11 x9 S10 = some rs → va_P D vwCl (wX12 cy a o S10) H → va_D (va_A (wX12 cy a o S) s.heap.size) (wX12 cy a o S10) → va_S (va_A (wX12 cy a o S) s.heap.size) s.heap H locs → lv_has ls 5 [] → W p l e (headSpec wsX12_mark ({ frames := 5, cells := 0, slots := 0, locals := 114 } : Room)).room s m ([.ref (a o), .int p1, .int p2, .int p3] : List Value).toArray below meth c H locs 0 0 (MQ below (va_Qi (fun r (u : SX12) => (r, u) = rs) (fun u t => mB D s.heap.size (wX12 cy a o S) (wX12 cy a o u) t) (va_A (wX12 cy a o S) s.heap.size)) ([.ref (a o), .int p1, .int p2, .int p3] : List Value).toArray s 0 0 (va_A (wX12 cy a o S) s.heap.size)) (F0 m 89 ls [.int x9]) := by
        intro x9 S10 H locs ls h hP hD hS hl
        rw [hj11] at h
        exact W.iret (v := x9) hx hb hr (fun t ht hW => ⟨⟨x9, S10, rfl, some_in h, by rw [ht]; exact hP, hD⟩, hS.F ht⟩) hS.2.2 dX12_mark_89
      refine lv_if_eq (tgt := 82) hx hb dX12_mark_75 (by decide) (fun cc => ?_) (fun cc => ?_)
      · have h := ite_p cc h
        refine lv_aload_n hx hb dX12_mark_82 rfl (lv_at hl 0 rfl) ?_
        refine lv_iload_n hx hb dX12_mark_83 rfl (lv_at hl 1 rfl) ?_
        refine lv_iload_n hx hb dX12_mark_84 rfl (lv_at hl 2 rfl) ?_
        refine lv_iload_n hx hb dX12_mark_85 rfl (lv_at hl 3 rfl) ?_
        obtain ⟨x12, e13, h⟩ := bd_some h
        refine smVi (As := [.int p1, .int p2, .int p3]) (rest := []) (ws' := (wX12 cy a o x12.2)) (q0 := 0) (qX12_marks l D cy a o S7 p1 p2 p3 (H).size x12 e13) ⟨hx, hb, hml, hown, hts⟩ (cwV 3 hts gX12_mark_X12_marks rfl rfl rfl (by decide +kernel) ⟨Nat.le_of_ble_eq_true rfl, Nat.le_of_ble_eq_true rfl⟩) hG hP hD hS hA (pm1 (X := ([] : va_W)) (c := (wX12 cy a o S7)) (Y := ([] : va_W)) (show (wX12 cy a o S7) = ([] : va_W) ++ ((wX12 cy a o S7) ++ ([] : va_W)) from by simp only [List.append_assoc, List.nil_append, List.append_nil] <;> rfl)) (pm1 (X := ([] : va_W)) (c := (wX12 cy a o x12.2)) (Y := ([] : va_W)) (show (wX12 cy a o x12.2) = ([] : va_W) ++ ((wX12 cy a o x12.2) ++ ([] : va_W)) from by simp only [List.append_assoc, List.nil_append, List.append_nil] <;> rfl)) rfl rfl rfl hl.1 rfl (Nat.le_of_ble_eq_true rfl) dX12_mark_86 ⟨Nat.zero_le _, Nat.zero_le _⟩ (fun H locs hP hD hS => ?_)
        exact Jj11 x12.1 x12.2 H locs ls h hP hD hS (lv_sub hl [] rfl)
      · have h := ite_n cc h
        refine lv_iconst (v := (0 : Int32)) hx hb dX12_mark_78 (by decide) ?_
        refine lv_goto (tgt := 89) hx hb dX12_mark_79 (by decide) ?_
        exact Jj11 (0 : Int32) S7 H locs ls h hP hD hS (lv_sub hl [] rfl)
    obtain ⟨j14, hj14, h⟩ := jn_elim h
    have Jj14 : ∀ (ls : Array Slot), j14 () = some rs → lv_has ls 5 [(0, .ref (a o)), (1, .int p1), (2, .int p2), (3, .int p3)] → W p l e (headSpec wsX12_mark ({ frames := 5, cells := 0, slots := 0, locals := 114 } : Room)).room s m ([.ref (a o), .int p1, .int p2, .int p3] : List Value).toArray below meth c s.heap [] 0 0 (MQ below (va_Qi (fun r (u : SX12) => (r, u) = rs) (fun u t => mB D s.heap.size (wX12 cy a o S) (wX12 cy a o u) t) (va_A (wX12 cy a o S) s.heap.size)) ([.ref (a o), .int p1, .int p2, .int p3] : List Value).toArray s 0 0 (va_A (wX12 cy a o S) s.heap.size)) (F0 m 36 ls [.ref (a o)]) := by
      intro ls h hl
      rw [hj14] at h
      refine lv_iconst (v := (1 : Int32)) hx hb dX12_mark_36 (by decide) ?_
      refine lv_goto (tgt := 68) hx hb dX12_mark_37 (by decide) ?_
      exact Jj6 (1 : Int32) ls h (lv_sub hl [0, 1, 2, 3] rfl)
    refine lv_if_eq (tgt := 36) hx hb dX12_mark_25 (by decide) (fun cc => ?_) (fun cc => ?_)
    · have h := ite_p cc h
      exact Jj14  ls h (lv_sub hl [1, 2, 3, 4] rfl)
    · have h := ite_n cc h
      refine lv_aload_n hx hb dX12_mark_28 rfl (lv_at hl 1 rfl) ?_
      refine lv_iload_n hx hb dX12_mark_29 rfl (lv_at hl 3 rfl) ?_
      obtain ⟨x15, e16, h⟩ := bd_some h
      refine pcV (As := [.int p2]) (rest := [.ref (a o)]) (q0 := 0) (qX12_isEntrant l D cy a o S p2 x15 e16) ⟨hx, hb, hml, hown, hts⟩ (cwV 1 hts gX12_mark_X12_isEntrant rfl rfl rfl (by decide +kernel) ⟨Nat.le_of_ble_eq_true rfl, Nat.le_of_ble_eq_true rfl⟩) hG hP rfl rfl rfl hl.1 rfl (Nat.le_of_ble_eq_true rfl) dX12_mark_30 ⟨Nat.zero_le _, Nat.zero_le _⟩ ?_
      refine lv_if_ne (tgt := 40) hx hb dX12_mark_33 (by decide) (fun cc => ?_) (fun cc => ?_)
      · have h := ite_n cc h
        refine lv_iload_n hx hb dX12_mark_40 rfl (lv_at hl 4 rfl) ?_
        refine lv_iconst (v := (0 : Int32)) hx hb dX12_mark_41 (by decide) ?_
        refine lv_iload hx hb dX12_mark_42 (lv_at hl 0 rfl) ?_
        obtain ⟨x17, e18, h⟩ := bd_some h
        refine pcS (As := [.int p3, .int (0 : Int32), .int x1]) (rest := [.ref (a o)]) (qX12_in l D cy  p3 (0 : Int32) x1 x17 e18) ⟨hx, hb, hml, hown, hts⟩ (va_cwS 3 hts gX12_mark_X12_in rfl rfl rfl (by decide +kernel) ⟨Nat.le_of_ble_eq_true rfl, Nat.le_of_ble_eq_true rfl⟩) hG (hP.sub [] rfl) rfl hl.1 rfl (Nat.le_of_ble_eq_true rfl) dX12_mark_44 ⟨Nat.zero_le _, Nat.zero_le _⟩ ?_
        refine lv_if_ne (tgt := 54) hx hb dX12_mark_47 (by decide) (fun cc => ?_) (fun cc => ?_)
        · have h := ite_n cc h
          refine lv_aload_n hx hb dX12_mark_54 rfl (lv_at hl 1 rfl) ?_
          refine lv_iload_n hx hb dX12_mark_55 rfl (lv_at hl 2 rfl) ?_
          refine lv_iload_n hx hb dX12_mark_56 rfl (lv_at hl 3 rfl) ?_
          obtain ⟨x19, e20, h⟩ := bd_some h
          refine pcV (As := [.int p1, .int p2]) (rest := [.ref (a o)]) (q0 := 0) (qX12_mayMark l D cy a o S p1 p2 x19 e20) ⟨hx, hb, hml, hown, hts⟩ (cwV 2 hts gX12_mark_X12_mayMark rfl rfl rfl (by decide +kernel) ⟨Nat.le_of_ble_eq_true rfl, Nat.le_of_ble_eq_true rfl⟩) hG hP rfl rfl rfl hl.1 rfl (Nat.le_of_ble_eq_true rfl) dX12_mark_57 ⟨Nat.zero_le _, Nat.zero_le _⟩ ?_
          refine lv_if_eq (tgt := 67) hx hb dX12_mark_60 (by decide) (fun cc => ?_) (fun cc => ?_)
          · have h := ite_p cc h
            refine lv_iconst (v := (3 : Int32)) hx hb dX12_mark_67 (by decide) ?_
            exact Jj6 (3 : Int32) ls h (lv_sub hl [1, 2, 3, 4] rfl)
          · have h := ite_n cc h
            refine lv_iconst (v := (0 : Int32)) hx hb dX12_mark_63 (by decide) ?_
            refine lv_goto (tgt := 68) hx hb dX12_mark_64 (by decide) ?_
            exact Jj6 (0 : Int32) ls h (lv_sub hl [1, 2, 3, 4] rfl)
        · have h := ite_p cc h
          refine lv_iconst (v := (2 : Int32)) hx hb dX12_mark_50 (by decide) ?_
          refine lv_goto (tgt := 68) hx hb dX12_mark_51 (by decide) ?_
          exact Jj6 (2 : Int32) ls h (lv_sub hl [1, 2, 3, 4] rfl)
      · have h := ite_p cc h
        exact Jj14  ls h (lv_sub hl [1, 2, 3, 4] rfl)
  refine lv_icmp_ne (tgt := 15) hx hb dX12_mark_7 (by decide) (fun cc => ?_) (fun cc => ?_)
  · have h := ite_n cc h
    refine lv_bipush (v := (100 : Int32)) hx hb dX12_mark_15 (by decide) ?_
    exact Jj2 (100 : Int32) ls h (lv_sub hl [0, 1, 2, 3] rfl)
  · have h := ite_p cc h
    refine lv_bipush (v := (10 : Int32)) hx hb dX12_mark_10 (by decide) ?_
    refine lv_goto (tgt := 17) hx hb dX12_mark_12 (by decide) ?_
    exact Jj2 (10 : Int32) ls h (lv_sub hl [0, 1, 2, 3] rfl)
set_option maxHeartbeats 4000000 in
set_option maxRecDepth 100000 in
theorem qX12_abstain (l : Launch) (D : va_G) (cy : Nat → ClassId) (a : Nat → Nat) (o : Nat) (S : SX12) (p1 : Int32) (p2 : Int32) (sz : Nat) (rs : Int32 × SX12) (h : DX12_abstain S p1 p2 = some rs) : Met l yX12_abstain wsX12_abstain ({ frames := 5, cells := 0, slots := 0, locals := 114 } : Room) (mP D cy sz [.ref (a o), .int p1, .int p2] (wX12 cy a o S)) (va_Qi (fun r (u : SX12) => (r, u) = rs) (fun u t => mB D sz (wX12 cy a o S) (wX12 cy a o u) t) (va_A (wX12 cy a o S) sz)) 0 0 (va_A (wX12 cy a o S) sz) := by
  refine Met.ofW (cc := cX12_abstain) (maxL := 3) (ret := (some .int)) (by decide) rfl ?_
  intro p e s m args below meth c s₁ B hml hv
  obtain ⟨rfl, hsz, hP, hG, hD0⟩ := hv
  have hx := B.exec
  have hb := B.bytes
  have hr := B.returns
  have hts := atoms_spec (ws := wsX12_abstain) B.pre
  have hown : s.vm.findClass RX12 = some m.cls := findClass_of_methodNamed B.named
  have hlocks := B.notSynchronized
  have hK := hG.1
  subst hsz
  have hD := hD0.self (sz := s.heap.size)
  have hA : ∀ q : Nat, s.heap.size ≤ q → (va_A (wX12 cy a o S) s.heap.size) q := fun q h => Or.inr h
  have hS : va_S (va_A (wX12 cy a o S) s.heap.size) s.heap s.heap [] := va_S.rf
  have hinX12 := (by decide +kernel : ∀ w ∈ wsX120, w ∈ wsX12_abstain)
  have hf31 := hts (.fieldLink RX12 31 "PianoRoundsModel" "code" "I") (by decide +kernel)
  have hl := lv_entry ([.ref (a o), .int p1, .int p2]) (n := 3) (Nat.le_of_ble_eq_true rfl)
  rw [lg_entry_eq]
  generalize (lg_sl ([.ref (a o), .int p1, .int p2]) ++ List.replicate (3 - (lg_sl ([.ref (a o), .int p1, .int p2])).length) Slot.unset).toArray = ls at hl ⊢
  have hl : lv_has ls 3 [(0, .ref (a o)), (1, .int p1), (2, .int p2)] := hl
  rw [DX12_abstain] at h
  refine lv_aload_n hx hb dX12_abstain_0 rfl (lv_at hl 0 rfl) ?_
  refine lv_aload_n hx hb dX12_abstain_1 rfl (lv_at hl 0 rfl) ?_
  refine lv_iload_n hx hb dX12_abstain_2 rfl (lv_at hl 1 rfl) ?_
  obtain ⟨x1, e2, h⟩ := bd_some h
  refine pcV (As := [.int p1]) (rest := [.ref (a o)]) (q0 := 0) (qX12_isJuror l D cy a o S p1 x1 e2) ⟨hx, hb, hml, hown, hts⟩ (cwV 1 hts gX12_abstain_X12_isJuror rfl rfl rfl (by decide +kernel) ⟨Nat.le_of_ble_eq_true rfl, Nat.le_of_ble_eq_true rfl⟩) hG hP rfl rfl rfl hl.1 rfl (Nat.le_of_ble_eq_true rfl) dX12_abstain_3 ⟨Nat.zero_le _, Nat.zero_le _⟩ ?_
  obtain ⟨j4, hj4, h⟩ := jn_elim h
  have Jj4 : ∀ (x3 : Int32) (ls : Array Slot), j4 x3 = some rs → lv_has ls 3 [(0, .ref (a o)), (1, .int p1), (2, .int p2)] → W p l e (headSpec wsX12_abstain ({ frames := 5, cells := 0, slots := 0, locals := 114 } : Room)).room s m ([.ref (a o), .int p1, .int p2] : List Value).toArray below meth c s.heap [] 0 0 (MQ below (va_Qi (fun r (u : SX12) => (r, u) = rs) (fun u t => mB D s.heap.size (wX12 cy a o S) (wX12 cy a o u) t) (va_A (wX12 cy a o S) s.heap.size)) ([.ref (a o), .int p1, .int p2] : List Value).toArray s 0 0 (va_A (wX12 cy a o S) s.heap.size)) (F0 m 35 ls [.int x3, .ref (a o)]) := by
    intro x3 ls h hl
    rw [hj4] at h
    refine va_put (D := D) (ci := 12) (v := .int x3) (ty := .int) (C := RX12) (T := TX12) (N := 12) hx hb hts hinX12 tyX12 tyX12_ok nmX12 hown hK hP hD hS 0 rfl rfl 5 (by decide) hf31 (fun _ h9 => h9) rfl (by decide +kernel) rfl rfl (Nat.le_of_ble_eq_true rfl) dX12_abstain_35 (fun H locs hP hD hS => ?_)
    have hP : va_P D vwCl (wX12 cy a o (uX12_code S x3)) H := hP
    have hD : va_D (va_A (wX12 cy a o S) s.heap.size) (wX12 cy a o (uX12_code S x3)) := hD
    obtain ⟨S5, eS6, h⟩ := lt_elim h
    have hP : va_P D vwCl (wX12 cy a o S5) H := by rw [eS6]; exact hP
    have hD : va_D (va_A (wX12 cy a o S) s.heap.size) (wX12 cy a o S5) := by rw [eS6]; exact hD
    refine lv_aload_n hx hb dX12_abstain_38 rfl (lv_at hl 0 rfl) ?_
    refine va_get (D := D) (ci := 12) (v := .int (gX12_code S5)) (C := RX12) (T := TX12) (N := 12) hx hb hts hinX12 hown hK hP 0 rfl rfl 5 (by decide) hf31 (fun _ h9 => h9) rfl dX12_abstain_39 ?_
    obtain ⟨j9, hj9, h⟩ := jn_elim h
    have Jj9 : ∀ (x7 : Int32) (S8 : SX12) (H : Heap) (locs : List Loc) (ls : Array Slot), j9 x7 S8 = some rs → va_P D vwCl (wX12 cy a o S8) H → va_D (va_A (wX12 cy a o S) s.heap.size) (wX12 cy a o S8) → va_S (va_A (wX12 cy a o S) s.heap.size) s.heap H locs → lv_has ls 3 [] → W p l e (headSpec wsX12_abstain ({ frames := 5, cells := 0, slots := 0, locals := 114 } : Room)).room s m ([.ref (a o), .int p1, .int p2] : List Value).toArray below meth c H locs 0 0 (MQ below (va_Qi (fun r (u : SX12) => (r, u) = rs) (fun u t => mB D s.heap.size (wX12 cy a o S) (wX12 cy a o u) t) (va_A (wX12 cy a o S) s.heap.size)) ([.ref (a o), .int p1, .int p2] : List Value).toArray s 0 0 (va_A (wX12 cy a o S) s.heap.size)) (F0 m 57 ls [.int x7]) := by
      intro x7 S8 H locs ls h hP hD hS hl
      rw [hj9] at h
      exact W.iret (v := x7) hx hb hr (fun t ht hW => ⟨⟨x7, S8, rfl, some_in h, by rw [ht]; exact hP, hD⟩, hS.F ht⟩) hS.2.2 dX12_abstain_57
    refine lv_if_eq (tgt := 49) hx hb dX12_abstain_42 (by decide) (fun cc => ?_) (fun cc => ?_)
    · have h := ite_p cc h
      refine lv_aload_n hx hb dX12_abstain_49 rfl (lv_at hl 0 rfl) ?_
      refine lv_iload_n hx hb dX12_abstain_50 rfl (lv_at hl 1 rfl) ?_
      refine lv_iload_n hx hb dX12_abstain_51 rfl (lv_at hl 2 rfl) ?_
      refine lv_bipush (v := (-2 : Int32)) hx hb dX12_abstain_52 (by decide) ?_
      obtain ⟨x10, e11, h⟩ := bd_some h
      refine smVi (As := [.int p1, .int p2, .int (-2 : Int32)]) (rest := []) (ws' := (wX12 cy a o x10.2)) (q0 := 0) (qX12_marks l D cy a o S5 p1 p2 (-2 : Int32) (H).size x10 e11) ⟨hx, hb, hml, hown, hts⟩ (cwV 3 hts gX12_abstain_X12_marks rfl rfl rfl (by decide +kernel) ⟨Nat.le_of_ble_eq_true rfl, Nat.le_of_ble_eq_true rfl⟩) hG hP hD hS hA (pm1 (X := ([] : va_W)) (c := (wX12 cy a o S5)) (Y := ([] : va_W)) (show (wX12 cy a o S5) = ([] : va_W) ++ ((wX12 cy a o S5) ++ ([] : va_W)) from by simp only [List.append_assoc, List.nil_append, List.append_nil] <;> rfl)) (pm1 (X := ([] : va_W)) (c := (wX12 cy a o x10.2)) (Y := ([] : va_W)) (show (wX12 cy a o x10.2) = ([] : va_W) ++ ((wX12 cy a o x10.2) ++ ([] : va_W)) from by simp only [List.append_assoc, List.nil_append, List.append_nil] <;> rfl)) rfl rfl rfl hl.1 rfl (Nat.le_of_ble_eq_true rfl) dX12_abstain_54 ⟨Nat.zero_le _, Nat.zero_le _⟩ (fun H locs hP hD hS => ?_)
      exact Jj9 x10.1 x10.2 H locs ls h hP hD hS (lv_sub hl [] rfl)
    · have h := ite_n cc h
      refine lv_iconst (v := (0 : Int32)) hx hb dX12_abstain_45 (by decide) ?_
      refine lv_goto (tgt := 57) hx hb dX12_abstain_46 (by decide) ?_
      exact Jj9 (0 : Int32) S5 H locs ls h hP hD hS (lv_sub hl [] rfl)
  obtain ⟨j12, hj12, h⟩ := jn_elim h
  have Jj12 : ∀ (ls : Array Slot), j12 () = some rs → lv_has ls 3 [(0, .ref (a o)), (1, .int p1), (2, .int p2)] → W p l e (headSpec wsX12_abstain ({ frames := 5, cells := 0, slots := 0, locals := 114 } : Room)).room s m ([.ref (a o), .int p1, .int p2] : List Value).toArray below meth c s.heap [] 0 0 (MQ below (va_Qi (fun r (u : SX12) => (r, u) = rs) (fun u t => mB D s.heap.size (wX12 cy a o S) (wX12 cy a o u) t) (va_A (wX12 cy a o S) s.heap.size)) ([.ref (a o), .int p1, .int p2] : List Value).toArray s 0 0 (va_A (wX12 cy a o S) s.heap.size)) (F0 m 17 ls [.ref (a o)]) := by
    intro ls h hl
    rw [hj12] at h
    refine lv_iconst (v := (1 : Int32)) hx hb dX12_abstain_17 (by decide) ?_
    refine lv_goto (tgt := 35) hx hb dX12_abstain_18 (by decide) ?_
    exact Jj4 (1 : Int32) ls h (lv_sub hl [0, 1, 2] rfl)
  refine lv_if_eq (tgt := 17) hx hb dX12_abstain_6 (by decide) (fun cc => ?_) (fun cc => ?_)
  · have h := ite_p cc h
    exact Jj12  ls h (lv_sub hl [0, 1, 2] rfl)
  · have h := ite_n cc h
    refine lv_aload_n hx hb dX12_abstain_9 rfl (lv_at hl 0 rfl) ?_
    refine lv_iload_n hx hb dX12_abstain_10 rfl (lv_at hl 2 rfl) ?_
    obtain ⟨x13, e14, h⟩ := bd_some h
    refine pcV (As := [.int p2]) (rest := [.ref (a o)]) (q0 := 0) (qX12_isEntrant l D cy a o S p2 x13 e14) ⟨hx, hb, hml, hown, hts⟩ (cwV 1 hts gX12_abstain_X12_isEntrant rfl rfl rfl (by decide +kernel) ⟨Nat.le_of_ble_eq_true rfl, Nat.le_of_ble_eq_true rfl⟩) hG hP rfl rfl rfl hl.1 rfl (Nat.le_of_ble_eq_true rfl) dX12_abstain_11 ⟨Nat.zero_le _, Nat.zero_le _⟩ ?_
    refine lv_if_ne (tgt := 21) hx hb dX12_abstain_14 (by decide) (fun cc => ?_) (fun cc => ?_)
    · have h := ite_n cc h
      refine lv_aload_n hx hb dX12_abstain_21 rfl (lv_at hl 0 rfl) ?_
      refine lv_iload_n hx hb dX12_abstain_22 rfl (lv_at hl 1 rfl) ?_
      refine lv_iload_n hx hb dX12_abstain_23 rfl (lv_at hl 2 rfl) ?_
      obtain ⟨x15, e16, h⟩ := bd_some h
      refine pcV (As := [.int p1, .int p2]) (rest := [.ref (a o)]) (q0 := 0) (qX12_mayMark l D cy a o S p1 p2 x15 e16) ⟨hx, hb, hml, hown, hts⟩ (cwV 2 hts gX12_abstain_X12_mayMark rfl rfl rfl (by decide +kernel) ⟨Nat.le_of_ble_eq_true rfl, Nat.le_of_ble_eq_true rfl⟩) hG hP rfl rfl rfl hl.1 rfl (Nat.le_of_ble_eq_true rfl) dX12_abstain_24 ⟨Nat.zero_le _, Nat.zero_le _⟩ ?_
      refine lv_if_eq (tgt := 34) hx hb dX12_abstain_27 (by decide) (fun cc => ?_) (fun cc => ?_)
      · have h := ite_p cc h
        refine lv_iconst (v := (2 : Int32)) hx hb dX12_abstain_34 (by decide) ?_
        exact Jj4 (2 : Int32) ls h (lv_sub hl [0, 1, 2] rfl)
      · have h := ite_n cc h
        refine lv_iconst (v := (0 : Int32)) hx hb dX12_abstain_30 (by decide) ?_
        refine lv_goto (tgt := 35) hx hb dX12_abstain_31 (by decide) ?_
        exact Jj4 (0 : Int32) ls h (lv_sub hl [0, 1, 2] rfl)
    · have h := ite_p cc h
      exact Jj12  ls h (lv_sub hl [0, 1, 2] rfl)
set_option maxHeartbeats 4000000 in
set_option maxRecDepth 100000 in
theorem qX12_scoreFor (l : Launch) (D : va_G) (cy : Nat → ClassId) (a : Nat → Nat) (o : Nat) (S : SX12) (p1 : Int32) (p2 : Int32) (rs : Int32) (h : DX12_scoreFor S p1 p2 = some rs) : Met l yX12_scoreFor wsX12_scoreFor ({ frames := 5, cells := 0, slots := 0, locals := 118 } : Room) (va_Pc [.ref (a o), .int p1, .int p2] (fun U => va_P D vwCl (wX12 cy a o S) U.heap ∧ gK D cy U)) (vp_Si (fun z => z = rs)) 0 0 (fun _ => False) := by
  refine Met.ofW (cc := cX12_scoreFor) (maxL := 3) (ret := (some .int)) (by decide) rfl ?_
  intro p e s m args below meth c s₁ B hml hv
  obtain ⟨rfl, hP, hG⟩ := hv
  have hx := B.exec
  have hb := B.bytes
  have hr := B.returns
  have hts := atoms_spec (ws := wsX12_scoreFor) B.pre
  have hown : s.vm.findClass RX12 = some m.cls := findClass_of_methodNamed B.named
  have hlocks := B.notSynchronized
  have hK := hG.1
  have hl := lv_entry ([.ref (a o), .int p1, .int p2]) (n := 3) (Nat.le_of_ble_eq_true rfl)
  rw [lg_entry_eq]
  generalize (lg_sl ([.ref (a o), .int p1, .int p2]) ++ List.replicate (3 - (lg_sl ([.ref (a o), .int p1, .int p2])).length) Slot.unset).toArray = ls at hl ⊢
  have hl : lv_has ls 3 [(0, .ref (a o)), (1, .int p1), (2, .int p2)] := hl
  rw [DX12_scoreFor] at h
  refine lv_iload_n hx hb dX12_scoreFor_0 rfl (lv_at hl 1 rfl) ?_
  refine lv_sipush (v := (486 : Int32)) hx hb dX12_scoreFor_1 (by decide) ?_
  obtain ⟨j2, hj2, h⟩ := jn_elim h
  have Jj2 : ∀ (x1 : Int32) (ls : Array Slot), j2 x1 = some rs → lv_has ls 3 [] → W p l e (headSpec wsX12_scoreFor ({ frames := 5, cells := 0, slots := 0, locals := 118 } : Room)).room s m ([.ref (a o), .int p1, .int p2] : List Value).toArray below meth c s.heap [] 0 0 (MQ below (vp_Si (fun z => z = rs)) ([.ref (a o), .int p1, .int p2] : List Value).toArray s 0 0 (fun _ => False)) (F0 m 24 ls [.int x1]) := by
    intro x1 ls h hl
    rw [hj2] at h
    exact W.iret (v := x1) hx hb hr (fun t ht hW => ⟨x1, rfl, some_in h, ht⟩) (fun q hq => nomatch hq) dX12_scoreFor_24
  refine lv_icmp_ne (tgt := 15) hx hb dX12_scoreFor_4 (by decide) (fun cc => ?_) (fun cc => ?_)
  · have h := ite_n cc h
    refine lv_aload_n hx hb dX12_scoreFor_15 rfl (lv_at hl 0 rfl) ?_
    refine lv_sipush (v := (570 : Int32)) hx hb dX12_scoreFor_16 (by decide) ?_
    refine lv_iload_n hx hb dX12_scoreFor_19 rfl (lv_at hl 2 rfl) ?_
    refine lv_iconst (v := (-1 : Int32)) hx hb dX12_scoreFor_20 (by decide) ?_
    obtain ⟨x3, e4, h⟩ := bd_some h
    refine pcV (As := [.int (570 : Int32), .int p2, .int (-1 : Int32)]) (rest := []) (q0 := 0) (qX12_mean l D cy a o S (570 : Int32) p2 (-1 : Int32) x3 e4) ⟨hx, hb, hml, hown, hts⟩ (cwV 3 hts gX12_scoreFor_X12_mean rfl rfl rfl (by decide +kernel) ⟨Nat.le_of_ble_eq_true rfl, Nat.le_of_ble_eq_true rfl⟩) hG hP rfl rfl rfl hl.1 rfl (Nat.le_of_ble_eq_true rfl) dX12_scoreFor_21 ⟨Nat.zero_le _, Nat.zero_le _⟩ ?_
    exact Jj2 x3 ls h (lv_sub hl [] rfl)
  · have h := ite_p cc h
    refine lv_aload_n hx hb dX12_scoreFor_7 rfl (lv_at hl 0 rfl) ?_
    refine lv_iload_n hx hb dX12_scoreFor_8 rfl (lv_at hl 2 rfl) ?_
    obtain ⟨x5, e6, h⟩ := bd_some h
    refine pcV (As := [.int p2]) (rest := []) (q0 := 0) (qX12_scoreOf l D cy a o S p2 x5 e6) ⟨hx, hb, hml, hown, hts⟩ (cwV 1 hts gX12_scoreFor_X12_scoreOf rfl rfl rfl (by decide +kernel) ⟨Nat.le_of_ble_eq_true rfl, Nat.le_of_ble_eq_true rfl⟩) hG hP rfl rfl rfl hl.1 rfl (Nat.le_of_ble_eq_true rfl) dX12_scoreFor_9 ⟨Nat.zero_le _, Nat.zero_le _⟩ ?_
    refine lv_goto (tgt := 24) hx hb dX12_scoreFor_12 (by decide) ?_
    exact Jj2 x5 ls h (lv_sub hl [] rfl)
set_option maxHeartbeats 4000000 in
set_option maxRecDepth 100000 in
theorem qX12_isAmong (l : Launch) (D : va_G) (cy : Nat → ClassId) (a : Nat → Nat) (o : Nat) (S : SX12) (p1 : Int32) (p2 : Int32) (rs : Int32) (h : DX12_isAmong S p1 p2 = some rs) : Met l yX12_isAmong wsX12_isAmong ({ frames := 1, cells := 0, slots := 0, locals := 22 } : Room) (va_Pc [.ref (a o), .int p1, .int p2] (fun U => va_P D vwCl (wX12 cy a o S) U.heap ∧ gK D cy U)) (vp_Si (fun z => z = rs)) 0 0 (fun _ => False) := by
  refine Met.ofW (cc := cX12_isAmong) (maxL := 3) (ret := (some .boolean)) (by decide) rfl ?_
  intro p e s m args below meth c s₁ B hml hv
  obtain ⟨rfl, hP, hG⟩ := hv
  have hx := B.exec
  have hb := B.bytes
  have hr := B.returns
  have hts := atoms_spec (ws := wsX12_isAmong) B.pre
  have hown : s.vm.findClass RX12 = some m.cls := findClass_of_methodNamed B.named
  have hlocks := B.notSynchronized
  have hK := hG.1
  have hinX12 := (by decide +kernel : ∀ w ∈ wsX120, w ∈ wsX12_isAmong)
  have hf7 := hts (.fieldLink RX12 7 "PianoRoundsModel" "m" "[I") (by decide +kernel)
  have hl := lv_entry ([.ref (a o), .int p1, .int p2]) (n := 3) (Nat.le_of_ble_eq_true rfl)
  rw [lg_entry_eq]
  generalize (lg_sl ([.ref (a o), .int p1, .int p2]) ++ List.replicate (3 - (lg_sl ([.ref (a o), .int p1, .int p2])).length) Slot.unset).toArray = ls at hl ⊢
  have hl : lv_has ls 3 [(0, .ref (a o)), (1, .int p1), (2, .int p2)] := hl
  rw [DX12_isAmong] at h
  refine lv_iload_n hx hb dX12_isAmong_0 rfl (lv_at hl 1 rfl) ?_
  refine lv_sipush (v := (486 : Int32)) hx hb dX12_isAmong_1 (by decide) ?_
  obtain ⟨j2, hj2, h⟩ := jn_elim h
  have Jj2 : ∀ (x1 : Int32) (ls : Array Slot), j2 x1 = some rs → lv_has ls 3 [] → W p l e (headSpec wsX12_isAmong ({ frames := 1, cells := 0, slots := 0, locals := 22 } : Room)).room s m ([.ref (a o), .int p1, .int p2] : List Value).toArray below meth c s.heap [] 0 0 (MQ below (vp_Si (fun z => z = rs)) ([.ref (a o), .int p1, .int p2] : List Value).toArray s 0 0 (fun _ => False)) (F0 m 43 ls [.int x1]) := by
    intro x1 ls h hl
    rw [hj2] at h
    obtain ⟨g3, h⟩ := gd_some h
    exact W.zret (v := x1) hx hb hr (zN g3) (fun t ht hW => ⟨x1, rfl, some_in h, ht⟩) (fun q hq => nomatch hq) dX12_isAmong_43
  refine lv_icmp_ne (tgt := 24) hx hb dX12_isAmong_4 (by decide) (fun cc => ?_) (fun cc => ?_)
  · have h := ite_n cc h
    refine lv_aload_n hx hb dX12_isAmong_24 rfl (lv_at hl 0 rfl) ?_
    refine va_get (D := D) (ci := 12) (v := .ref (a (o + 1))) (C := RX12) (T := TX12) (N := 12) hx hb hts hinX12 hown hK hP 0 rfl rfl 0 (by decide) hf7 (fun _ h9 => h9) rfl dX12_isAmong_25 ?_
    refine lv_sipush (v := (654 : Int32)) hx hb dX12_isAmong_28 (by decide) ?_
    refine lv_iload_n hx hb dX12_isAmong_31 rfl (lv_at hl 2 rfl) ?_
    refine lv_iadd hx hb dX12_isAmong_32 ?_
    obtain ⟨g4, h⟩ := gd_some h
    refine r_ald (f := (gX12_m S)) (n := 714) (v := ((gX12_m S) ((((654 : Int32) + p2)).toNatClampNeg))) hx hb hK hP 1 0 rfl rfl (gIn_in g4) rfl dX12_isAmong_33 ?_
    refine lv_iconst (v := (1 : Int32)) hx hb dX12_isAmong_34 (by decide) ?_
    refine lv_icmp_ne (tgt := 42) hx hb dX12_isAmong_35 (by decide) (fun cc => ?_) (fun cc => ?_)
    · have h := ite_n cc h
      refine lv_iconst (v := (0 : Int32)) hx hb dX12_isAmong_42 (by decide) ?_
      exact Jj2 (0 : Int32) ls h (lv_sub hl [] rfl)
    · have h := ite_p cc h
      refine lv_iconst (v := (1 : Int32)) hx hb dX12_isAmong_38 (by decide) ?_
      refine lv_goto (tgt := 43) hx hb dX12_isAmong_39 (by decide) ?_
      exact Jj2 (1 : Int32) ls h (lv_sub hl [] rfl)
  · have h := ite_p cc h
    refine lv_aload_n hx hb dX12_isAmong_7 rfl (lv_at hl 0 rfl) ?_
    refine lv_iload_n hx hb dX12_isAmong_8 rfl (lv_at hl 2 rfl) ?_
    obtain ⟨x5, e6, h⟩ := bd_some h
    refine pcV (As := [.int p2]) (rest := []) (q0 := 0) (qX12_placeOf l D cy a o S p2 x5 e6) ⟨hx, hb, hml, hown, hts⟩ (cwV 1 hts gX12_isAmong_X12_placeOf rfl rfl rfl (by decide +kernel) ⟨Nat.le_of_ble_eq_true rfl, Nat.le_of_ble_eq_true rfl⟩) hG hP rfl rfl rfl hl.1 rfl (Nat.le_of_ble_eq_true rfl) dX12_isAmong_9 ⟨Nat.zero_le _, Nat.zero_le _⟩ ?_
    refine lv_iconst (v := (-1 : Int32)) hx hb dX12_isAmong_12 (by decide) ?_
    refine lv_icmp_eq (tgt := 20) hx hb dX12_isAmong_13 (by decide) (fun cc => ?_) (fun cc => ?_)
    · have h := ite_p cc h
      refine lv_iconst (v := (0 : Int32)) hx hb dX12_isAmong_20 (by decide) ?_
      refine lv_goto (tgt := 43) hx hb dX12_isAmong_21 (by decide) ?_
      exact Jj2 (0 : Int32) ls h (lv_sub hl [] rfl)
    · have h := ite_n cc h
      refine lv_iconst (v := (1 : Int32)) hx hb dX12_isAmong_16 (by decide) ?_
      refine lv_goto (tgt := 43) hx hb dX12_isAmong_17 (by decide) ?_
      exact Jj2 (1 : Int32) ls h (lv_sub hl [] rfl)
set_option maxHeartbeats 4000000 in
set_option maxRecDepth 100000 in
theorem qX12_decide (l : Launch) (D : va_G) (cy : Nat → ClassId) (a : Nat → Nat) (o : Nat) (S : SX12) (p1 : Int32) (p2 : Int32) (sz : Nat) (rs : SX12) (h : DX12_decide S p1 p2 = some rs) : Met l yX12_decide wsX12_decide ({ frames := 6, cells := 0, slots := 0, locals := 140 } : Room) (mP D cy sz [.ref (a o), .int p1, .int p2] (wX12 cy a o S)) (va_Qv (fun (u : SX12) => u = rs) (fun u t => mB D sz (wX12 cy a o S) (wX12 cy a o u) t) (va_A (wX12 cy a o S) sz)) 0 0 (va_A (wX12 cy a o S) sz) := by
  refine Met.ofW (cc := cX12_decide) (maxL := 8) (ret := none) (by decide) rfl ?_
  intro p e s m args below meth c s₁ B hml hv
  obtain ⟨rfl, hsz, hP, hG, hD0⟩ := hv
  have hx := B.exec
  have hb := B.bytes
  have hr := B.returns
  have hts := atoms_spec (ws := wsX12_decide) B.pre
  have hown : s.vm.findClass RX12 = some m.cls := findClass_of_methodNamed B.named
  have hlocks := B.notSynchronized
  have hK := hG.1
  subst hsz
  have hD := hD0.self (sz := s.heap.size)
  have hA : ∀ q : Nat, s.heap.size ≤ q → (va_A (wX12 cy a o S) s.heap.size) q := fun q h => Or.inr h
  have hS : va_S (va_A (wX12 cy a o S) s.heap.size) s.heap s.heap [] := va_S.rf
  have hinX12 := (by decide +kernel : ∀ w ∈ wsX120, w ∈ wsX12_decide)
  have hf7 := hts (.fieldLink RX12 7 "PianoRoundsModel" "m" "[I") (by decide +kernel)
  have hf19 := hts (.fieldLink RX12 19 "PianoRoundsModel" "fate" "[I") (by decide +kernel)
  have hf22 := hts (.fieldLink RX12 22 "PianoRoundsModel" "fates" "[I") (by decide +kernel)
  have hl := lv_entry ([.ref (a o), .int p1, .int p2]) (n := 8) (Nat.le_of_ble_eq_true rfl)
  rw [lg_entry_eq]
  generalize (lg_sl ([.ref (a o), .int p1, .int p2]) ++ List.replicate (8 - (lg_sl ([.ref (a o), .int p1, .int p2])).length) Slot.unset).toArray = ls at hl ⊢
  have hl : lv_has ls 8 [(0, .ref (a o)), (1, .int p1), (2, .int p2)] := hl
  rw [DX12_decide] at h
  refine lv_iconst (v := (0 : Int32)) hx hb dX12_decide_0 (by decide) ?_
  refine lv_istore_n (lv' := [(3, .int (0 : Int32)), (0, .ref (a o)), (1, .int p1), (2, .int p2)]) hx hb dX12_decide_1 rfl hl (by decide) rfl (fun ls hl => ?_)
  have L65 : ∀ (c1_1 : Int32) (c2_2 : Int32) (k4 : SX12 → Option (SX12)) (hk4 : ∀ (S5 : SX12) (H : Heap) (locs : List Loc) (ls : Array Slot), k4 S5 = some rs → va_P D vwCl (wX12 cy a o S5) H → va_D (va_A (wX12 cy a o S) s.heap.size) (wX12 cy a o S5) → va_S (va_A (wX12 cy a o S) s.heap.size) s.heap H locs → lv_has ls 8 [(0, .ref (a o)), (1, .int c1_1), (2, .int c2_2)] → W p l e (headSpec wsX12_decide ({ frames := 6, cells := 0, slots := 0, locals := 140 } : Room)).room s m ([.ref (a o), .int p1, .int p2] : List Value).toArray below meth c H locs 0 0 (MQ below (va_Qv (fun (u : SX12) => u = rs) (fun u t => mB D s.heap.size (wX12 cy a o S) (wX12 cy a o u) t) (va_A (wX12 cy a o S) s.heap.size)) ([.ref (a o), .int p1, .int p2] : List Value).toArray s 0 0 (va_A (wX12 cy a o S) s.heap.size)) (F0 m 20 ls [])) (f : Nat) (v3_61 : Int32) (S3 : SX12) (H : Heap) (locs : List Loc) (ls : Array Slot), DX12_decide_L2 c1_1 c2_2 k4 f v3_61 S3 = some rs → va_P D vwCl (wX12 cy a o S3) H → va_D (va_A (wX12 cy a o S) s.heap.size) (wX12 cy a o S3) → va_S (va_A (wX12 cy a o S) s.heap.size) s.heap H locs → lv_has ls 8 [(0, .ref (a o)), (1, .int c1_1), (2, .int c2_2), (3, .int v3_61)] → W p l e (headSpec wsX12_decide ({ frames := 6, cells := 0, slots := 0, locals := 140 } : Room)).room s m ([.ref (a o), .int p1, .int p2] : List Value).toArray below meth c H locs 0 0 (MQ below (va_Qv (fun (u : SX12) => u = rs) (fun u t => mB D s.heap.size (wX12 cy a o S) (wX12 cy a o u) t) (va_A (wX12 cy a o S) s.heap.size)) ([.ref (a o), .int p1, .int p2] : List Value).toArray s 0 0 (va_A (wX12 cy a o S) s.heap.size)) (F0 m 2 ls []) := by
    intro c1_1 c2_2 k4 hk4 f
    induction f with
    | zero =>
      intro v3_61 S3 H locs ls h hP hD hS hl
      rw [DX12_decide_L2] at h
      cases h
    | succ f ih =>
      intro v3_61 S3 H locs ls h hP hD hS hl
      rw [DX12_decide_L2] at h
      refine lv_iload_n hx hb dX12_decide_2 rfl (lv_at hl 3 rfl) ?_
      refine lv_iconst (v := (3 : Int32)) hx hb dX12_decide_3 (by decide) ?_
      refine lv_icmp_ge (tgt := 20) hx hb dX12_decide_4 (by decide) (fun cc => ?_) (fun cc => ?_)
      · have h := ite_p cc h
        exact hk4 S3 H locs ls h hP hD hS (lv_sub hl [0, 1, 2] rfl)
      · have h := ite_n cc h
        refine lv_aload_n hx hb dX12_decide_7 rfl (lv_at hl 0 rfl) ?_
        refine va_get (D := D) (ci := 12) (v := .ref (a (o + 5))) (C := RX12) (T := TX12) (N := 12) hx hb hts hinX12 hown hK hP 0 rfl rfl 7 (by decide) hf22 (fun _ h9 => h9) rfl dX12_decide_8 ?_
        refine lv_iload_n hx hb dX12_decide_11 rfl (lv_at hl 3 rfl) ?_
        refine lv_iconst (v := (0 : Int32)) hx hb dX12_decide_12 (by decide) ?_
        obtain ⟨g62, h⟩ := gd_some h
        refine r_ast (f := (gX12_fates S3)) (f' := (upd (gX12_fates S3) ((v3_61).toNatClampNeg) (0 : Int32))) (n := 3) (ws' := (wX12 cy a o (uX12_fates S3 (upd (gX12_fates S3) ((v3_61).toNatClampNeg) (0 : Int32))))) hx hb hK hP hD hS 5 0 rfl rfl (gIn_in g62) rfl rfl dX12_decide_13 (fun H locs hP hD hS => ?_)
        obtain ⟨S63, eS64, h⟩ := lt_elim h
        have hP : va_P D vwCl (wX12 cy a o S63) H := by rw [eS64]; exact hP
        have hD : va_D (va_A (wX12 cy a o S) s.heap.size) (wX12 cy a o S63) := by rw [eS64]; exact hD
        refine lv_iinc (v := (v3_61 + (1 : Int32))) (lv' := [(3, .int (v3_61 + (1 : Int32))), (0, .ref (a o)), (1, .int c1_1), (2, .int c2_2)]) hx hb dX12_decide_14 hl (k := 3) rfl (by rfl) (by decide) rfl (fun ls hl => ?_)
        refine lv_goto (tgt := 2) hx hb dX12_decide_17 (by decide) ?_
        exact ih (v3_61 + (1 : Int32)) S63 H locs ls h hP hD hS (lv_sub hl [1, 2, 3, 0] rfl)
  refine L65 p1 p2 _ ?_ fu (0 : Int32) S s.heap [] ls h hP hD hS (lv_sub hl [1, 2, 3, 0] rfl)
  intro S6 H locs ls h hP hD hS hl
  refine lv_iconst (v := (0 : Int32)) hx hb dX12_decide_20 (by decide) ?_
  refine lv_istore_n (lv' := [(3, .int (0 : Int32)), (0, .ref (a o)), (1, .int p1), (2, .int p2)]) hx hb dX12_decide_21 rfl hl (by decide) rfl (fun ls hl => ?_)
  have L60 : ∀ (c1_7 : Int32) (c2_8 : Int32) (k10 : SX12 → Option (SX12)) (hk10 : ∀ (S11 : SX12) (H : Heap) (locs : List Loc) (ls : Array Slot), k10 S11 = some rs → va_P D vwCl (wX12 cy a o S11) H → va_D (va_A (wX12 cy a o S) s.heap.size) (wX12 cy a o S11) → va_S (va_A (wX12 cy a o S) s.heap.size) s.heap H locs → lv_has ls 8 [] → W p l e (headSpec wsX12_decide ({ frames := 6, cells := 0, slots := 0, locals := 140 } : Room)).room s m ([.ref (a o), .int p1, .int p2] : List Value).toArray below meth c H locs 0 0 (MQ below (va_Qv (fun (u : SX12) => u = rs) (fun u t => mB D s.heap.size (wX12 cy a o S) (wX12 cy a o u) t) (va_A (wX12 cy a o S) s.heap.size)) ([.ref (a o), .int p1, .int p2] : List Value).toArray s 0 0 (va_A (wX12 cy a o S) s.heap.size)) (F0 m 205 ls [])) (f : Nat) (v3_13 : Int32) (S9 : SX12) (H : Heap) (locs : List Loc) (ls : Array Slot), DX12_decide_L22 c1_7 c2_8 k10 f v3_13 S9 = some rs → va_P D vwCl (wX12 cy a o S9) H → va_D (va_A (wX12 cy a o S) s.heap.size) (wX12 cy a o S9) → va_S (va_A (wX12 cy a o S) s.heap.size) s.heap H locs → lv_has ls 8 [(0, .ref (a o)), (1, .int c1_7), (2, .int c2_8), (3, .int v3_13)] → W p l e (headSpec wsX12_decide ({ frames := 6, cells := 0, slots := 0, locals := 140 } : Room)).room s m ([.ref (a o), .int p1, .int p2] : List Value).toArray below meth c H locs 0 0 (MQ below (va_Qv (fun (u : SX12) => u = rs) (fun u t => mB D s.heap.size (wX12 cy a o S) (wX12 cy a o u) t) (va_A (wX12 cy a o S) s.heap.size)) ([.ref (a o), .int p1, .int p2] : List Value).toArray s 0 0 (va_A (wX12 cy a o S) s.heap.size)) (F0 m 22 ls []) := by
    intro c1_7 c2_8 k10 hk10 f
    induction f with
    | zero =>
      intro v3_13 S9 H locs ls h hP hD hS hl
      rw [DX12_decide_L22] at h
      cases h
    | succ f ih =>
      intro v3_13 S9 H locs ls h hP hD hS hl
      rw [DX12_decide_L22] at h
      refine lv_iload_n hx hb dX12_decide_22 rfl (lv_at hl 3 rfl) ?_
      refine lv_aload_n hx hb dX12_decide_23 rfl (lv_at hl 0 rfl) ?_
      refine va_get (D := D) (ci := 12) (v := .ref (a (o + 1))) (C := RX12) (T := TX12) (N := 12) hx hb hts hinX12 hown hK hP 0 rfl rfl 0 (by decide) hf7 (fun _ h9 => h9) rfl dX12_decide_24 ?_
      refine lv_bipush (v := (6 : Int32)) hx hb dX12_decide_27 (by decide) ?_
      refine r_ald (f := (gX12_m S9)) (n := 714) (v := ((gX12_m S9) 6)) hx hb hK hP 1 0 rfl rfl (vp_in_nI (n := 6) (N := 714) (by decide) (by decide)) (congrArg (gX12_m S9) (nI_clamp (n := 6) (by decide))) dX12_decide_29 ?_
      refine lv_icmp_ge (tgt := 205) hx hb dX12_decide_30 (by decide) (fun cc => ?_) (fun cc => ?_)
      · have h := ite_p cc h
        exact hk10 S9 H locs ls h hP hD hS (lv_sub hl [] rfl)
      · have h := ite_n cc h
        refine lv_iconst (v := (0 : Int32)) hx hb dX12_decide_33 (by decide) ?_
        refine lv_istore (lv' := [(4, .int (0 : Int32)), (0, .ref (a o)), (1, .int c1_7), (2, .int c2_8), (3, .int v3_13)]) hx hb dX12_decide_34 hl (by decide) rfl (fun ls hl => ?_)
        refine lv_iconst (v := (0 : Int32)) hx hb dX12_decide_36 (by decide) ?_
        refine lv_istore (lv' := [(5, .int (0 : Int32)), (4, .int (0 : Int32)), (0, .ref (a o)), (1, .int c1_7), (2, .int c2_8), (3, .int v3_13)]) hx hb dX12_decide_37 hl (by decide) rfl (fun ls hl => ?_)
        refine lv_iconst (v := (0 : Int32)) hx hb dX12_decide_39 (by decide) ?_
        refine lv_istore (lv' := [(6, .int (0 : Int32)), (5, .int (0 : Int32)), (4, .int (0 : Int32)), (0, .ref (a o)), (1, .int c1_7), (2, .int c2_8), (3, .int v3_13)]) hx hb dX12_decide_40 hl (by decide) rfl (fun ls hl => ?_)
        have L59 : ∀ (c1_14 : Int32) (c2_15 : Int32) (c3_16 : Int32) (k18 : Int32 → Int32 → SX12 → Option (SX12)) (hk18 : ∀ (v4_19 : Int32) (v5_20 : Int32) (S21 : SX12) (H : Heap) (locs : List Loc) (ls : Array Slot), k18 v4_19 v5_20 S21 = some rs → va_P D vwCl (wX12 cy a o S21) H → va_D (va_A (wX12 cy a o S) s.heap.size) (wX12 cy a o S21) → va_S (va_A (wX12 cy a o S) s.heap.size) s.heap H locs → lv_has ls 8 [(0, .ref (a o)), (1, .int c1_14), (2, .int c2_15), (3, .int c3_16), (4, .int v4_19), (5, .int v5_20)] → W p l e (headSpec wsX12_decide ({ frames := 6, cells := 0, slots := 0, locals := 140 } : Room)).room s m ([.ref (a o), .int p1, .int p2] : List Value).toArray below meth c H locs 0 0 (MQ below (va_Qv (fun (u : SX12) => u = rs) (fun u t => mB D s.heap.size (wX12 cy a o S) (wX12 cy a o u) t) (va_A (wX12 cy a o S) s.heap.size)) ([.ref (a o), .int p1, .int p2] : List Value).toArray s 0 0 (va_A (wX12 cy a o S) s.heap.size)) (F0 m 131 ls [])) (f : Nat) (v4_40 : Int32) (v5_41 : Int32) (v6_42 : Int32) (S17 : SX12) (H : Heap) (locs : List Loc) (ls : Array Slot), DX12_decide_L42 c1_14 c2_15 c3_16 k18 f v4_40 v5_41 v6_42 S17 = some rs → va_P D vwCl (wX12 cy a o S17) H → va_D (va_A (wX12 cy a o S) s.heap.size) (wX12 cy a o S17) → va_S (va_A (wX12 cy a o S) s.heap.size) s.heap H locs → lv_has ls 8 [(0, .ref (a o)), (1, .int c1_14), (2, .int c2_15), (3, .int c3_16), (4, .int v4_40), (5, .int v5_41), (6, .int v6_42)] → W p l e (headSpec wsX12_decide ({ frames := 6, cells := 0, slots := 0, locals := 140 } : Room)).room s m ([.ref (a o), .int p1, .int p2] : List Value).toArray below meth c H locs 0 0 (MQ below (va_Qv (fun (u : SX12) => u = rs) (fun u t => mB D s.heap.size (wX12 cy a o S) (wX12 cy a o u) t) (va_A (wX12 cy a o S) s.heap.size)) ([.ref (a o), .int p1, .int p2] : List Value).toArray s 0 0 (va_A (wX12 cy a o S) s.heap.size)) (F0 m 42 ls []) := by
          intro c1_14 c2_15 c3_16 k18 hk18 f
          induction f with
          | zero =>
            intro v4_40 v5_41 v6_42 S17 H locs ls h hP hD hS hl
            rw [DX12_decide_L42] at h
            cases h
          | succ f ih =>
            intro v4_40 v5_41 v6_42 S17 H locs ls h hP hD hS hl
            rw [DX12_decide_L42] at h
            refine lv_iload hx hb dX12_decide_42 (lv_at hl 6 rfl) ?_
            refine lv_aload_n hx hb dX12_decide_44 rfl (lv_at hl 0 rfl) ?_
            refine va_get (D := D) (ci := 12) (v := .ref (a (o + 1))) (C := RX12) (T := TX12) (N := 12) hx hb hts hinX12 hown hK hP 0 rfl rfl 0 (by decide) hf7 (fun _ h9 => h9) rfl dX12_decide_45 ?_
            refine lv_bipush (v := (6 : Int32)) hx hb dX12_decide_48 (by decide) ?_
            refine r_ald (f := (gX12_m S17)) (n := 714) (v := ((gX12_m S17) 6)) hx hb hK hP 1 0 rfl rfl (vp_in_nI (n := 6) (N := 714) (by decide) (by decide)) (congrArg (gX12_m S17) (nI_clamp (n := 6) (by decide))) dX12_decide_50 ?_
            refine lv_icmp_ge (tgt := 131) hx hb dX12_decide_51 (by decide) (fun cc => ?_) (fun cc => ?_)
            · have h := ite_p cc h
              exact hk18 v4_40 v5_41 S17 H locs ls h hP hD hS (lv_sub hl [0, 1, 2, 3, 4, 5] rfl)
            · have h := ite_n cc h
              refine lv_aload_n hx hb dX12_decide_54 rfl (lv_at hl 0 rfl) ?_
              refine lv_iload_n hx hb dX12_decide_55 rfl (lv_at hl 1 rfl) ?_
              refine lv_iload hx hb dX12_decide_56 (lv_at hl 6 rfl) ?_
              obtain ⟨x43, e44, h⟩ := bd_some h
              refine pcV (As := [.int c1_14, .int v6_42]) (rest := []) (q0 := 0) (qX12_isAmong l D cy a o S17 c1_14 v6_42 x43 e44) ⟨hx, hb, hml, hown, hts⟩ (cwV 2 hts gX12_decide_X12_isAmong rfl rfl rfl (by decide +kernel) ⟨Nat.le_of_ble_eq_true rfl, Nat.le_of_ble_eq_true rfl⟩) hG hP rfl rfl rfl hl.1 rfl (Nat.le_of_ble_eq_true rfl) dX12_decide_58 ⟨Nat.zero_le _, Nat.zero_le _⟩ ?_
              refine lv_istore (lv' := [(7, .int x43), (0, .ref (a o)), (1, .int c1_14), (2, .int c2_15), (3, .int c3_16), (4, .int v4_40), (5, .int v5_41), (6, .int v6_42)]) hx hb dX12_decide_61 hl (by decide) rfl (fun ls hl => ?_)
              refine lv_iload hx hb dX12_decide_63 (lv_at hl 5 rfl) ?_
              refine lv_iload hx hb dX12_decide_65 (lv_at hl 0 rfl) ?_
              obtain ⟨j46, hj46, h⟩ := jn_elim h
              have Jj46 : ∀ (x45 : Int32) (ls : Array Slot), j46 x45 = some rs → lv_has ls 8 [(0, .ref (a o)), (1, .int c1_14), (2, .int c2_15), (3, .int c3_16), (5, .int v5_41), (6, .int v6_42), (7, .int x43)] → W p l e (headSpec wsX12_decide ({ frames := 6, cells := 0, slots := 0, locals := 140 } : Room)).room s m ([.ref (a o), .int p1, .int p2] : List Value).toArray below meth c H locs 0 0 (MQ below (va_Qv (fun (u : SX12) => u = rs) (fun u t => mB D s.heap.size (wX12 cy a o S) (wX12 cy a o u) t) (va_A (wX12 cy a o S) s.heap.size)) ([.ref (a o), .int p1, .int p2] : List Value).toArray s 0 0 (va_A (wX12 cy a o S) s.heap.size)) (F0 m 91 ls [.int x45, .int v4_40]) := by
                intro x45 ls h hl
                rw [hj46] at h
                refine lv_iadd hx hb dX12_decide_91 ?_
                refine lv_istore (lv' := [(4, .int (v4_40 + x45)), (0, .ref (a o)), (1, .int c1_14), (2, .int c2_15), (3, .int c3_16), (5, .int v5_41), (6, .int v6_42), (7, .int x43)]) hx hb dX12_decide_92 hl (by decide) rfl (fun ls hl => ?_)
                refine lv_iload hx hb dX12_decide_94 (lv_at hl 5 rfl) ?_
                refine lv_iload hx hb dX12_decide_96 (lv_at hl 7 rfl) ?_
                obtain ⟨j48, hj48, h⟩ := jn_elim h
                have Jj48 : ∀ (x47 : Int32) (ls : Array Slot), j48 x47 = some rs → lv_has ls 8 [(0, .ref (a o)), (1, .int c1_14), (2, .int c2_15), (3, .int c3_16), (4, .int (v4_40 + x45)), (6, .int v6_42)] → W p l e (headSpec wsX12_decide ({ frames := 6, cells := 0, slots := 0, locals := 140 } : Room)).room s m ([.ref (a o), .int p1, .int p2] : List Value).toArray below meth c H locs 0 0 (MQ below (va_Qv (fun (u : SX12) => u = rs) (fun u t => mB D s.heap.size (wX12 cy a o S) (wX12 cy a o u) t) (va_A (wX12 cy a o S) s.heap.size)) ([.ref (a o), .int p1, .int p2] : List Value).toArray s 0 0 (va_A (wX12 cy a o S) s.heap.size)) (F0 m 122 ls [.int x47, .int v5_41]) := by
                  intro x47 ls h hl
                  rw [hj48] at h
                  refine lv_iadd hx hb dX12_decide_122 ?_
                  refine lv_istore (lv' := [(5, .int (v5_41 + x47)), (0, .ref (a o)), (1, .int c1_14), (2, .int c2_15), (3, .int c3_16), (4, .int (v4_40 + x45)), (6, .int v6_42)]) hx hb dX12_decide_123 hl (by decide) rfl (fun ls hl => ?_)
                  refine lv_iinc (v := (v6_42 + (1 : Int32))) (lv' := [(6, .int (v6_42 + (1 : Int32))), (5, .int (v5_41 + x47)), (0, .ref (a o)), (1, .int c1_14), (2, .int c2_15), (3, .int c3_16), (4, .int (v4_40 + x45))]) hx hb dX12_decide_125 hl (k := 6) rfl (by rfl) (by decide) rfl (fun ls hl => ?_)
                  refine lv_goto (tgt := 42) hx hb dX12_decide_128 (by decide) ?_
                  exact ih (v4_40 + x45) (v5_41 + x47) (v6_42 + (1 : Int32)) S17 H locs ls h hP hD hS (lv_sub hl [2, 3, 4, 5, 6, 1, 0] rfl)
                obtain ⟨j49, hj49, h⟩ := jn_elim h
                have Jj49 : ∀ (ls : Array Slot), j49 () = some rs → lv_has ls 8 [(0, .ref (a o)), (1, .int c1_14), (2, .int c2_15), (3, .int c3_16), (4, .int (v4_40 + x45)), (6, .int v6_42)] → W p l e (headSpec wsX12_decide ({ frames := 6, cells := 0, slots := 0, locals := 140 } : Room)).room s m ([.ref (a o), .int p1, .int p2] : List Value).toArray below meth c H locs 0 0 (MQ below (va_Qv (fun (u : SX12) => u = rs) (fun u t => mB D s.heap.size (wX12 cy a o S) (wX12 cy a o u) t) (va_A (wX12 cy a o S) s.heap.size)) ([.ref (a o), .int p1, .int p2] : List Value).toArray s 0 0 (va_A (wX12 cy a o S) s.heap.size)) (F0 m 121 ls [.int v5_41]) := by
                  intro ls h hl
                  rw [hj49] at h
                  refine lv_iconst (v := (0 : Int32)) hx hb dX12_decide_121 (by decide) ?_
                  exact Jj48 (0 : Int32) ls h (lv_sub hl [0, 1, 2, 3, 4, 5] rfl)
                refine lv_if_eq (tgt := 121) hx hb dX12_decide_98 (by decide) (fun cc => ?_) (fun cc => ?_)
                · have h := ite_p cc h
                  exact Jj49  ls h (lv_sub hl [1, 2, 3, 4, 0, 6] rfl)
                · have h := ite_n cc h
                  refine lv_aload_n hx hb dX12_decide_101 rfl (lv_at hl 1 rfl) ?_
                  refine lv_iload_n hx hb dX12_decide_102 rfl (lv_at hl 2 rfl) ?_
                  refine lv_iload hx hb dX12_decide_103 (lv_at hl 6 rfl) ?_
                  obtain ⟨x50, e51, h⟩ := bd_some h
                  refine pcV (As := [.int c1_14, .int v6_42]) (rest := [.int v5_41]) (q0 := 0) (qX12_scoreFor l D cy a o S17 c1_14 v6_42 x50 e51) ⟨hx, hb, hml, hown, hts⟩ (cwV 2 hts gX12_decide_X12_scoreFor rfl rfl rfl (by decide +kernel) ⟨Nat.le_of_ble_eq_true rfl, Nat.le_of_ble_eq_true rfl⟩) hG hP rfl rfl rfl hl.1 rfl (Nat.le_of_ble_eq_true rfl) dX12_decide_105 ⟨Nat.zero_le _, Nat.zero_le _⟩ ?_
                  refine lv_aload_n hx hb dX12_decide_108 rfl (lv_at hl 1 rfl) ?_
                  refine lv_iload_n hx hb dX12_decide_109 rfl (lv_at hl 2 rfl) ?_
                  refine lv_iload_n hx hb dX12_decide_110 rfl (lv_at hl 4 rfl) ?_
                  obtain ⟨x52, e53, h⟩ := bd_some h
                  refine pcV (As := [.int c1_14, .int c3_16]) (rest := [.int x50, .int v5_41]) (q0 := 0) (qX12_scoreFor l D cy a o S17 c1_14 c3_16 x52 e53) ⟨hx, hb, hml, hown, hts⟩ (cwV 2 hts gX12_decide_X12_scoreFor rfl rfl rfl (by decide +kernel) ⟨Nat.le_of_ble_eq_true rfl, Nat.le_of_ble_eq_true rfl⟩) hG hP rfl rfl rfl hl.1 rfl (Nat.le_of_ble_eq_true rfl) dX12_decide_111 ⟨Nat.zero_le _, Nat.zero_le _⟩ ?_
                  refine lv_icmp_ne (tgt := 121) hx hb dX12_decide_114 (by decide) (fun cc => ?_) (fun cc => ?_)
                  · have h := ite_n cc h
                    exact Jj49  ls h (lv_sub hl [1, 2, 3, 4, 0, 6] rfl)
                  · have h := ite_p cc h
                    refine lv_iconst (v := (1 : Int32)) hx hb dX12_decide_117 (by decide) ?_
                    refine lv_goto (tgt := 122) hx hb dX12_decide_118 (by decide) ?_
                    exact Jj48 (1 : Int32) ls h (lv_sub hl [1, 2, 3, 4, 0, 6] rfl)
              obtain ⟨j54, hj54, h⟩ := jn_elim h
              have Jj54 : ∀ (ls : Array Slot), j54 () = some rs → lv_has ls 8 [(0, .ref (a o)), (1, .int c1_14), (2, .int c2_15), (3, .int c3_16), (5, .int v5_41), (6, .int v6_42), (7, .int x43)] → W p l e (headSpec wsX12_decide ({ frames := 6, cells := 0, slots := 0, locals := 140 } : Room)).room s m ([.ref (a o), .int p1, .int p2] : List Value).toArray below meth c H locs 0 0 (MQ below (va_Qv (fun (u : SX12) => u = rs) (fun u t => mB D s.heap.size (wX12 cy a o S) (wX12 cy a o u) t) (va_A (wX12 cy a o S) s.heap.size)) ([.ref (a o), .int p1, .int p2] : List Value).toArray s 0 0 (va_A (wX12 cy a o S) s.heap.size)) (F0 m 90 ls [.int v4_40]) := by
                intro ls h hl
                rw [hj54] at h
                refine lv_iconst (v := (0 : Int32)) hx hb dX12_decide_90 (by decide) ?_
                exact Jj46 (0 : Int32) ls h (lv_sub hl [0, 1, 2, 3, 4, 5, 6] rfl)
              refine lv_if_eq (tgt := 90) hx hb dX12_decide_67 (by decide) (fun cc => ?_) (fun cc => ?_)
              · have h := ite_p cc h
                exact Jj54  ls h (lv_sub hl [1, 2, 3, 4, 6, 7, 0] rfl)
              · have h := ite_n cc h
                refine lv_aload_n hx hb dX12_decide_70 rfl (lv_at hl 1 rfl) ?_
                refine lv_iload_n hx hb dX12_decide_71 rfl (lv_at hl 2 rfl) ?_
                refine lv_iload hx hb dX12_decide_72 (lv_at hl 7 rfl) ?_
                obtain ⟨x55, e56, h⟩ := bd_some h
                refine pcV (As := [.int c1_14, .int v6_42]) (rest := [.int v4_40]) (q0 := 0) (qX12_scoreFor l D cy a o S17 c1_14 v6_42 x55 e56) ⟨hx, hb, hml, hown, hts⟩ (cwV 2 hts gX12_decide_X12_scoreFor rfl rfl rfl (by decide +kernel) ⟨Nat.le_of_ble_eq_true rfl, Nat.le_of_ble_eq_true rfl⟩) hG hP rfl rfl rfl hl.1 rfl (Nat.le_of_ble_eq_true rfl) dX12_decide_74 ⟨Nat.zero_le _, Nat.zero_le _⟩ ?_
                refine lv_aload_n hx hb dX12_decide_77 rfl (lv_at hl 1 rfl) ?_
                refine lv_iload_n hx hb dX12_decide_78 rfl (lv_at hl 2 rfl) ?_
                refine lv_iload_n hx hb dX12_decide_79 rfl (lv_at hl 4 rfl) ?_
                obtain ⟨x57, e58, h⟩ := bd_some h
                refine pcV (As := [.int c1_14, .int c3_16]) (rest := [.int x55, .int v4_40]) (q0 := 0) (qX12_scoreFor l D cy a o S17 c1_14 c3_16 x57 e58) ⟨hx, hb, hml, hown, hts⟩ (cwV 2 hts gX12_decide_X12_scoreFor rfl rfl rfl (by decide +kernel) ⟨Nat.le_of_ble_eq_true rfl, Nat.le_of_ble_eq_true rfl⟩) hG hP rfl rfl rfl hl.1 rfl (Nat.le_of_ble_eq_true rfl) dX12_decide_80 ⟨Nat.zero_le _, Nat.zero_le _⟩ ?_
                refine lv_icmp_le (tgt := 90) hx hb dX12_decide_83 (by decide) (fun cc => ?_) (fun cc => ?_)
                · have h := ite_p cc h
                  exact Jj54  ls h (lv_sub hl [1, 2, 3, 4, 6, 7, 0] rfl)
                · have h := ite_n cc h
                  refine lv_iconst (v := (1 : Int32)) hx hb dX12_decide_86 (by decide) ?_
                  refine lv_goto (tgt := 91) hx hb dX12_decide_87 (by decide) ?_
                  exact Jj46 (1 : Int32) ls h (lv_sub hl [1, 2, 3, 4, 6, 7, 0] rfl)
        refine L59 c1_7 c2_8 v3_13 _ ?_ fu (0 : Int32) (0 : Int32) (0 : Int32) S9 H locs ls h hP hD hS (lv_sub hl [3, 4, 5, 6, 2, 1, 0] rfl)
        intro v4_22 v5_23 S24 H locs ls h hP hD hS hl
        refine lv_aload_n hx hb dX12_decide_131 rfl (lv_at hl 0 rfl) ?_
        refine va_get (D := D) (ci := 12) (v := .ref (a (o + 4))) (C := RX12) (T := TX12) (N := 12) hx hb hts hinX12 hown hK hP 0 rfl rfl 6 (by decide) hf19 (fun _ h9 => h9) rfl dX12_decide_132 ?_
        refine lv_iload_n hx hb dX12_decide_135 rfl (lv_at hl 3 rfl) ?_
        refine lv_aload_n hx hb dX12_decide_136 rfl (lv_at hl 0 rfl) ?_
        refine lv_iload_n hx hb dX12_decide_137 rfl (lv_at hl 1 rfl) ?_
        refine lv_iload_n hx hb dX12_decide_138 rfl (lv_at hl 3 rfl) ?_
        obtain ⟨x25, e26, h⟩ := bd_some h
        refine pcV (As := [.int c1_7, .int v3_13]) (rest := [.int v3_13, .ref (a (o + 4))]) (q0 := 0) (qX12_isAmong l D cy a o S24 c1_7 v3_13 x25 e26) ⟨hx, hb, hml, hown, hts⟩ (cwV 2 hts gX12_decide_X12_isAmong rfl rfl rfl (by decide +kernel) ⟨Nat.le_of_ble_eq_true rfl, Nat.le_of_ble_eq_true rfl⟩) hG hP rfl rfl rfl hl.1 rfl (Nat.le_of_ble_eq_true rfl) dX12_decide_139 ⟨Nat.zero_le _, Nat.zero_le _⟩ ?_
        obtain ⟨j28, hj28, h⟩ := jn_elim h
        have Jj28 : ∀ (x27 : Int32) (ls : Array Slot), j28 x27 = some rs → lv_has ls 8 [(0, .ref (a o)), (1, .int c1_7), (2, .int c2_8), (3, .int v3_13)] → W p l e (headSpec wsX12_decide ({ frames := 6, cells := 0, slots := 0, locals := 140 } : Room)).room s m ([.ref (a o), .int p1, .int p2] : List Value).toArray below meth c H locs 0 0 (MQ below (va_Qv (fun (u : SX12) => u = rs) (fun u t => mB D s.heap.size (wX12 cy a o S) (wX12 cy a o u) t) (va_A (wX12 cy a o S) s.heap.size)) ([.ref (a o), .int p1, .int p2] : List Value).toArray s 0 0 (va_A (wX12 cy a o S) s.heap.size)) (F0 m 173 ls [.int x27, .int v3_13, .ref (a (o + 4))]) := by
          intro x27 ls h hl
          rw [hj28] at h
          obtain ⟨g29, h⟩ := gd_some h
          refine r_ast (f := (gX12_fate S24)) (f' := (upd (gX12_fate S24) ((v3_13).toNatClampNeg) x27)) (n := 12) (ws' := (wX12 cy a o (uX12_fate S24 (upd (gX12_fate S24) ((v3_13).toNatClampNeg) x27)))) hx hb hK hP hD hS 4 0 rfl rfl (gIn_in g29) rfl rfl dX12_decide_173 (fun H locs hP hD hS => ?_)
          obtain ⟨S30, eS31, h⟩ := lt_elim h
          have hP : va_P D vwCl (wX12 cy a o S30) H := by rw [eS31]; exact hP
          have hD : va_D (va_A (wX12 cy a o S) s.heap.size) (wX12 cy a o S30) := by rw [eS31]; exact hD
          refine lv_aload_n hx hb dX12_decide_174 rfl (lv_at hl 0 rfl) ?_
          refine va_get (D := D) (ci := 12) (v := .ref (a (o + 4))) (C := RX12) (T := TX12) (N := 12) hx hb hts hinX12 hown hK hP 0 rfl rfl 6 (by decide) hf19 (fun _ h9 => h9) rfl dX12_decide_175 ?_
          refine lv_iload_n hx hb dX12_decide_178 rfl (lv_at hl 3 rfl) ?_
          obtain ⟨g32, h⟩ := gd_some h
          refine r_ald (f := (gX12_fate S30)) (n := 12) (v := ((gX12_fate S30) ((v3_13).toNatClampNeg))) hx hb hK hP 4 0 rfl rfl (gIn_in g32) rfl dX12_decide_179 ?_
          refine lv_iconst (v := (-1 : Int32)) hx hb dX12_decide_180 (by decide) ?_
          obtain ⟨j34, hj34, h⟩ := jn_elim h
          have Jj34 : ∀ (S33 : SX12) (H : Heap) (locs : List Loc) (ls : Array Slot), j34 S33 = some rs → va_P D vwCl (wX12 cy a o S33) H → va_D (va_A (wX12 cy a o S) s.heap.size) (wX12 cy a o S33) → va_S (va_A (wX12 cy a o S) s.heap.size) s.heap H locs → lv_has ls 8 [(0, .ref (a o)), (1, .int c1_7), (2, .int c2_8), (3, .int v3_13)] → W p l e (headSpec wsX12_decide ({ frames := 6, cells := 0, slots := 0, locals := 140 } : Room)).room s m ([.ref (a o), .int p1, .int p2] : List Value).toArray below meth c H locs 0 0 (MQ below (va_Qv (fun (u : SX12) => u = rs) (fun u t => mB D s.heap.size (wX12 cy a o S) (wX12 cy a o u) t) (va_A (wX12 cy a o S) s.heap.size)) ([.ref (a o), .int p1, .int p2] : List Value).toArray s 0 0 (va_A (wX12 cy a o S) s.heap.size)) (F0 m 199 ls []) := by
            intro S33 H locs ls h hP hD hS hl
            rw [hj34] at h
            refine lv_iinc (v := (v3_13 + (1 : Int32))) (lv' := [(3, .int (v3_13 + (1 : Int32))), (0, .ref (a o)), (1, .int c1_7), (2, .int c2_8)]) hx hb dX12_decide_199 hl (k := 3) rfl (by rfl) (by decide) rfl (fun ls hl => ?_)
            refine lv_goto (tgt := 22) hx hb dX12_decide_202 (by decide) ?_
            exact ih (v3_13 + (1 : Int32)) S33 H locs ls h hP hD hS (lv_sub hl [1, 2, 3, 0] rfl)
          refine lv_icmp_eq (tgt := 199) hx hb dX12_decide_181 (by decide) (fun cc => ?_) (fun cc => ?_)
          · have h := ite_p cc h
            exact Jj34 S30 H locs ls h hP hD hS (lv_sub hl [0, 1, 2, 3] rfl)
          · have h := ite_n cc h
            refine lv_aload_n hx hb dX12_decide_184 rfl (lv_at hl 0 rfl) ?_
            refine va_get (D := D) (ci := 12) (v := .ref (a (o + 5))) (C := RX12) (T := TX12) (N := 12) hx hb hts hinX12 hown hK hP 0 rfl rfl 7 (by decide) hf22 (fun _ h9 => h9) rfl dX12_decide_185 ?_
            refine lv_aload_n hx hb dX12_decide_188 rfl (lv_at hl 0 rfl) ?_
            refine va_get (D := D) (ci := 12) (v := .ref (a (o + 4))) (C := RX12) (T := TX12) (N := 12) hx hb hts hinX12 hown hK hP 0 rfl rfl 6 (by decide) hf19 (fun _ h9 => h9) rfl dX12_decide_189 ?_
            refine lv_iload_n hx hb dX12_decide_192 rfl (lv_at hl 3 rfl) ?_
            obtain ⟨g35, h⟩ := gd_some h
            refine r_ald (f := (gX12_fate S30)) (n := 12) (v := ((gX12_fate S30) ((v3_13).toNatClampNeg))) hx hb hK hP 4 0 rfl rfl (gIn_in g35) rfl dX12_decide_193 ?_
            refine lv_dup2_11 hx hb dX12_decide_194 rfl rfl ?_
            obtain ⟨g36, h⟩ := gd_some h
            refine r_ald (f := (gX12_fates S30)) (n := 3) (v := ((gX12_fates S30) ((((gX12_fate S30) ((v3_13).toNatClampNeg))).toNatClampNeg))) hx hb hK hP 5 0 rfl rfl (gIn_in g36) rfl dX12_decide_195 ?_
            refine lv_iconst (v := (1 : Int32)) hx hb dX12_decide_196 (by decide) ?_
            refine lv_iadd hx hb dX12_decide_197 ?_
            obtain ⟨g37, h⟩ := gd_some h
            refine r_ast (f := (gX12_fates S30)) (f' := (upd (gX12_fates S30) ((((gX12_fate S30) ((v3_13).toNatClampNeg))).toNatClampNeg) (((gX12_fates S30) ((((gX12_fate S30) ((v3_13).toNatClampNeg))).toNatClampNeg)) + (1 : Int32)))) (n := 3) (ws' := (wX12 cy a o (uX12_fates S30 (upd (gX12_fates S30) ((((gX12_fate S30) ((v3_13).toNatClampNeg))).toNatClampNeg) (((gX12_fates S30) ((((gX12_fate S30) ((v3_13).toNatClampNeg))).toNatClampNeg)) + (1 : Int32)))))) hx hb hK hP hD hS 5 0 rfl rfl (gIn_in g37) rfl rfl dX12_decide_198 (fun H locs hP hD hS => ?_)
            obtain ⟨S38, eS39, h⟩ := lt_elim h
            have hP : va_P D vwCl (wX12 cy a o S38) H := by rw [eS39]; exact hP
            have hD : va_D (va_A (wX12 cy a o S) s.heap.size) (wX12 cy a o S38) := by rw [eS39]; exact hD
            exact Jj34 S38 H locs ls h hP hD hS (lv_sub hl [0, 1, 2, 3] rfl)
        refine lv_if_ne (tgt := 149) hx hb dX12_decide_142 (by decide) (fun cc => ?_) (fun cc => ?_)
        · have h := ite_n cc h
          refine lv_iload hx hb dX12_decide_149 (lv_at hl 4 rfl) ?_
          refine lv_iload hx hb dX12_decide_151 (lv_at hl 5 rfl) ?_
          refine lv_iadd hx hb dX12_decide_153 ?_
          refine lv_iload_n hx hb dX12_decide_154 rfl (lv_at hl 2 rfl) ?_
          refine lv_icmp_gt (tgt := 162) hx hb dX12_decide_155 (by decide) (fun cc => ?_) (fun cc => ?_)
          · have h := ite_p cc h
            refine lv_iload hx hb dX12_decide_162 (lv_at hl 4 rfl) ?_
            refine lv_iload_n hx hb dX12_decide_164 rfl (lv_at hl 2 rfl) ?_
            refine lv_icmp_ge (tgt := 172) hx hb dX12_decide_165 (by decide) (fun cc => ?_) (fun cc => ?_)
            · have h := ite_p cc h
              refine lv_iconst (v := (2 : Int32)) hx hb dX12_decide_172 (by decide) ?_
              exact Jj28 (2 : Int32) ls h (lv_sub hl [0, 1, 2, 3] rfl)
            · have h := ite_n cc h
              refine lv_iconst (v := (1 : Int32)) hx hb dX12_decide_168 (by decide) ?_
              refine lv_goto (tgt := 173) hx hb dX12_decide_169 (by decide) ?_
              exact Jj28 (1 : Int32) ls h (lv_sub hl [0, 1, 2, 3] rfl)
          · have h := ite_n cc h
            refine lv_iconst (v := (0 : Int32)) hx hb dX12_decide_158 (by decide) ?_
            refine lv_goto (tgt := 173) hx hb dX12_decide_159 (by decide) ?_
            exact Jj28 (0 : Int32) ls h (lv_sub hl [0, 1, 2, 3] rfl)
        · have h := ite_p cc h
          refine lv_iconst (v := (-1 : Int32)) hx hb dX12_decide_145 (by decide) ?_
          refine lv_goto (tgt := 173) hx hb dX12_decide_146 (by decide) ?_
          exact Jj28 (-1 : Int32) ls h (lv_sub hl [0, 1, 2, 3] rfl)
  refine L60 p1 p2 _ ?_ fu (0 : Int32) S6 H locs ls h hP hD hS (lv_sub hl [1, 2, 3, 0] rfl)
  intro S12 H locs ls h hP hD hS hl
  exact W.vret hx hb hr (fun t ht hW => ⟨⟨S12, rfl, some_in h, by rw [ht]; exact hP, hD⟩, hS.F ht⟩) hS.2.2 dX12_decide_205
set_option maxHeartbeats 4000000 in
set_option maxRecDepth 100000 in
theorem qX12_isClosable (l : Launch) (D : va_G) (cy : Nat → ClassId) (a : Nat → Nat) (o : Nat) (S : SX12)  (rs : Int32) (h : DX12_isClosable S = some rs) : Met l yX12_isClosable wsX12_isClosable ({ frames := 6, cells := 0, slots := 0, locals := 135 } : Room) (va_Pc [.ref (a o)] (fun U => va_P D vwCl (wX12 cy a o S) U.heap ∧ gK D cy U)) (vp_Si (fun z => z = rs)) 0 0 (fun _ => False) := by
  refine Met.ofW (cc := cX12_isClosable) (maxL := 3) (ret := (some .boolean)) (by decide) rfl ?_
  intro p e s m args below meth c s₁ B hml hv
  obtain ⟨rfl, hP, hG⟩ := hv
  have hx := B.exec
  have hb := B.bytes
  have hr := B.returns
  have hts := atoms_spec (ws := wsX12_isClosable) B.pre
  have hown : s.vm.findClass RX12 = some m.cls := findClass_of_methodNamed B.named
  have hlocks := B.notSynchronized
  have hK := hG.1
  have hinX12 := (by decide +kernel : ∀ w ∈ wsX120, w ∈ wsX12_isClosable)
  have hf7 := hts (.fieldLink RX12 7 "PianoRoundsModel" "m" "[I") (by decide +kernel)
  have hl := lv_entry ([.ref (a o)]) (n := 3) (Nat.le_of_ble_eq_true rfl)
  rw [lg_entry_eq]
  generalize (lg_sl ([.ref (a o)]) ++ List.replicate (3 - (lg_sl ([.ref (a o)])).length) Slot.unset).toArray = ls at hl ⊢
  have hl : lv_has ls 3 [(0, .ref (a o))] := hl
  rw [DX12_isClosable] at h
  refine lv_aload_n hx hb dX12_isClosable_0 rfl (lv_at hl 0 rfl) ?_
  refine va_get (D := D) (ci := 12) (v := .ref (a (o + 1))) (C := RX12) (T := TX12) (N := 12) hx hb hts hinX12 hown hK hP 0 rfl rfl 0 (by decide) hf7 (fun _ h9 => h9) rfl dX12_isClosable_1 ?_
  refine lv_iconst (v := (3 : Int32)) hx hb dX12_isClosable_4 (by decide) ?_
  refine r_ald (f := (gX12_m S)) (n := 714) (v := ((gX12_m S) 3)) hx hb hK hP 1 0 rfl rfl (vp_in_nI (n := 3) (N := 714) (by decide) (by decide)) (congrArg (gX12_m S) (nI_clamp (n := 3) (by decide))) dX12_isClosable_5 ?_
  refine lv_iconst (v := (1 : Int32)) hx hb dX12_isClosable_6 (by decide) ?_
  obtain ⟨j2, hj2, h⟩ := jn_elim h
  have Jj2 : ∀ (x1 : Int32) (ls : Array Slot), j2 x1 = some rs → lv_has ls 3 [(0, .ref (a o))] → W p l e (headSpec wsX12_isClosable ({ frames := 6, cells := 0, slots := 0, locals := 135 } : Room)).room s m ([.ref (a o)] : List Value).toArray below meth c s.heap [] 0 0 (MQ below (vp_Si (fun z => z = rs)) ([.ref (a o)] : List Value).toArray s 0 0 (fun _ => False)) (F0 m 25 ls [.int x1]) := by
    intro x1 ls h hl
    rw [hj2] at h
    refine lv_istore_n (lv' := [(1, .int x1), (0, .ref (a o))]) hx hb dX12_isClosable_25 rfl hl (by decide) rfl (fun ls hl => ?_)
    refine lv_iconst (v := (0 : Int32)) hx hb dX12_isClosable_26 (by decide) ?_
    refine lv_istore_n (lv' := [(2, .int (0 : Int32)), (1, .int x1), (0, .ref (a o))]) hx hb dX12_isClosable_27 rfl hl (by decide) rfl (fun ls hl => ?_)
    have L20 : ∀ (k3 : Int32 → Option (Int32)) (hk3 : ∀ (v1_4 : Int32) (ls : Array Slot), k3 v1_4 = some rs → lv_has ls 3 [(1, .int v1_4)] → W p l e (headSpec wsX12_isClosable ({ frames := 6, cells := 0, slots := 0, locals := 135 } : Room)).room s m ([.ref (a o)] : List Value).toArray below meth c s.heap [] 0 0 (MQ below (vp_Si (fun z => z = rs)) ([.ref (a o)] : List Value).toArray s 0 0 (fun _ => False)) (F0 m 109 ls [])) (f : Nat) (v1_7 : Int32) (v2_8 : Int32) (ls : Array Slot), DX12_isClosable_L28 S k3 f v1_7 v2_8 = some rs → lv_has ls 3 [(0, .ref (a o)), (1, .int v1_7), (2, .int v2_8)] → W p l e (headSpec wsX12_isClosable ({ frames := 6, cells := 0, slots := 0, locals := 135 } : Room)).room s m ([.ref (a o)] : List Value).toArray below meth c s.heap [] 0 0 (MQ below (vp_Si (fun z => z = rs)) ([.ref (a o)] : List Value).toArray s 0 0 (fun _ => False)) (F0 m 28 ls []) := by
      intro k3 hk3 f
      induction f with
      | zero =>
        intro v1_7 v2_8 ls h hl
        rw [DX12_isClosable_L28] at h
        cases h
      | succ f ih =>
        intro v1_7 v2_8 ls h hl
        rw [DX12_isClosable_L28] at h
        refine lv_iload_n hx hb dX12_isClosable_28 rfl (lv_at hl 2 rfl) ?_
        refine lv_aload_n hx hb dX12_isClosable_29 rfl (lv_at hl 0 rfl) ?_
        refine va_get (D := D) (ci := 12) (v := .ref (a (o + 1))) (C := RX12) (T := TX12) (N := 12) hx hb hts hinX12 hown hK hP 0 rfl rfl 0 (by decide) hf7 (fun _ h9 => h9) rfl dX12_isClosable_30 ?_
        refine lv_bipush (v := (6 : Int32)) hx hb dX12_isClosable_33 (by decide) ?_
        refine r_ald (f := (gX12_m S)) (n := 714) (v := ((gX12_m S) 6)) hx hb hK hP 1 0 rfl rfl (vp_in_nI (n := 6) (N := 714) (by decide) (by decide)) (congrArg (gX12_m S) (nI_clamp (n := 6) (by decide))) dX12_isClosable_35 ?_
        refine lv_icmp_ge (tgt := 109) hx hb dX12_isClosable_36 (by decide) (fun cc => ?_) (fun cc => ?_)
        · have h := ite_p cc h
          exact hk3 v1_7 ls h (lv_sub hl [1] rfl)
        · have h := ite_n cc h
          refine lv_iload_n hx hb dX12_isClosable_39 rfl (lv_at hl 1 rfl) ?_
          obtain ⟨j10, hj10, h⟩ := jn_elim h
          have Jj10 : ∀ (x9 : Int32) (ls : Array Slot), j10 x9 = some rs → lv_has ls 3 [(0, .ref (a o)), (2, .int v2_8)] → W p l e (headSpec wsX12_isClosable ({ frames := 6, cells := 0, slots := 0, locals := 135 } : Room)).room s m ([.ref (a o)] : List Value).toArray below meth c s.heap [] 0 0 (MQ below (vp_Si (fun z => z = rs)) ([.ref (a o)] : List Value).toArray s 0 0 (fun _ => False)) (F0 m 102 ls [.int x9]) := by
            intro x9 ls h hl
            rw [hj10] at h
            refine lv_istore_n (lv' := [(1, .int x9), (0, .ref (a o)), (2, .int v2_8)]) hx hb dX12_isClosable_102 rfl hl (by decide) rfl (fun ls hl => ?_)
            refine lv_iinc (v := (v2_8 + (1 : Int32))) (lv' := [(2, .int (v2_8 + (1 : Int32))), (1, .int x9), (0, .ref (a o))]) hx hb dX12_isClosable_103 hl (k := 2) rfl (by rfl) (by decide) rfl (fun ls hl => ?_)
            refine lv_goto (tgt := 28) hx hb dX12_isClosable_106 (by decide) ?_
            exact ih x9 (v2_8 + (1 : Int32)) ls h (lv_sub hl [2, 1, 0] rfl)
          obtain ⟨j11, hj11, h⟩ := jn_elim h
          have Jj11 : ∀ (ls : Array Slot), j11 () = some rs → lv_has ls 3 [(0, .ref (a o)), (2, .int v2_8)] → W p l e (headSpec wsX12_isClosable ({ frames := 6, cells := 0, slots := 0, locals := 135 } : Room)).room s m ([.ref (a o)] : List Value).toArray below meth c s.heap [] 0 0 (MQ below (vp_Si (fun z => z = rs)) ([.ref (a o)] : List Value).toArray s 0 0 (fun _ => False)) (F0 m 101 ls []) := by
            intro ls h hl
            rw [hj11] at h
            refine lv_iconst (v := (0 : Int32)) hx hb dX12_isClosable_101 (by decide) ?_
            exact Jj10 (0 : Int32) ls h (lv_sub hl [0, 1] rfl)
          refine lv_if_eq (tgt := 101) hx hb dX12_isClosable_40 (by decide) (fun cc => ?_) (fun cc => ?_)
          · have h := ite_p cc h
            exact Jj11  ls h (lv_sub hl [0, 2] rfl)
          · have h := ite_n cc h
            refine lv_aload_n hx hb dX12_isClosable_43 rfl (lv_at hl 0 rfl) ?_
            refine va_get (D := D) (ci := 12) (v := .ref (a (o + 1))) (C := RX12) (T := TX12) (N := 12) hx hb hts hinX12 hown hK hP 0 rfl rfl 0 (by decide) hf7 (fun _ h9 => h9) rfl dX12_isClosable_44 ?_
            refine lv_iconst (v := (3 : Int32)) hx hb dX12_isClosable_47 (by decide) ?_
            refine r_ald (f := (gX12_m S)) (n := 714) (v := ((gX12_m S) 3)) hx hb hK hP 1 0 rfl rfl (vp_in_nI (n := 3) (N := 714) (by decide) (by decide)) (congrArg (gX12_m S) (nI_clamp (n := 3) (by decide))) dX12_isClosable_48 ?_
            refine lv_iconst (v := (1 : Int32)) hx hb dX12_isClosable_49 (by decide) ?_
            obtain ⟨j12, hj12, h⟩ := jn_elim h
            have Jj12 : ∀ (ls : Array Slot), j12 () = some rs → lv_has ls 3 [(0, .ref (a o)), (2, .int v2_8)] → W p l e (headSpec wsX12_isClosable ({ frames := 6, cells := 0, slots := 0, locals := 135 } : Room)).room s m ([.ref (a o)] : List Value).toArray below meth c s.heap [] 0 0 (MQ below (vp_Si (fun z => z = rs)) ([.ref (a o)] : List Value).toArray s 0 0 (fun _ => False)) (F0 m 97 ls []) := by
              intro ls h hl
              rw [hj12] at h
              refine lv_iconst (v := (1 : Int32)) hx hb dX12_isClosable_97 (by decide) ?_
              refine lv_goto (tgt := 102) hx hb dX12_isClosable_98 (by decide) ?_
              exact Jj10 (1 : Int32) ls h (lv_sub hl [0, 1] rfl)
            refine lv_icmp_ne (tgt := 73) hx hb dX12_isClosable_50 (by decide) (fun cc => ?_) (fun cc => ?_)
            · have h := ite_n cc h
              refine lv_aload_n hx hb dX12_isClosable_73 rfl (lv_at hl 0 rfl) ?_
              refine va_get (D := D) (ci := 12) (v := .ref (a (o + 1))) (C := RX12) (T := TX12) (N := 12) hx hb hts hinX12 hown hK hP 0 rfl rfl 0 (by decide) hf7 (fun _ h9 => h9) rfl dX12_isClosable_74 ?_
              refine lv_sipush (v := (654 : Int32)) hx hb dX12_isClosable_77 (by decide) ?_
              refine lv_iload_n hx hb dX12_isClosable_80 rfl (lv_at hl 2 rfl) ?_
              refine lv_iadd hx hb dX12_isClosable_81 ?_
              obtain ⟨g13, h⟩ := gd_some h
              refine r_ald (f := (gX12_m S)) (n := 714) (v := ((gX12_m S) ((((654 : Int32) + v2_8)).toNatClampNeg))) hx hb hK hP 1 0 rfl rfl (gIn_in g13) rfl dX12_isClosable_82 ?_
              refine lv_if_eq (tgt := 97) hx hb dX12_isClosable_83 (by decide) (fun cc => ?_) (fun cc => ?_)
              · have h := ite_p cc h
                exact Jj12  ls h (lv_sub hl [0, 2] rfl)
              · have h := ite_n cc h
                refine lv_aload_n hx hb dX12_isClosable_86 rfl (lv_at hl 0 rfl) ?_
                refine lv_sipush (v := (570 : Int32)) hx hb dX12_isClosable_87 (by decide) ?_
                refine lv_iload_n hx hb dX12_isClosable_90 rfl (lv_at hl 2 rfl) ?_
                obtain ⟨x14, e15, h⟩ := bd_some h
                refine pcV (As := [.int (570 : Int32), .int v2_8]) (rest := []) (q0 := 0) (qX12_isMarked l D cy a o S (570 : Int32) v2_8 x14 e15) ⟨hx, hb, hml, hown, hts⟩ (cwV 2 hts gX12_isClosable_X12_isMarked rfl rfl rfl (by decide +kernel) ⟨Nat.le_of_ble_eq_true rfl, Nat.le_of_ble_eq_true rfl⟩) hG hP rfl rfl rfl hl.1 rfl (Nat.le_of_ble_eq_true rfl) dX12_isClosable_91 ⟨Nat.zero_le _, Nat.zero_le _⟩ ?_
                refine lv_if_eq (tgt := 101) hx hb dX12_isClosable_94 (by decide) (fun cc => ?_) (fun cc => ?_)
                · have h := ite_p cc h
                  exact Jj11  ls h (lv_sub hl [0, 2] rfl)
                · have h := ite_n cc h
                  exact Jj12  ls h (lv_sub hl [0, 2] rfl)
            · have h := ite_p cc h
              refine lv_aload_n hx hb dX12_isClosable_53 rfl (lv_at hl 0 rfl) ?_
              refine lv_iload_n hx hb dX12_isClosable_54 rfl (lv_at hl 2 rfl) ?_
              obtain ⟨x16, e17, h⟩ := bd_some h
              refine pcV (As := [.int v2_8]) (rest := []) (q0 := 0) (qX12_placeOf l D cy a o S v2_8 x16 e17) ⟨hx, hb, hml, hown, hts⟩ (cwV 1 hts gX12_isClosable_X12_placeOf rfl rfl rfl (by decide +kernel) ⟨Nat.le_of_ble_eq_true rfl, Nat.le_of_ble_eq_true rfl⟩) hG hP rfl rfl rfl hl.1 rfl (Nat.le_of_ble_eq_true rfl) dX12_isClosable_55 ⟨Nat.zero_le _, Nat.zero_le _⟩ ?_
              refine lv_iconst (v := (-1 : Int32)) hx hb dX12_isClosable_58 (by decide) ?_
              refine lv_icmp_eq (tgt := 97) hx hb dX12_isClosable_59 (by decide) (fun cc => ?_) (fun cc => ?_)
              · have h := ite_p cc h
                exact Jj12  ls h (lv_sub hl [0, 2] rfl)
              · have h := ite_n cc h
                refine lv_aload_n hx hb dX12_isClosable_62 rfl (lv_at hl 0 rfl) ?_
                refine lv_iload_n hx hb dX12_isClosable_63 rfl (lv_at hl 2 rfl) ?_
                obtain ⟨x18, e19, h⟩ := bd_some h
                refine pcV (As := [.int v2_8]) (rest := []) (q0 := 0) (qX12_isComplete l D cy a o S v2_8 x18 e19) ⟨hx, hb, hml, hown, hts⟩ (cwV 1 hts gX12_isClosable_X12_isComplete rfl rfl rfl (by decide +kernel) ⟨Nat.le_of_ble_eq_true rfl, Nat.le_of_ble_eq_true rfl⟩) hG hP rfl rfl rfl hl.1 rfl (Nat.le_of_ble_eq_true rfl) dX12_isClosable_64 ⟨Nat.zero_le _, Nat.zero_le _⟩ ?_
                refine lv_if_eq (tgt := 101) hx hb dX12_isClosable_67 (by decide) (fun cc => ?_) (fun cc => ?_)
                · have h := ite_p cc h
                  exact Jj11  ls h (lv_sub hl [0, 2] rfl)
                · have h := ite_n cc h
                  refine lv_goto (tgt := 97) hx hb dX12_isClosable_70 (by decide) ?_
                  exact Jj12  ls h (lv_sub hl [0, 2] rfl)
    refine L20  _ ?_ fu x1 (0 : Int32) ls h (lv_sub hl [2, 1, 0] rfl)
    intro v1_5 ls h hl
    refine lv_iload_n hx hb dX12_isClosable_109 rfl (lv_at hl 0 rfl) ?_
    obtain ⟨g6, h⟩ := gd_some h
    exact W.zret (v := v1_5) hx hb hr (zN g6) (fun t ht hW => ⟨v1_5, rfl, some_in h, ht⟩) (fun q hq => nomatch hq) dX12_isClosable_110
  obtain ⟨j21, hj21, h⟩ := jn_elim h
  have Jj21 : ∀ (ls : Array Slot), j21 () = some rs → lv_has ls 3 [(0, .ref (a o))] → W p l e (headSpec wsX12_isClosable ({ frames := 6, cells := 0, slots := 0, locals := 135 } : Room)).room s m ([.ref (a o)] : List Value).toArray below meth c s.heap [] 0 0 (MQ below (vp_Si (fun z => z = rs)) ([.ref (a o)] : List Value).toArray s 0 0 (fun _ => False)) (F0 m 20 ls []) := by
    intro ls h hl
    rw [hj21] at h
    refine lv_iconst (v := (1 : Int32)) hx hb dX12_isClosable_20 (by decide) ?_
    refine lv_goto (tgt := 25) hx hb dX12_isClosable_21 (by decide) ?_
    exact Jj2 (1 : Int32) ls h (lv_sub hl [0] rfl)
  refine lv_icmp_eq (tgt := 20) hx hb dX12_isClosable_7 (by decide) (fun cc => ?_) (fun cc => ?_)
  · have h := ite_p cc h
    exact Jj21  ls h (lv_sub hl [0] rfl)
  · have h := ite_n cc h
    refine lv_aload_n hx hb dX12_isClosable_10 rfl (lv_at hl 0 rfl) ?_
    refine va_get (D := D) (ci := 12) (v := .ref (a (o + 1))) (C := RX12) (T := TX12) (N := 12) hx hb hts hinX12 hown hK hP 0 rfl rfl 0 (by decide) hf7 (fun _ h9 => h9) rfl dX12_isClosable_11 ?_
    refine lv_iconst (v := (3 : Int32)) hx hb dX12_isClosable_14 (by decide) ?_
    refine r_ald (f := (gX12_m S)) (n := 714) (v := ((gX12_m S) 3)) hx hb hK hP 1 0 rfl rfl (vp_in_nI (n := 3) (N := 714) (by decide) (by decide)) (congrArg (gX12_m S) (nI_clamp (n := 3) (by decide))) dX12_isClosable_15 ?_
    refine lv_iconst (v := (2 : Int32)) hx hb dX12_isClosable_16 (by decide) ?_
    refine lv_icmp_ne (tgt := 24) hx hb dX12_isClosable_17 (by decide) (fun cc => ?_) (fun cc => ?_)
    · have h := ite_n cc h
      refine lv_iconst (v := (0 : Int32)) hx hb dX12_isClosable_24 (by decide) ?_
      exact Jj2 (0 : Int32) ls h (lv_sub hl [0] rfl)
    · have h := ite_p cc h
      exact Jj21  ls h (lv_sub hl [0] rfl)
set_option maxHeartbeats 4000000 in
set_option maxRecDepth 100000 in
theorem qX12_settle (l : Launch) (D : va_G) (cy : Nat → ClassId) (a : Nat → Nat) (o : Nat) (S : SX12) (p1 : Int32) (sz : Nat) (rs : SX12) (h : DX12_settle S p1 = some rs) : Met l yX12_settle wsX12_settle ({ frames := 5, cells := 0, slots := 0, locals := 126 } : Room) (mP D cy sz [.ref (a o), .int p1] (wX12 cy a o S)) (va_Qv (fun (u : SX12) => u = rs) (fun u t => mB D sz (wX12 cy a o S) (wX12 cy a o u) t) (va_A (wX12 cy a o S) sz)) 0 0 (va_A (wX12 cy a o S) sz) := by
  refine Met.ofW (cc := cX12_settle) (maxL := 6) (ret := none) (by decide) rfl ?_
  intro p e s m args below meth c s₁ B hml hv
  obtain ⟨rfl, hsz, hP, hG, hD0⟩ := hv
  have hx := B.exec
  have hb := B.bytes
  have hr := B.returns
  have hts := atoms_spec (ws := wsX12_settle) B.pre
  have hown : s.vm.findClass RX12 = some m.cls := findClass_of_methodNamed B.named
  have hlocks := B.notSynchronized
  have hK := hG.1
  subst hsz
  have hD := hD0.self (sz := s.heap.size)
  have hA : ∀ q : Nat, s.heap.size ≤ q → (va_A (wX12 cy a o S) s.heap.size) q := fun q h => Or.inr h
  have hS : va_S (va_A (wX12 cy a o S) s.heap.size) s.heap s.heap [] := va_S.rf
  have hinX12 := (by decide +kernel : ∀ w ∈ wsX120, w ∈ wsX12_settle)
  have hf22 := hts (.fieldLink RX12 22 "PianoRoundsModel" "fates" "[I") (by decide +kernel)
  have hf7 := hts (.fieldLink RX12 7 "PianoRoundsModel" "m" "[I") (by decide +kernel)
  have hf19 := hts (.fieldLink RX12 19 "PianoRoundsModel" "fate" "[I") (by decide +kernel)
  have hl := lv_entry ([.ref (a o), .int p1]) (n := 6) (Nat.le_of_ble_eq_true rfl)
  rw [lg_entry_eq]
  generalize (lg_sl ([.ref (a o), .int p1]) ++ List.replicate (6 - (lg_sl ([.ref (a o), .int p1])).length) Slot.unset).toArray = ls at hl ⊢
  have hl : lv_has ls 6 [(0, .ref (a o)), (1, .int p1)] := hl
  rw [DX12_settle] at h
  refine lv_iload_n hx hb dX12_settle_0 rfl (lv_at hl 1 rfl) ?_
  refine lv_aload_n hx hb dX12_settle_1 rfl (lv_at hl 0 rfl) ?_
  refine va_get (D := D) (ci := 12) (v := .ref (a (o + 5))) (C := RX12) (T := TX12) (N := 12) hx hb hts hinX12 hown hK hP 0 rfl rfl 7 (by decide) hf22 (fun _ h9 => h9) rfl dX12_settle_2 ?_
  refine lv_iconst (v := (0 : Int32)) hx hb dX12_settle_5 (by decide) ?_
  refine r_ald (f := (gX12_fates S)) (n := 3) (v := ((gX12_fates S) 0)) hx hb hK hP 5 0 rfl rfl (vp_in_nI (n := 0) (N := 3) (by decide) (by decide)) (congrArg (gX12_fates S) (nI_clamp (n := 0) (by decide))) dX12_settle_6 ?_
  refine lv_isub hx hb dX12_settle_7 ?_
  refine lv_istore_n (lv' := [(2, .int (p1 - ((gX12_fates S) 0))), (0, .ref (a o)), (1, .int p1)]) hx hb dX12_settle_8 rfl hl (by decide) rfl (fun ls hl => ?_)
  refine lv_aload_n hx hb dX12_settle_9 rfl (lv_at hl 1 rfl) ?_
  refine va_get (D := D) (ci := 12) (v := .ref (a (o + 1))) (C := RX12) (T := TX12) (N := 12) hx hb hts hinX12 hown hK hP 0 rfl rfl 0 (by decide) hf7 (fun _ h9 => h9) rfl dX12_settle_10 ?_
  refine lv_bipush (v := (10 : Int32)) hx hb dX12_settle_13 (by decide) ?_
  refine r_ald (f := (gX12_m S)) (n := 714) (v := ((gX12_m S) 10)) hx hb hK hP 1 0 rfl rfl (vp_in_nI (n := 10) (N := 714) (by decide) (by decide)) (congrArg (gX12_m S) (nI_clamp (n := 10) (by decide))) dX12_settle_15 ?_
  refine lv_iconst (v := (3 : Int32)) hx hb dX12_settle_16 (by decide) ?_
  obtain ⟨j2, hj2, h⟩ := jn_elim h
  have Jj2 : ∀ (x1 : Int32) (ls : Array Slot), j2 x1 = some rs → lv_has ls 6 [(0, .ref (a o)), (2, .int (p1 - ((gX12_fates S) 0)))] → W p l e (headSpec wsX12_settle ({ frames := 5, cells := 0, slots := 0, locals := 126 } : Room)).room s m ([.ref (a o), .int p1] : List Value).toArray below meth c s.heap [] 0 0 (MQ below (va_Qv (fun (u : SX12) => u = rs) (fun u t => mB D s.heap.size (wX12 cy a o S) (wX12 cy a o u) t) (va_A (wX12 cy a o S) s.heap.size)) ([.ref (a o), .int p1] : List Value).toArray s 0 0 (va_A (wX12 cy a o S) s.heap.size)) (F0 m 25 ls [.int x1]) := by
    intro x1 ls h hl
    rw [hj2] at h
    refine lv_istore_n (lv' := [(3, .int x1), (0, .ref (a o)), (2, .int (p1 - ((gX12_fates S) 0)))]) hx hb dX12_settle_25 rfl hl (by decide) rfl (fun ls hl => ?_)
    refine lv_iconst (v := (0 : Int32)) hx hb dX12_settle_26 (by decide) ?_
    refine lv_istore (lv' := [(4, .int (0 : Int32)), (3, .int x1), (0, .ref (a o)), (2, .int (p1 - ((gX12_fates S) 0)))]) hx hb dX12_settle_27 hl (by decide) rfl (fun ls hl => ?_)
    have L57 : ∀ (c3_3 : Int32) (k5 : Int32 → SX12 → Option (SX12)) (hk5 : ∀ (v2_6 : Int32) (S7 : SX12) (H : Heap) (locs : List Loc) (ls : Array Slot), k5 v2_6 S7 = some rs → va_P D vwCl (wX12 cy a o S7) H → va_D (va_A (wX12 cy a o S) s.heap.size) (wX12 cy a o S7) → va_S (va_A (wX12 cy a o S) s.heap.size) s.heap H locs → lv_has ls 6 [(0, .ref (a o)), (2, .int v2_6)] → W p l e (headSpec wsX12_settle ({ frames := 5, cells := 0, slots := 0, locals := 126 } : Room)).room s m ([.ref (a o), .int p1] : List Value).toArray below meth c H locs 0 0 (MQ below (va_Qv (fun (u : SX12) => u = rs) (fun u t => mB D s.heap.size (wX12 cy a o S) (wX12 cy a o u) t) (va_A (wX12 cy a o S) s.heap.size)) ([.ref (a o), .int p1] : List Value).toArray s 0 0 (va_A (wX12 cy a o S) s.heap.size)) (F0 m 139 ls [])) (f : Nat) (v2_36 : Int32) (v4_37 : Int32) (S4 : SX12) (H : Heap) (locs : List Loc) (ls : Array Slot), DX12_settle_L29 c3_3 k5 f v2_36 v4_37 S4 = some rs → va_P D vwCl (wX12 cy a o S4) H → va_D (va_A (wX12 cy a o S) s.heap.size) (wX12 cy a o S4) → va_S (va_A (wX12 cy a o S) s.heap.size) s.heap H locs → lv_has ls 6 [(0, .ref (a o)), (2, .int v2_36), (3, .int c3_3), (4, .int v4_37)] → W p l e (headSpec wsX12_settle ({ frames := 5, cells := 0, slots := 0, locals := 126 } : Room)).room s m ([.ref (a o), .int p1] : List Value).toArray below meth c H locs 0 0 (MQ below (va_Qv (fun (u : SX12) => u = rs) (fun u t => mB D s.heap.size (wX12 cy a o S) (wX12 cy a o u) t) (va_A (wX12 cy a o S) s.heap.size)) ([.ref (a o), .int p1] : List Value).toArray s 0 0 (va_A (wX12 cy a o S) s.heap.size)) (F0 m 29 ls []) := by
      intro c3_3 k5 hk5 f
      induction f with
      | zero =>
        intro v2_36 v4_37 S4 H locs ls h hP hD hS hl
        rw [DX12_settle_L29] at h
        cases h
      | succ f ih =>
        intro v2_36 v4_37 S4 H locs ls h hP hD hS hl
        rw [DX12_settle_L29] at h
        refine lv_iload hx hb dX12_settle_29 (lv_at hl 3 rfl) ?_
        refine lv_aload_n hx hb dX12_settle_31 rfl (lv_at hl 0 rfl) ?_
        refine va_get (D := D) (ci := 12) (v := .ref (a (o + 1))) (C := RX12) (T := TX12) (N := 12) hx hb hts hinX12 hown hK hP 0 rfl rfl 0 (by decide) hf7 (fun _ h9 => h9) rfl dX12_settle_32 ?_
        refine lv_bipush (v := (7 : Int32)) hx hb dX12_settle_35 (by decide) ?_
        refine r_ald (f := (gX12_m S4)) (n := 714) (v := ((gX12_m S4) 7)) hx hb hK hP 1 0 rfl rfl (vp_in_nI (n := 7) (N := 714) (by decide) (by decide)) (congrArg (gX12_m S4) (nI_clamp (n := 7) (by decide))) dX12_settle_37 ?_
        refine lv_icmp_ge (tgt := 139) hx hb dX12_settle_38 (by decide) (fun cc => ?_) (fun cc => ?_)
        · have h := ite_p cc h
          exact hk5 v2_36 S4 H locs ls h hP hD hS (lv_sub hl [0, 1] rfl)
        · have h := ite_n cc h
          refine lv_aload_n hx hb dX12_settle_41 rfl (lv_at hl 0 rfl) ?_
          refine va_get (D := D) (ci := 12) (v := .ref (a (o + 1))) (C := RX12) (T := TX12) (N := 12) hx hb hts hinX12 hown hK hP 0 rfl rfl 0 (by decide) hf7 (fun _ h9 => h9) rfl dX12_settle_42 ?_
          refine lv_sipush (v := (462 : Int32)) hx hb dX12_settle_45 (by decide) ?_
          refine lv_iload hx hb dX12_settle_48 (lv_at hl 3 rfl) ?_
          refine lv_iadd hx hb dX12_settle_50 ?_
          obtain ⟨g38, h⟩ := gd_some h
          refine r_ald (f := (gX12_m S4)) (n := 714) (v := ((gX12_m S4) ((((462 : Int32) + v4_37)).toNatClampNeg))) hx hb hK hP 1 0 rfl rfl (gIn_in g38) rfl dX12_settle_51 ?_
          refine lv_istore (lv' := [(5, .int ((gX12_m S4) ((((462 : Int32) + v4_37)).toNatClampNeg))), (0, .ref (a o)), (2, .int v2_36), (3, .int c3_3), (4, .int v4_37)]) hx hb dX12_settle_52 hl (by decide) rfl (fun ls hl => ?_)
          refine lv_iload_n hx hb dX12_settle_54 rfl (lv_at hl 3 rfl) ?_
          obtain ⟨j41, hj41, h⟩ := jn_elim h
          have Jj41 : ∀ (v2_39 : Int32) (S40 : SX12) (H : Heap) (locs : List Loc) (ls : Array Slot), j41 v2_39 S40 = some rs → va_P D vwCl (wX12 cy a o S40) H → va_D (va_A (wX12 cy a o S) s.heap.size) (wX12 cy a o S40) → va_S (va_A (wX12 cy a o S) s.heap.size) s.heap H locs → lv_has ls 6 [(0, .ref (a o)), (2, .int v2_39), (3, .int c3_3), (4, .int v4_37), (5, .int ((gX12_m S4) ((((462 : Int32) + v4_37)).toNatClampNeg)))] → W p l e (headSpec wsX12_settle ({ frames := 5, cells := 0, slots := 0, locals := 126 } : Room)).room s m ([.ref (a o), .int p1] : List Value).toArray below meth c H locs 0 0 (MQ below (va_Qv (fun (u : SX12) => u = rs) (fun u t => mB D s.heap.size (wX12 cy a o S) (wX12 cy a o u) t) (va_A (wX12 cy a o S) s.heap.size)) ([.ref (a o), .int p1] : List Value).toArray s 0 0 (va_A (wX12 cy a o S) s.heap.size)) (F0 m 98 ls []) := by
            intro v2_39 S40 H locs ls h hP hD hS hl
            rw [hj41] at h
            refine lv_aload_n hx hb dX12_settle_98 rfl (lv_at hl 0 rfl) ?_
            refine va_get (D := D) (ci := 12) (v := .ref (a (o + 1))) (C := RX12) (T := TX12) (N := 12) hx hb hts hinX12 hown hK hP 0 rfl rfl 0 (by decide) hf7 (fun _ h9 => h9) rfl dX12_settle_99 ?_
            refine lv_bipush (v := (126 : Int32)) hx hb dX12_settle_102 (by decide) ?_
            refine lv_iload hx hb dX12_settle_104 (lv_at hl 4 rfl) ?_
            refine lv_iadd hx hb dX12_settle_106 ?_
            refine lv_aload_n hx hb dX12_settle_107 rfl (lv_at hl 0 rfl) ?_
            refine va_get (D := D) (ci := 12) (v := .ref (a (o + 4))) (C := RX12) (T := TX12) (N := 12) hx hb hts hinX12 hown hK hP 0 rfl rfl 6 (by decide) hf19 (fun _ h9 => h9) rfl dX12_settle_108 ?_
            refine lv_iload hx hb dX12_settle_111 (lv_at hl 4 rfl) ?_
            obtain ⟨g42, h⟩ := gd_some h
            refine r_ald (f := (gX12_fate S40)) (n := 12) (v := ((gX12_fate S40) ((((gX12_m S4) ((((462 : Int32) + v4_37)).toNatClampNeg))).toNatClampNeg))) hx hb hK hP 4 0 rfl rfl (gIn_in g42) rfl dX12_settle_113 ?_
            refine lv_iconst (v := (2 : Int32)) hx hb dX12_settle_114 (by decide) ?_
            obtain ⟨j44, hj44, h⟩ := jn_elim h
            have Jj44 : ∀ (x43 : Int32) (ls : Array Slot), j44 x43 = some rs → lv_has ls 6 [(0, .ref (a o)), (2, .int v2_39), (3, .int c3_3), (4, .int v4_37)] → W p l e (headSpec wsX12_settle ({ frames := 5, cells := 0, slots := 0, locals := 126 } : Room)).room s m ([.ref (a o), .int p1] : List Value).toArray below meth c H locs 0 0 (MQ below (va_Qv (fun (u : SX12) => u = rs) (fun u t => mB D s.heap.size (wX12 cy a o S) (wX12 cy a o u) t) (va_A (wX12 cy a o S) s.heap.size)) ([.ref (a o), .int p1] : List Value).toArray s 0 0 (va_A (wX12 cy a o S) s.heap.size)) (F0 m 132 ls [.int x43, .int ((126 : Int32) + ((gX12_m S4) ((((462 : Int32) + v4_37)).toNatClampNeg))), .ref (a (o + 1))]) := by
              intro x43 ls h hl
              rw [hj44] at h
              obtain ⟨g45, h⟩ := gd_some h
              refine r_ast (f := (gX12_m S40)) (f' := (upd (gX12_m S40) ((((126 : Int32) + ((gX12_m S4) ((((462 : Int32) + v4_37)).toNatClampNeg)))).toNatClampNeg) x43)) (n := 714) (ws' := (wX12 cy a o (uX12_m S40 (upd (gX12_m S40) ((((126 : Int32) + ((gX12_m S4) ((((462 : Int32) + v4_37)).toNatClampNeg)))).toNatClampNeg) x43)))) hx hb hK hP hD hS 1 0 rfl rfl (gIn_in g45) rfl rfl dX12_settle_132 (fun H locs hP hD hS => ?_)
              obtain ⟨S46, eS47, h⟩ := lt_elim h
              have hP : va_P D vwCl (wX12 cy a o S46) H := by rw [eS47]; exact hP
              have hD : va_D (va_A (wX12 cy a o S) s.heap.size) (wX12 cy a o S46) := by rw [eS47]; exact hD
              refine lv_iinc (v := (v4_37 + (1 : Int32))) (lv' := [(4, .int (v4_37 + (1 : Int32))), (0, .ref (a o)), (2, .int v2_39), (3, .int c3_3)]) hx hb dX12_settle_133 hl (k := 3) rfl (by rfl) (by decide) rfl (fun ls hl => ?_)
              refine lv_goto (tgt := 29) hx hb dX12_settle_136 (by decide) ?_
              exact ih v2_39 (v4_37 + (1 : Int32)) S46 H locs ls h hP hD hS (lv_sub hl [1, 2, 3, 0] rfl)
            refine lv_icmp_ne (tgt := 122) hx hb dX12_settle_115 (by decide) (fun cc => ?_) (fun cc => ?_)
            · have h := ite_n cc h
              refine lv_aload_n hx hb dX12_settle_122 rfl (lv_at hl 0 rfl) ?_
              refine va_get (D := D) (ci := 12) (v := .ref (a (o + 1))) (C := RX12) (T := TX12) (N := 12) hx hb hts hinX12 hown hK hP 0 rfl rfl 0 (by decide) hf7 (fun _ h9 => h9) rfl dX12_settle_123 ?_
              refine lv_bipush (v := (126 : Int32)) hx hb dX12_settle_126 (by decide) ?_
              refine lv_iload hx hb dX12_settle_128 (lv_at hl 4 rfl) ?_
              refine lv_iadd hx hb dX12_settle_130 ?_
              obtain ⟨g48, h⟩ := gd_some h
              refine r_ald (f := (gX12_m S40)) (n := 714) (v := ((gX12_m S40) ((((126 : Int32) + ((gX12_m S4) ((((462 : Int32) + v4_37)).toNatClampNeg)))).toNatClampNeg))) hx hb hK hP 1 0 rfl rfl (gIn_in g48) rfl dX12_settle_131 ?_
              exact Jj44 ((gX12_m S40) ((((126 : Int32) + ((gX12_m S4) ((((462 : Int32) + v4_37)).toNatClampNeg)))).toNatClampNeg)) ls h (lv_sub hl [0, 1, 2, 3] rfl)
            · have h := ite_p cc h
              refine lv_iconst (v := (0 : Int32)) hx hb dX12_settle_118 (by decide) ?_
              refine lv_goto (tgt := 132) hx hb dX12_settle_119 (by decide) ?_
              exact Jj44 (0 : Int32) ls h (lv_sub hl [0, 1, 2, 3] rfl)
          refine lv_if_eq (tgt := 98) hx hb dX12_settle_55 (by decide) (fun cc => ?_) (fun cc => ?_)
          · have h := ite_p cc h
            exact Jj41 v2_36 S4 H locs ls h hP hD hS (lv_sub hl [1, 2, 3, 4, 0] rfl)
          · have h := ite_n cc h
            refine lv_aload_n hx hb dX12_settle_58 rfl (lv_at hl 1 rfl) ?_
            refine va_get (D := D) (ci := 12) (v := .ref (a (o + 4))) (C := RX12) (T := TX12) (N := 12) hx hb hts hinX12 hown hK hP 0 rfl rfl 6 (by decide) hf19 (fun _ h9 => h9) rfl dX12_settle_59 ?_
            refine lv_iload hx hb dX12_settle_62 (lv_at hl 0 rfl) ?_
            obtain ⟨g49, h⟩ := gd_some h
            refine r_ald (f := (gX12_fate S4)) (n := 12) (v := ((gX12_fate S4) ((((gX12_m S4) ((((462 : Int32) + v4_37)).toNatClampNeg))).toNatClampNeg))) hx hb hK hP 4 0 rfl rfl (gIn_in g49) rfl dX12_settle_64 ?_
            refine lv_iconst (v := (1 : Int32)) hx hb dX12_settle_65 (by decide) ?_
            refine lv_icmp_ne (tgt := 98) hx hb dX12_settle_66 (by decide) (fun cc => ?_) (fun cc => ?_)
            · have h := ite_n cc h
              exact Jj41 v2_36 S4 H locs ls h hP hD hS (lv_sub hl [1, 2, 3, 4, 0] rfl)
            · have h := ite_p cc h
              refine lv_aload_n hx hb dX12_settle_69 rfl (lv_at hl 1 rfl) ?_
              refine va_get (D := D) (ci := 12) (v := .ref (a (o + 4))) (C := RX12) (T := TX12) (N := 12) hx hb hts hinX12 hown hK hP 0 rfl rfl 6 (by decide) hf19 (fun _ h9 => h9) rfl dX12_settle_70 ?_
              refine lv_iload hx hb dX12_settle_73 (lv_at hl 0 rfl) ?_
              refine lv_iload_n hx hb dX12_settle_75 rfl (lv_at hl 2 rfl) ?_
              obtain ⟨j51, hj51, h⟩ := jn_elim h
              have Jj51 : ∀ (x50 : Int32) (ls : Array Slot), j51 x50 = some rs → lv_has ls 6 [(0, .ref (a o)), (2, .int v2_36), (3, .int c3_3), (4, .int v4_37), (5, .int ((gX12_m S4) ((((462 : Int32) + v4_37)).toNatClampNeg)))] → W p l e (headSpec wsX12_settle ({ frames := 5, cells := 0, slots := 0, locals := 126 } : Room)).room s m ([.ref (a o), .int p1] : List Value).toArray below meth c H locs 0 0 (MQ below (va_Qv (fun (u : SX12) => u = rs) (fun u t => mB D s.heap.size (wX12 cy a o S) (wX12 cy a o u) t) (va_A (wX12 cy a o S) s.heap.size)) ([.ref (a o), .int p1] : List Value).toArray s 0 0 (va_A (wX12 cy a o S) s.heap.size)) (F0 m 84 ls [.int x50, .int ((gX12_m S4) ((((462 : Int32) + v4_37)).toNatClampNeg)), .ref (a (o + 4))]) := by
                intro x50 ls h hl
                rw [hj51] at h
                obtain ⟨g52, h⟩ := gd_some h
                refine r_ast (f := (gX12_fate S4)) (f' := (upd (gX12_fate S4) ((((gX12_m S4) ((((462 : Int32) + v4_37)).toNatClampNeg))).toNatClampNeg) x50)) (n := 12) (ws' := (wX12 cy a o (uX12_fate S4 (upd (gX12_fate S4) ((((gX12_m S4) ((((462 : Int32) + v4_37)).toNatClampNeg))).toNatClampNeg) x50)))) hx hb hK hP hD hS 4 0 rfl rfl (gIn_in g52) rfl rfl dX12_settle_84 (fun H locs hP hD hS => ?_)
                obtain ⟨S53, eS54, h⟩ := lt_elim h
                have hP : va_P D vwCl (wX12 cy a o S53) H := by rw [eS54]; exact hP
                have hD : va_D (va_A (wX12 cy a o S) s.heap.size) (wX12 cy a o S53) := by rw [eS54]; exact hD
                refine lv_iinc (v := (v2_36 + (-1 : Int32))) (lv' := [(2, .int (v2_36 + (-1 : Int32))), (0, .ref (a o)), (3, .int c3_3), (4, .int v4_37), (5, .int ((gX12_m S4) ((((462 : Int32) + v4_37)).toNatClampNeg)))]) hx hb dX12_settle_85 hl (k := 1) rfl (by rfl) (by decide) rfl (fun ls hl => ?_)
                refine lv_aload_n hx hb dX12_settle_88 rfl (lv_at hl 1 rfl) ?_
                refine va_get (D := D) (ci := 12) (v := .ref (a (o + 5))) (C := RX12) (T := TX12) (N := 12) hx hb hts hinX12 hown hK hP 0 rfl rfl 7 (by decide) hf22 (fun _ h9 => h9) rfl dX12_settle_89 ?_
                refine lv_iconst (v := (1 : Int32)) hx hb dX12_settle_92 (by decide) ?_
                refine lv_dup2_11 hx hb dX12_settle_93 rfl rfl ?_
                refine r_ald (f := (gX12_fates S53)) (n := 3) (v := ((gX12_fates S53) 1)) hx hb hK hP 5 0 rfl rfl (vp_in_nI (n := 1) (N := 3) (by decide) (by decide)) (congrArg (gX12_fates S53) (nI_clamp (n := 1) (by decide))) dX12_settle_94 ?_
                refine lv_iconst (v := (1 : Int32)) hx hb dX12_settle_95 (by decide) ?_
                refine lv_isub hx hb dX12_settle_96 ?_
                refine r_ast (f := (gX12_fates S53)) (f' := (upd (gX12_fates S53) 1 (((gX12_fates S53) 1) - (1 : Int32)))) (n := 3) (ws' := (wX12 cy a o (uX12_fates S53 (upd (gX12_fates S53) 1 (((gX12_fates S53) 1) - (1 : Int32)))))) hx hb hK hP hD hS 5 0 rfl rfl (vp_in_nI (n := 1) (N := 3) (by decide) (by decide)) (updc (nI_clamp (n := 1) (by decide))) rfl dX12_settle_97 (fun H locs hP hD hS => ?_)
                obtain ⟨S55, eS56, h⟩ := lt_elim h
                have hP : va_P D vwCl (wX12 cy a o S55) H := by rw [eS56]; exact hP
                have hD : va_D (va_A (wX12 cy a o S) s.heap.size) (wX12 cy a o S55) := by rw [eS56]; exact hD
                exact Jj41 (v2_36 + (-1 : Int32)) S55 H locs ls h hP hD hS (lv_sub hl [1, 0, 2, 3, 4] rfl)
              refine lv_if_le (tgt := 83) hx hb dX12_settle_76 (by decide) (fun cc => ?_) (fun cc => ?_)
              · have h := ite_p cc h
                refine lv_iconst (v := (2 : Int32)) hx hb dX12_settle_83 (by decide) ?_
                exact Jj51 (2 : Int32) ls h (lv_sub hl [1, 2, 3, 4, 0] rfl)
              · have h := ite_n cc h
                refine lv_iconst (v := (0 : Int32)) hx hb dX12_settle_79 (by decide) ?_
                refine lv_goto (tgt := 84) hx hb dX12_settle_80 (by decide) ?_
                exact Jj51 (0 : Int32) ls h (lv_sub hl [1, 2, 3, 4, 0] rfl)
    refine L57 x1 _ ?_ fu (p1 - ((gX12_fates S) 0)) (0 : Int32) S s.heap [] ls h hP hD hS (lv_sub hl [2, 3, 1, 0] rfl)
    intro v2_8 S9 H locs ls h hP hD hS hl
    refine lv_aload_n hx hb dX12_settle_139 rfl (lv_at hl 0 rfl) ?_
    refine va_get (D := D) (ci := 12) (v := .ref (a (o + 1))) (C := RX12) (T := TX12) (N := 12) hx hb hts hinX12 hown hK hP 0 rfl rfl 0 (by decide) hf7 (fun _ h9 => h9) rfl dX12_settle_140 ?_
    refine lv_bipush (v := (10 : Int32)) hx hb dX12_settle_143 (by decide) ?_
    refine r_ald (f := (gX12_m S9)) (n := 714) (v := ((gX12_m S9) 10)) hx hb hK hP 1 0 rfl rfl (vp_in_nI (n := 10) (N := 714) (by decide) (by decide)) (congrArg (gX12_m S9) (nI_clamp (n := 10) (by decide))) dX12_settle_145 ?_
    refine lv_iconst (v := (1 : Int32)) hx hb dX12_settle_146 (by decide) ?_
    refine lv_iadd hx hb dX12_settle_147 ?_
    refine lv_istore (lv' := [(4, .int (((gX12_m S9) 10) + (1 : Int32))), (0, .ref (a o)), (2, .int v2_8)]) hx hb dX12_settle_148 hl (by decide) rfl (fun ls hl => ?_)
    refine lv_aload_n hx hb dX12_settle_150 rfl (lv_at hl 1 rfl) ?_
    obtain ⟨x10, e11, h⟩ := bd_some h
    refine smVv (As := []) (rest := []) (ws' := (wX12 cy a o x10)) (q0 := 0) (qX12_clearTie l D cy a o S9  (H).size x10 e11) ⟨hx, hb, hml, hown, hts⟩ (cwV 0 hts gX12_settle_X12_clearTie rfl rfl rfl (by decide +kernel) ⟨Nat.le_of_ble_eq_true rfl, Nat.le_of_ble_eq_true rfl⟩) hG hP hD hS hA (pm1 (X := ([] : va_W)) (c := (wX12 cy a o S9)) (Y := ([] : va_W)) (show (wX12 cy a o S9) = ([] : va_W) ++ ((wX12 cy a o S9) ++ ([] : va_W)) from by simp only [List.append_assoc, List.nil_append, List.append_nil] <;> rfl)) (pm1 (X := ([] : va_W)) (c := (wX12 cy a o x10)) (Y := ([] : va_W)) (show (wX12 cy a o x10) = ([] : va_W) ++ ((wX12 cy a o x10) ++ ([] : va_W)) from by simp only [List.append_assoc, List.nil_append, List.append_nil] <;> rfl)) rfl rfl rfl hl.1 rfl (Nat.le_of_ble_eq_true rfl) dX12_settle_151 ⟨Nat.zero_le _, Nat.zero_le _⟩ (fun H locs hP hD hS => ?_)
    refine lv_aload_n hx hb dX12_settle_154 rfl (lv_at hl 1 rfl) ?_
    refine va_get (D := D) (ci := 12) (v := .ref (a (o + 5))) (C := RX12) (T := TX12) (N := 12) hx hb hts hinX12 hown hK hP 0 rfl rfl 7 (by decide) hf22 (fun _ h9 => h9) rfl dX12_settle_155 ?_
    refine lv_iconst (v := (1 : Int32)) hx hb dX12_settle_158 (by decide) ?_
    refine r_ald (f := (gX12_fates x10)) (n := 3) (v := ((gX12_fates x10) 1)) hx hb hK hP 5 0 rfl rfl (vp_in_nI (n := 1) (N := 3) (by decide) (by decide)) (congrArg (gX12_fates x10) (nI_clamp (n := 1) (by decide))) dX12_settle_159 ?_
    obtain ⟨j13, hj13, h⟩ := jn_elim h
    have Jj13 : ∀ (S12 : SX12) (H : Heap) (locs : List Loc) (ls : Array Slot), j13 S12 = some rs → va_P D vwCl (wX12 cy a o S12) H → va_D (va_A (wX12 cy a o S) s.heap.size) (wX12 cy a o S12) → va_S (va_A (wX12 cy a o S) s.heap.size) s.heap H locs → lv_has ls 6 [] → W p l e (headSpec wsX12_settle ({ frames := 5, cells := 0, slots := 0, locals := 126 } : Room)).room s m ([.ref (a o), .int p1] : List Value).toArray below meth c H locs 0 0 (MQ below (va_Qv (fun (u : SX12) => u = rs) (fun u t => mB D s.heap.size (wX12 cy a o S) (wX12 cy a o u) t) (va_A (wX12 cy a o S) s.heap.size)) ([.ref (a o), .int p1] : List Value).toArray s 0 0 (va_A (wX12 cy a o S) s.heap.size)) (F0 m 277 ls []) := by
      intro S12 H locs ls h hP hD hS hl
      rw [hj13] at h
      exact W.vret hx hb hr (fun t ht hW => ⟨⟨S12, rfl, some_in h, by rw [ht]; exact hP, hD⟩, hS.F ht⟩) hS.2.2 dX12_settle_277
    refine lv_if_le (tgt := 238) hx hb dX12_settle_160 (by decide) (fun cc => ?_) (fun cc => ?_)
    · have h := ite_p cc h
      refine lv_aload_n hx hb dX12_settle_238 rfl (lv_at hl 1 rfl) ?_
      refine va_get (D := D) (ci := 12) (v := .ref (a (o + 1))) (C := RX12) (T := TX12) (N := 12) hx hb hts hinX12 hown hK hP 0 rfl rfl 0 (by decide) hf7 (fun _ h9 => h9) rfl dX12_settle_239 ?_
      refine lv_iconst (v := (4 : Int32)) hx hb dX12_settle_242 (by decide) ?_
      refine r_ald (f := (gX12_m x10)) (n := 714) (v := ((gX12_m x10) 4)) hx hb hK hP 1 0 rfl rfl (vp_in_nI (n := 4) (N := 714) (by decide) (by decide)) (congrArg (gX12_m x10) (nI_clamp (n := 4) (by decide))) dX12_settle_243 ?_
      refine lv_iconst (v := (1 : Int32)) hx hb dX12_settle_244 (by decide) ?_
      refine lv_iadd hx hb dX12_settle_245 ?_
      refine lv_aload_n hx hb dX12_settle_246 rfl (lv_at hl 1 rfl) ?_
      refine va_get (D := D) (ci := 12) (v := .ref (a (o + 1))) (C := RX12) (T := TX12) (N := 12) hx hb hts hinX12 hown hK hP 0 rfl rfl 0 (by decide) hf7 (fun _ h9 => h9) rfl dX12_settle_247 ?_
      refine lv_iconst (v := (1 : Int32)) hx hb dX12_settle_250 (by decide) ?_
      refine r_ald (f := (gX12_m x10)) (n := 714) (v := ((gX12_m x10) 1)) hx hb hK hP 1 0 rfl rfl (vp_in_nI (n := 1) (N := 714) (by decide) (by decide)) (congrArg (gX12_m x10) (nI_clamp (n := 1) (by decide))) dX12_settle_251 ?_
      refine lv_icmp_ge (tgt := 270) hx hb dX12_settle_252 (by decide) (fun cc => ?_) (fun cc => ?_)
      · have h := ite_p cc h
        refine lv_aload_n hx hb dX12_settle_270 rfl (lv_at hl 1 rfl) ?_
        refine va_get (D := D) (ci := 12) (v := .ref (a (o + 1))) (C := RX12) (T := TX12) (N := 12) hx hb hts hinX12 hown hK hP 0 rfl rfl 0 (by decide) hf7 (fun _ h9 => h9) rfl dX12_settle_271 ?_
        refine lv_iconst (v := (3 : Int32)) hx hb dX12_settle_274 (by decide) ?_
        refine lv_iconst (v := (3 : Int32)) hx hb dX12_settle_275 (by decide) ?_
        refine r_ast (f := (gX12_m x10)) (f' := (upd (gX12_m x10) 3 (3 : Int32))) (n := 714) (ws' := (wX12 cy a o (uX12_m x10 (upd (gX12_m x10) 3 (3 : Int32))))) hx hb hK hP hD hS 1 0 rfl rfl (vp_in_nI (n := 3) (N := 714) (by decide) (by decide)) (updc (nI_clamp (n := 3) (by decide))) rfl dX12_settle_276 (fun H locs hP hD hS => ?_)
        obtain ⟨S14, eS15, h⟩ := lt_elim h
        have hP : va_P D vwCl (wX12 cy a o S14) H := by rw [eS15]; exact hP
        have hD : va_D (va_A (wX12 cy a o S) s.heap.size) (wX12 cy a o S14) := by rw [eS15]; exact hD
        exact Jj13 S14 H locs ls h hP hD hS (lv_sub hl [] rfl)
      · have h := ite_n cc h
        refine lv_aload_n hx hb dX12_settle_255 rfl (lv_at hl 1 rfl) ?_
        refine lv_aload_n hx hb dX12_settle_256 rfl (lv_at hl 1 rfl) ?_
        refine va_get (D := D) (ci := 12) (v := .ref (a (o + 1))) (C := RX12) (T := TX12) (N := 12) hx hb hts hinX12 hown hK hP 0 rfl rfl 0 (by decide) hf7 (fun _ h9 => h9) rfl dX12_settle_257 ?_
        refine lv_iconst (v := (4 : Int32)) hx hb dX12_settle_260 (by decide) ?_
        refine r_ald (f := (gX12_m x10)) (n := 714) (v := ((gX12_m x10) 4)) hx hb hK hP 1 0 rfl rfl (vp_in_nI (n := 4) (N := 714) (by decide) (by decide)) (congrArg (gX12_m x10) (nI_clamp (n := 4) (by decide))) dX12_settle_261 ?_
        refine lv_iconst (v := (1 : Int32)) hx hb dX12_settle_262 (by decide) ?_
        refine lv_iadd hx hb dX12_settle_263 ?_
        obtain ⟨x16, e17, h⟩ := bd_some h
        refine smVv (As := [.int (((gX12_m x10) 4) + (1 : Int32))]) (rest := []) (ws' := (wX12 cy a o x16)) (q0 := 0) (qX12_beginRound l D cy a o x10 (((gX12_m x10) 4) + (1 : Int32)) (H).size x16 e17) ⟨hx, hb, hml, hown, hts⟩ (cwV 1 hts gX12_settle_X12_beginRound rfl rfl rfl (by decide +kernel) ⟨Nat.le_of_ble_eq_true rfl, Nat.le_of_ble_eq_true rfl⟩) hG hP hD hS hA (pm1 (X := ([] : va_W)) (c := (wX12 cy a o x10)) (Y := ([] : va_W)) (show (wX12 cy a o x10) = ([] : va_W) ++ ((wX12 cy a o x10) ++ ([] : va_W)) from by simp only [List.append_assoc, List.nil_append, List.append_nil] <;> rfl)) (pm1 (X := ([] : va_W)) (c := (wX12 cy a o x16)) (Y := ([] : va_W)) (show (wX12 cy a o x16) = ([] : va_W) ++ ((wX12 cy a o x16) ++ ([] : va_W)) from by simp only [List.append_assoc, List.nil_append, List.append_nil] <;> rfl)) rfl rfl rfl hl.1 rfl (Nat.le_of_ble_eq_true rfl) dX12_settle_264 ⟨Nat.zero_le _, Nat.zero_le _⟩ (fun H locs hP hD hS => ?_)
        refine lv_goto (tgt := 277) hx hb dX12_settle_267 (by decide) ?_
        exact Jj13 x16 H locs ls h hP hD hS (lv_sub hl [] rfl)
    · have h := ite_n cc h
      refine lv_aload_n hx hb dX12_settle_163 rfl (lv_at hl 1 rfl) ?_
      refine va_get (D := D) (ci := 12) (v := .ref (a (o + 1))) (C := RX12) (T := TX12) (N := 12) hx hb hts hinX12 hown hK hP 0 rfl rfl 0 (by decide) hf7 (fun _ h9 => h9) rfl dX12_settle_164 ?_
      refine lv_iconst (v := (3 : Int32)) hx hb dX12_settle_167 (by decide) ?_
      refine lv_iconst (v := (2 : Int32)) hx hb dX12_settle_168 (by decide) ?_
      refine r_ast (f := (gX12_m x10)) (f' := (upd (gX12_m x10) 3 (2 : Int32))) (n := 714) (ws' := (wX12 cy a o (uX12_m x10 (upd (gX12_m x10) 3 (2 : Int32))))) hx hb hK hP hD hS 1 0 rfl rfl (vp_in_nI (n := 3) (N := 714) (by decide) (by decide)) (updc (nI_clamp (n := 3) (by decide))) rfl dX12_settle_169 (fun H locs hP hD hS => ?_)
      obtain ⟨S18, eS19, h⟩ := lt_elim h
      have hP : va_P D vwCl (wX12 cy a o S18) H := by rw [eS19]; exact hP
      have hD : va_D (va_A (wX12 cy a o S) s.heap.size) (wX12 cy a o S18) := by rw [eS19]; exact hD
      refine lv_aload_n hx hb dX12_settle_170 rfl (lv_at hl 1 rfl) ?_
      refine va_get (D := D) (ci := 12) (v := .ref (a (o + 1))) (C := RX12) (T := TX12) (N := 12) hx hb hts hinX12 hown hK hP 0 rfl rfl 0 (by decide) hf7 (fun _ h9 => h9) rfl dX12_settle_171 ?_
      refine lv_bipush (v := (10 : Int32)) hx hb dX12_settle_174 (by decide) ?_
      refine lv_iload hx hb dX12_settle_176 (lv_at hl 0 rfl) ?_
      refine r_ast (f := (gX12_m S18)) (f' := (upd (gX12_m S18) 10 (((gX12_m S9) 10) + (1 : Int32)))) (n := 714) (ws' := (wX12 cy a o (uX12_m S18 (upd (gX12_m S18) 10 (((gX12_m S9) 10) + (1 : Int32)))))) hx hb hK hP hD hS 1 0 rfl rfl (vp_in_nI (n := 10) (N := 714) (by decide) (by decide)) (updc (nI_clamp (n := 10) (by decide))) rfl dX12_settle_178 (fun H locs hP hD hS => ?_)
      obtain ⟨S20, eS21, h⟩ := lt_elim h
      have hP : va_P D vwCl (wX12 cy a o S20) H := by rw [eS21]; exact hP
      have hD : va_D (va_A (wX12 cy a o S) s.heap.size) (wX12 cy a o S20) := by rw [eS21]; exact hD
      refine lv_aload_n hx hb dX12_settle_179 rfl (lv_at hl 1 rfl) ?_
      refine va_get (D := D) (ci := 12) (v := .ref (a (o + 1))) (C := RX12) (T := TX12) (N := 12) hx hb hts hinX12 hown hK hP 0 rfl rfl 0 (by decide) hf7 (fun _ h9 => h9) rfl dX12_settle_180 ?_
      refine lv_bipush (v := (9 : Int32)) hx hb dX12_settle_183 (by decide) ?_
      refine lv_iload_n hx hb dX12_settle_185 rfl (lv_at hl 2 rfl) ?_
      refine r_ast (f := (gX12_m S20)) (f' := (upd (gX12_m S20) 9 v2_8)) (n := 714) (ws' := (wX12 cy a o (uX12_m S20 (upd (gX12_m S20) 9 v2_8)))) hx hb hK hP hD hS 1 0 rfl rfl (vp_in_nI (n := 9) (N := 714) (by decide) (by decide)) (updc (nI_clamp (n := 9) (by decide))) rfl dX12_settle_186 (fun H locs hP hD hS => ?_)
      obtain ⟨S22, eS23, h⟩ := lt_elim h
      have hP : va_P D vwCl (wX12 cy a o S22) H := by rw [eS23]; exact hP
      have hD : va_D (va_A (wX12 cy a o S) s.heap.size) (wX12 cy a o S22) := by rw [eS23]; exact hD
      refine lv_iconst (v := (0 : Int32)) hx hb dX12_settle_187 (by decide) ?_
      refine lv_istore (lv' := [(5, .int (0 : Int32)), (4, .int (((gX12_m S9) 10) + (1 : Int32))), (0, .ref (a o)), (2, .int v2_8)]) hx hb dX12_settle_188 hl (by decide) rfl (fun ls hl => ?_)
      have L35 : ∀ (k25 : SX12 → Option (SX12)) (hk25 : ∀ (S26 : SX12) (H : Heap) (locs : List Loc) (ls : Array Slot), k25 S26 = some rs → va_P D vwCl (wX12 cy a o S26) H → va_D (va_A (wX12 cy a o S) s.heap.size) (wX12 cy a o S26) → va_S (va_A (wX12 cy a o S) s.heap.size) s.heap H locs → lv_has ls 6 [] → W p l e (headSpec wsX12_settle ({ frames := 5, cells := 0, slots := 0, locals := 126 } : Room)).room s m ([.ref (a o), .int p1] : List Value).toArray below meth c H locs 0 0 (MQ below (va_Qv (fun (u : SX12) => u = rs) (fun u t => mB D s.heap.size (wX12 cy a o S) (wX12 cy a o u) t) (va_A (wX12 cy a o S) s.heap.size)) ([.ref (a o), .int p1] : List Value).toArray s 0 0 (va_A (wX12 cy a o S) s.heap.size)) (F0 m 235 ls [])) (f : Nat) (v5_28 : Int32) (S24 : SX12) (H : Heap) (locs : List Loc) (ls : Array Slot), DX12_settle_L190 k25 f v5_28 S24 = some rs → va_P D vwCl (wX12 cy a o S24) H → va_D (va_A (wX12 cy a o S) s.heap.size) (wX12 cy a o S24) → va_S (va_A (wX12 cy a o S) s.heap.size) s.heap H locs → lv_has ls 6 [(0, .ref (a o)), (5, .int v5_28)] → W p l e (headSpec wsX12_settle ({ frames := 5, cells := 0, slots := 0, locals := 126 } : Room)).room s m ([.ref (a o), .int p1] : List Value).toArray below meth c H locs 0 0 (MQ below (va_Qv (fun (u : SX12) => u = rs) (fun u t => mB D s.heap.size (wX12 cy a o S) (wX12 cy a o u) t) (va_A (wX12 cy a o S) s.heap.size)) ([.ref (a o), .int p1] : List Value).toArray s 0 0 (va_A (wX12 cy a o S) s.heap.size)) (F0 m 190 ls []) := by
        intro k25 hk25 f
        induction f with
        | zero =>
          intro v5_28 S24 H locs ls h hP hD hS hl
          rw [DX12_settle_L190] at h
          cases h
        | succ f ih =>
          intro v5_28 S24 H locs ls h hP hD hS hl
          rw [DX12_settle_L190] at h
          refine lv_iload hx hb dX12_settle_190 (lv_at hl 1 rfl) ?_
          refine lv_aload_n hx hb dX12_settle_192 rfl (lv_at hl 0 rfl) ?_
          refine va_get (D := D) (ci := 12) (v := .ref (a (o + 1))) (C := RX12) (T := TX12) (N := 12) hx hb hts hinX12 hown hK hP 0 rfl rfl 0 (by decide) hf7 (fun _ h9 => h9) rfl dX12_settle_193 ?_
          refine lv_bipush (v := (6 : Int32)) hx hb dX12_settle_196 (by decide) ?_
          refine r_ald (f := (gX12_m S24)) (n := 714) (v := ((gX12_m S24) 6)) hx hb hK hP 1 0 rfl rfl (vp_in_nI (n := 6) (N := 714) (by decide) (by decide)) (congrArg (gX12_m S24) (nI_clamp (n := 6) (by decide))) dX12_settle_198 ?_
          refine lv_icmp_ge (tgt := 235) hx hb dX12_settle_199 (by decide) (fun cc => ?_) (fun cc => ?_)
          · have h := ite_p cc h
            exact hk25 S24 H locs ls h hP hD hS (lv_sub hl [] rfl)
          · have h := ite_n cc h
            refine lv_aload_n hx hb dX12_settle_202 rfl (lv_at hl 0 rfl) ?_
            refine va_get (D := D) (ci := 12) (v := .ref (a (o + 1))) (C := RX12) (T := TX12) (N := 12) hx hb hts hinX12 hown hK hP 0 rfl rfl 0 (by decide) hf7 (fun _ h9 => h9) rfl dX12_settle_203 ?_
            refine lv_sipush (v := (654 : Int32)) hx hb dX12_settle_206 (by decide) ?_
            refine lv_iload hx hb dX12_settle_209 (lv_at hl 1 rfl) ?_
            refine lv_iadd hx hb dX12_settle_211 ?_
            refine lv_aload_n hx hb dX12_settle_212 rfl (lv_at hl 0 rfl) ?_
            refine va_get (D := D) (ci := 12) (v := .ref (a (o + 4))) (C := RX12) (T := TX12) (N := 12) hx hb hts hinX12 hown hK hP 0 rfl rfl 6 (by decide) hf19 (fun _ h9 => h9) rfl dX12_settle_213 ?_
            refine lv_iload hx hb dX12_settle_216 (lv_at hl 1 rfl) ?_
            obtain ⟨g29, h⟩ := gd_some h
            refine r_ald (f := (gX12_fate S24)) (n := 12) (v := ((gX12_fate S24) ((v5_28).toNatClampNeg))) hx hb hK hP 4 0 rfl rfl (gIn_in g29) rfl dX12_settle_218 ?_
            refine lv_iconst (v := (1 : Int32)) hx hb dX12_settle_219 (by decide) ?_
            obtain ⟨j31, hj31, h⟩ := jn_elim h
            have Jj31 : ∀ (x30 : Int32) (ls : Array Slot), j31 x30 = some rs → lv_has ls 6 [(0, .ref (a o)), (5, .int v5_28)] → W p l e (headSpec wsX12_settle ({ frames := 5, cells := 0, slots := 0, locals := 126 } : Room)).room s m ([.ref (a o), .int p1] : List Value).toArray below meth c H locs 0 0 (MQ below (va_Qv (fun (u : SX12) => u = rs) (fun u t => mB D s.heap.size (wX12 cy a o S) (wX12 cy a o u) t) (va_A (wX12 cy a o S) s.heap.size)) ([.ref (a o), .int p1] : List Value).toArray s 0 0 (va_A (wX12 cy a o S) s.heap.size)) (F0 m 228 ls [.int x30, .int ((654 : Int32) + v5_28), .ref (a (o + 1))]) := by
              intro x30 ls h hl
              rw [hj31] at h
              obtain ⟨g32, h⟩ := gd_some h
              refine r_ast (f := (gX12_m S24)) (f' := (upd (gX12_m S24) ((((654 : Int32) + v5_28)).toNatClampNeg) x30)) (n := 714) (ws' := (wX12 cy a o (uX12_m S24 (upd (gX12_m S24) ((((654 : Int32) + v5_28)).toNatClampNeg) x30)))) hx hb hK hP hD hS 1 0 rfl rfl (gIn_in g32) rfl rfl dX12_settle_228 (fun H locs hP hD hS => ?_)
              obtain ⟨S33, eS34, h⟩ := lt_elim h
              have hP : va_P D vwCl (wX12 cy a o S33) H := by rw [eS34]; exact hP
              have hD : va_D (va_A (wX12 cy a o S) s.heap.size) (wX12 cy a o S33) := by rw [eS34]; exact hD
              refine lv_iinc (v := (v5_28 + (1 : Int32))) (lv' := [(5, .int (v5_28 + (1 : Int32))), (0, .ref (a o))]) hx hb dX12_settle_229 hl (k := 1) rfl (by rfl) (by decide) rfl (fun ls hl => ?_)
              refine lv_goto (tgt := 190) hx hb dX12_settle_232 (by decide) ?_
              exact ih (v5_28 + (1 : Int32)) S33 H locs ls h hP hD hS (lv_sub hl [1, 0] rfl)
            refine lv_icmp_ne (tgt := 227) hx hb dX12_settle_220 (by decide) (fun cc => ?_) (fun cc => ?_)
            · have h := ite_n cc h
              refine lv_iconst (v := (0 : Int32)) hx hb dX12_settle_227 (by decide) ?_
              exact Jj31 (0 : Int32) ls h (lv_sub hl [0, 1] rfl)
            · have h := ite_p cc h
              refine lv_iconst (v := (1 : Int32)) hx hb dX12_settle_223 (by decide) ?_
              refine lv_goto (tgt := 228) hx hb dX12_settle_224 (by decide) ?_
              exact Jj31 (1 : Int32) ls h (lv_sub hl [0, 1] rfl)
      refine L35  _ ?_ fu (0 : Int32) S22 H locs ls h hP hD hS (lv_sub hl [2, 0] rfl)
      intro S27 H locs ls h hP hD hS hl
      refine lv_goto (tgt := 277) hx hb dX12_settle_235 (by decide) ?_
      exact Jj13 S27 H locs ls h hP hD hS (lv_sub hl [] rfl)
  refine lv_icmp_ne (tgt := 24) hx hb dX12_settle_17 (by decide) (fun cc => ?_) (fun cc => ?_)
  · have h := ite_n cc h
    refine lv_iconst (v := (0 : Int32)) hx hb dX12_settle_24 (by decide) ?_
    exact Jj2 (0 : Int32) ls h (lv_sub hl [1, 0] rfl)
  · have h := ite_p cc h
    refine lv_iconst (v := (1 : Int32)) hx hb dX12_settle_20 (by decide) ?_
    refine lv_goto (tgt := 25) hx hb dX12_settle_21 (by decide) ?_
    exact Jj2 (1 : Int32) ls h (lv_sub hl [1, 0] rfl)
