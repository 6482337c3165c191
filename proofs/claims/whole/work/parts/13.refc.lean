set_option maxHeartbeats 4000000 in
set_option maxRecDepth 100000 in
theorem qX12_clearMarks (l : Launch) (D : va_G) (cy : Nat → ClassId) (a : Nat → Nat) (o : Nat) (S : SX12)  (sz : Nat) (rs : SX12) (h : DX12_clearMarks S = some rs) : Met l yX12_clearMarks wsX12_clearMarks ({ frames := 1, cells := 0, slots := 0, locals := 21 } : Room) (mP D cy sz [.ref (a o)] (wX12 cy a o S)) (va_Qv (fun (u : SX12) => u = rs) (fun u t => mB D sz (wX12 cy a o S) (wX12 cy a o u) t) (va_A (wX12 cy a o S) sz)) 0 0 (va_A (wX12 cy a o S) sz) := by
  refine Met.ofW (cc := cX12_clearMarks) (maxL := 2) (ret := none) (by decide) rfl ?_
  intro p e s m args below meth c s₁ B hml hv
  obtain ⟨rfl, hsz, hP, hG, hD0⟩ := hv
  have hx := B.exec
  have hb := B.bytes
  have hr := B.returns
  have hts := atoms_spec (ws := wsX12_clearMarks) B.pre
  have hown : s.vm.findClass RX12 = some m.cls := findClass_of_methodNamed B.named
  have hlocks := B.notSynchronized
  have hK := hG.1
  subst hsz
  have hD := hD0.self (sz := s.heap.size)
  have hA : ∀ q : Nat, s.heap.size ≤ q → (va_A (wX12 cy a o S) s.heap.size) q := fun q h => Or.inr h
  have hS : va_S (va_A (wX12 cy a o S) s.heap.size) s.heap s.heap [] := va_S.rf
  have hinX12 := (by decide +kernel : ∀ w ∈ wsX120, w ∈ wsX12_clearMarks)
  have hf7 := hts (.fieldLink RX12 7 "PianoRoundsModel" "m" "[I") (by decide +kernel)
  have hl := lv_entry ([.ref (a o)]) (n := 2) (Nat.le_of_ble_eq_true rfl)
  rw [lg_entry_eq]
  generalize (lg_sl ([.ref (a o)]) ++ List.replicate (2 - (lg_sl ([.ref (a o)])).length) Slot.unset).toArray = ls at hl ⊢
  have hl : lv_has ls 2 [(0, .ref (a o))] := hl
  rw [DX12_clearMarks] at h
  refine lv_iconst (v := (0 : Int32)) hx hb dX12_clearMarks_0 (by decide) ?_
  refine lv_istore_n (lv' := [(1, .int (0 : Int32)), (0, .ref (a o))]) hx hb dX12_clearMarks_1 rfl hl (by decide) rfl (fun ls hl => ?_)
  have L11 : ∀ (k2 : SX12 → Option (SX12)) (hk2 : ∀ (S3 : SX12) (H : Heap) (locs : List Loc) (ls : Array Slot), k2 S3 = some rs → va_P D vwCl (wX12 cy a o S3) H → va_D (va_A (wX12 cy a o S) s.heap.size) (wX12 cy a o S3) → va_S (va_A (wX12 cy a o S) s.heap.size) s.heap H locs → lv_has ls 2 [(0, .ref (a o))] → W p l e (headSpec wsX12_clearMarks ({ frames := 1, cells := 0, slots := 0, locals := 21 } : Room)).room s m ([.ref (a o)] : List Value).toArray below meth c H locs 0 0 (MQ below (va_Qv (fun (u : SX12) => u = rs) (fun u t => mB D s.heap.size (wX12 cy a o S) (wX12 cy a o u) t) (va_A (wX12 cy a o S) s.heap.size)) ([.ref (a o)] : List Value).toArray s 0 0 (va_A (wX12 cy a o S) s.heap.size)) (F0 m 25 ls [])) (f : Nat) (v1_7 : Int32) (S1 : SX12) (H : Heap) (locs : List Loc) (ls : Array Slot), DX12_clearMarks_L2 k2 f v1_7 S1 = some rs → va_P D vwCl (wX12 cy a o S1) H → va_D (va_A (wX12 cy a o S) s.heap.size) (wX12 cy a o S1) → va_S (va_A (wX12 cy a o S) s.heap.size) s.heap H locs → lv_has ls 2 [(0, .ref (a o)), (1, .int v1_7)] → W p l e (headSpec wsX12_clearMarks ({ frames := 1, cells := 0, slots := 0, locals := 21 } : Room)).room s m ([.ref (a o)] : List Value).toArray below meth c H locs 0 0 (MQ below (va_Qv (fun (u : SX12) => u = rs) (fun u t => mB D s.heap.size (wX12 cy a o S) (wX12 cy a o u) t) (va_A (wX12 cy a o S) s.heap.size)) ([.ref (a o)] : List Value).toArray s 0 0 (va_A (wX12 cy a o S) s.heap.size)) (F0 m 2 ls []) := by
    intro k2 hk2 f
    induction f with
    | zero =>
      intro v1_7 S1 H locs ls h hP hD hS hl
      rw [DX12_clearMarks_L2] at h
      cases h
    | succ f ih =>
      intro v1_7 S1 H locs ls h hP hD hS hl
      rw [DX12_clearMarks_L2] at h
      refine lv_iload_n hx hb dX12_clearMarks_2 rfl (lv_at hl 1 rfl) ?_
      refine lv_bipush (v := (84 : Int32)) hx hb dX12_clearMarks_3 (by decide) ?_
      refine lv_icmp_ge (tgt := 25) hx hb dX12_clearMarks_5 (by decide) (fun cc => ?_) (fun cc => ?_)
      · have h := ite_p cc h
        exact hk2 S1 H locs ls h hP hD hS (lv_sub hl [0] rfl)
      · have h := ite_n cc h
        refine lv_aload_n hx hb dX12_clearMarks_8 rfl (lv_at hl 0 rfl) ?_
        refine va_get (D := D) (ci := 12) (v := .ref (a (o + 1))) (C := RX12) (T := TX12) (N := 12) hx hb hts hinX12 hown hK hP 0 rfl rfl 0 (by decide) hf7 (fun _ h9 => h9) rfl dX12_clearMarks_9 ?_
        refine lv_sipush (v := (486 : Int32)) hx hb dX12_clearMarks_12 (by decide) ?_
        refine lv_iload_n hx hb dX12_clearMarks_15 rfl (lv_at hl 1 rfl) ?_
        refine lv_iadd hx hb dX12_clearMarks_16 ?_
        refine lv_iconst (v := (-1 : Int32)) hx hb dX12_clearMarks_17 (by decide) ?_
        obtain ⟨g8, h⟩ := gd_some h
        refine r_ast (f := (gX12_m S1)) (f' := (upd (gX12_m S1) ((((486 : Int32) + v1_7)).toNatClampNeg) (-1 : Int32))) (n := 714) (ws' := (wX12 cy a o (uX12_m S1 (upd (gX12_m S1) ((((486 : Int32) + v1_7)).toNatClampNeg) (-1 : Int32))))) hx hb hK hP hD hS 1 0 rfl rfl (gIn_in g8) rfl rfl dX12_clearMarks_18 (fun H locs hP hD hS => ?_)
        obtain ⟨S9, eS10, h⟩ := lt_elim h
        have hP : va_P D vwCl (wX12 cy a o S9) H := by rw [eS10]; exact hP
        have hD : va_D (va_A (wX12 cy a o S) s.heap.size) (wX12 cy a o S9) := by rw [eS10]; exact hD
        refine lv_iinc (v := (v1_7 + (1 : Int32))) (lv' := [(1, .int (v1_7 + (1 : Int32))), (0, .ref (a o))]) hx hb dX12_clearMarks_19 hl (k := 1) rfl (by rfl) (by decide) rfl (fun ls hl => ?_)
        refine lv_goto (tgt := 2) hx hb dX12_clearMarks_22 (by decide) ?_
        exact ih (v1_7 + (1 : Int32)) S9 H locs ls h hP hD hS (lv_sub hl [1, 0] rfl)
  refine L11  _ ?_ fu (0 : Int32) S s.heap [] ls h hP hD hS (lv_sub hl [1, 0] rfl)
  intro S4 H locs ls h hP hD hS hl
  refine lv_aload_n hx hb dX12_clearMarks_25 rfl (lv_at hl 0 rfl) ?_
  obtain ⟨x5, e6, h⟩ := bd_some h
  refine smVv (As := []) (rest := []) (ws' := (wX12 cy a o x5)) (q0 := 0) (qX12_clearTie l D cy a o S4  (H).size x5 e6) ⟨hx, hb, hml, hown, hts⟩ (cwV 0 hts gX12_clearMarks_X12_clearTie rfl rfl rfl (by decide +kernel) ⟨Nat.le_of_ble_eq_true rfl, Nat.le_of_ble_eq_true rfl⟩) hG hP hD hS hA (pm1 (X := ([] : va_W)) (c := (wX12 cy a o S4)) (Y := ([] : va_W)) (show (wX12 cy a o S4) = ([] : va_W) ++ ((wX12 cy a o S4) ++ ([] : va_W)) from by simp only [List.append_assoc, List.nil_append, List.append_nil] <;> rfl)) (pm1 (X := ([] : va_W)) (c := (wX12 cy a o x5)) (Y := ([] : va_W)) (show (wX12 cy a o x5) = ([] : va_W) ++ ((wX12 cy a o x5) ++ ([] : va_W)) from by simp only [List.append_assoc, List.nil_append, List.append_nil] <;> rfl)) rfl rfl rfl hl.1 rfl (Nat.le_of_ble_eq_true rfl) dX12_clearMarks_26 ⟨Nat.zero_le _, Nat.zero_le _⟩ (fun H locs hP hD hS => ?_)
  exact W.vret hx hb hr (fun t ht hW => ⟨⟨x5, rfl, some_in h, by rw [ht]; exact hP, hD⟩, hS.F ht⟩) hS.2.2 dX12_clearMarks_29
set_option maxHeartbeats 4000000 in
set_option maxRecDepth 100000 in
theorem qX12_draw (l : Launch) (D : va_G) (cy : Nat → ClassId) (a : Nat → Nat) (o : Nat) (S : SX12)  (sz : Nat) (rs : SX12) (h : DX12_draw S = some rs) : Met l yX12_draw wsX12_draw ({ frames := 0, cells := 0, slots := 0, locals := 0 } : Room) (mP D cy sz [.ref (a o)] (wX12 cy a o S)) (va_Qv (fun (u : SX12) => u = rs) (fun u t => mB D sz (wX12 cy a o S) (wX12 cy a o u) t) (va_A (wX12 cy a o S) sz)) 0 0 (va_A (wX12 cy a o S) sz) := by
  refine Met.ofW (cc := cX12_draw) (maxL := 4) (ret := none) (by decide) rfl ?_
  intro p e s m args below meth c s₁ B hml hv
  obtain ⟨rfl, hsz, hP, hG, hD0⟩ := hv
  have hx := B.exec
  have hb := B.bytes
  have hr := B.returns
  have hts := atoms_spec (ws := wsX12_draw) B.pre
  have hown : s.vm.findClass RX12 = some m.cls := findClass_of_methodNamed B.named
  have hlocks := B.notSynchronized
  have hK := hG.1
  subst hsz
  have hD := hD0.self (sz := s.heap.size)
  have hA : ∀ q : Nat, s.heap.size ≤ q → (va_A (wX12 cy a o S) s.heap.size) q := fun q h => Or.inr h
  have hS : va_S (va_A (wX12 cy a o S) s.heap.size) s.heap s.heap [] := va_S.rf
  have hinX12 := (by decide +kernel : ∀ w ∈ wsX120, w ∈ wsX12_draw)
  have hf7 := hts (.fieldLink RX12 7 "PianoRoundsModel" "m" "[I") (by decide +kernel)
  have hl := lv_entry ([.ref (a o)]) (n := 4) (Nat.le_of_ble_eq_true rfl)
  rw [lg_entry_eq]
  generalize (lg_sl ([.ref (a o)]) ++ List.replicate (4 - (lg_sl ([.ref (a o)])).length) Slot.unset).toArray = ls at hl ⊢
  have hl : lv_has ls 4 [(0, .ref (a o))] := hl
  rw [DX12_draw] at h
  refine lv_aload_n hx hb dX12_draw_0 rfl (lv_at hl 0 rfl) ?_
  refine va_get (D := D) (ci := 12) (v := .ref (a (o + 1))) (C := RX12) (T := TX12) (N := 12) hx hb hts hinX12 hown hK hP 0 rfl rfl 0 (by decide) hf7 (fun _ h9 => h9) rfl dX12_draw_1 ?_
  refine lv_bipush (v := (7 : Int32)) hx hb dX12_draw_4 (by decide) ?_
  refine r_ald (f := (gX12_m S)) (n := 714) (v := ((gX12_m S) 7)) hx hb hK hP 1 0 rfl rfl (vp_in_nI (n := 7) (N := 714) (by decide) (by decide)) (congrArg (gX12_m S) (nI_clamp (n := 7) (by decide))) dX12_draw_6 ?_
  refine lv_iconst (v := (1 : Int32)) hx hb dX12_draw_7 (by decide) ?_
  refine lv_isub hx hb dX12_draw_8 ?_
  refine lv_istore_n (lv' := [(1, .int (((gX12_m S) 7) - (1 : Int32))), (0, .ref (a o))]) hx hb dX12_draw_9 rfl hl (by decide) rfl (fun ls hl => ?_)
  have L17 : ∀ (k2 : SX12 → Option (SX12)) (hk2 : ∀ (S3 : SX12) (H : Heap) (locs : List Loc) (ls : Array Slot), k2 S3 = some rs → va_P D vwCl (wX12 cy a o S3) H → va_D (va_A (wX12 cy a o S) s.heap.size) (wX12 cy a o S3) → va_S (va_A (wX12 cy a o S) s.heap.size) s.heap H locs → lv_has ls 4 [] → W p l e (headSpec wsX12_draw ({ frames := 0, cells := 0, slots := 0, locals := 0 } : Room)).room s m ([.ref (a o)] : List Value).toArray below meth c H locs 0 0 (MQ below (va_Qv (fun (u : SX12) => u = rs) (fun u t => mB D s.heap.size (wX12 cy a o S) (wX12 cy a o u) t) (va_A (wX12 cy a o S) s.heap.size)) ([.ref (a o)] : List Value).toArray s 0 0 (va_A (wX12 cy a o S) s.heap.size)) (F0 m 105 ls [])) (f : Nat) (v1_5 : Int32) (S1 : SX12) (H : Heap) (locs : List Loc) (ls : Array Slot), DX12_draw_L10 k2 f v1_5 S1 = some rs → va_P D vwCl (wX12 cy a o S1) H → va_D (va_A (wX12 cy a o S) s.heap.size) (wX12 cy a o S1) → va_S (va_A (wX12 cy a o S) s.heap.size) s.heap H locs → lv_has ls 4 [(0, .ref (a o)), (1, .int v1_5)] → W p l e (headSpec wsX12_draw ({ frames := 0, cells := 0, slots := 0, locals := 0 } : Room)).room s m ([.ref (a o)] : List Value).toArray below meth c H locs 0 0 (MQ below (va_Qv (fun (u : SX12) => u = rs) (fun u t => mB D s.heap.size (wX12 cy a o S) (wX12 cy a o u) t) (va_A (wX12 cy a o S) s.heap.size)) ([.ref (a o)] : List Value).toArray s 0 0 (va_A (wX12 cy a o S) s.heap.size)) (F0 m 10 ls []) := by
    intro k2 hk2 f
    induction f with
    | zero =>
      intro v1_5 S1 H locs ls h hP hD hS hl
      rw [DX12_draw_L10] at h
      cases h
    | succ f ih =>
      intro v1_5 S1 H locs ls h hP hD hS hl
      rw [DX12_draw_L10] at h
      refine lv_iload_n hx hb dX12_draw_10 rfl (lv_at hl 1 rfl) ?_
      refine lv_if_le (tgt := 105) hx hb dX12_draw_11 (by decide) (fun cc => ?_) (fun cc => ?_)
      · have h := ite_p cc h
        exact hk2 S1 H locs ls h hP hD hS (lv_sub hl [] rfl)
      · have h := ite_n cc h
        refine lv_aload_n hx hb dX12_draw_14 rfl (lv_at hl 0 rfl) ?_
        refine va_get (D := D) (ci := 12) (v := .ref (a (o + 1))) (C := RX12) (T := TX12) (N := 12) hx hb hts hinX12 hown hK hP 0 rfl rfl 0 (by decide) hf7 (fun _ h9 => h9) rfl dX12_draw_15 ?_
        refine lv_bipush (v := (11 : Int32)) hx hb dX12_draw_18 (by decide) ?_
        refine lv_aload_n hx hb dX12_draw_20 rfl (lv_at hl 0 rfl) ?_
        refine va_get (D := D) (ci := 12) (v := .ref (a (o + 1))) (C := RX12) (T := TX12) (N := 12) hx hb hts hinX12 hown hK hP 0 rfl rfl 0 (by decide) hf7 (fun _ h9 => h9) rfl dX12_draw_21 ?_
        refine lv_bipush (v := (11 : Int32)) hx hb dX12_draw_24 (by decide) ?_
        refine r_ald (f := (gX12_m S1)) (n := 714) (v := ((gX12_m S1) 11)) hx hb hK hP 1 0 rfl rfl (vp_in_nI (n := 11) (N := 714) (by decide) (by decide)) (congrArg (gX12_m S1) (nI_clamp (n := 11) (by decide))) dX12_draw_26 ?_
        refine lv_i2l (v := (((gX12_m S1) 11)).toInt64) hx hb dX12_draw_27 rfl ?_
        refine lv_ldc2 (v := (1103515245 : Int64)) hx hb hown (hts (.constantLong RX12 92 (1103515245 : Int64)) (by decide +kernel)) dX12_draw_28 ?_
        refine lv_lmul hx hb dX12_draw_31 ?_
        refine lv_ldc2 (v := (12345 : Int64)) hx hb hown (hts (.constantLong RX12 94 (12345 : Int64)) (by decide +kernel)) dX12_draw_32 ?_
        refine lv_ladd hx hb dX12_draw_35 ?_
        refine lv_ldc2 (v := (2147483648 : Int64)) hx hb hown (hts (.constantLong RX12 96 (2147483648 : Int64)) (by decide +kernel)) dX12_draw_36 ?_
        refine lv_lrem hx hb dX12_draw_39 (by decide) ?_
        refine lv_l2i (v := (((((((gX12_m S1) 11)).toInt64 * (1103515245 : Int64)) + (12345 : Int64)) - (((((gX12_m S1) 11)).toInt64 * (1103515245 : Int64)) + (12345 : Int64)) / (2147483648 : Int64) * (2147483648 : Int64))).toInt32) hx hb dX12_draw_40 rfl ?_
        refine r_ast (f := (gX12_m S1)) (f' := (upd (gX12_m S1) 11 ((((((((gX12_m S1) 11)).toInt64 * (1103515245 : Int64)) + (12345 : Int64)) - (((((gX12_m S1) 11)).toInt64 * (1103515245 : Int64)) + (12345 : Int64)) / (2147483648 : Int64) * (2147483648 : Int64))).toInt32))) (n := 714) (ws' := (wX12 cy a o (uX12_m S1 (upd (gX12_m S1) 11 ((((((((gX12_m S1) 11)).toInt64 * (1103515245 : Int64)) + (12345 : Int64)) - (((((gX12_m S1) 11)).toInt64 * (1103515245 : Int64)) + (12345 : Int64)) / (2147483648 : Int64) * (2147483648 : Int64))).toInt32))))) hx hb hK hP hD hS 1 0 rfl rfl (vp_in_nI (n := 11) (N := 714) (by decide) (by decide)) (updc (nI_clamp (n := 11) (by decide))) rfl dX12_draw_41 (fun H locs hP hD hS => ?_)
        obtain ⟨S6, eS7, h⟩ := lt_elim h
        have hP : va_P D vwCl (wX12 cy a o S6) H := by rw [eS7]; exact hP
        have hD : va_D (va_A (wX12 cy a o S) s.heap.size) (wX12 cy a o S6) := by rw [eS7]; exact hD
        refine lv_aload_n hx hb dX12_draw_42 rfl (lv_at hl 0 rfl) ?_
        refine va_get (D := D) (ci := 12) (v := .ref (a (o + 1))) (C := RX12) (T := TX12) (N := 12) hx hb hts hinX12 hown hK hP 0 rfl rfl 0 (by decide) hf7 (fun _ h9 => h9) rfl dX12_draw_43 ?_
        refine lv_bipush (v := (11 : Int32)) hx hb dX12_draw_46 (by decide) ?_
        refine r_ald (f := (gX12_m S6)) (n := 714) (v := ((gX12_m S6) 11)) hx hb hK hP 1 0 rfl rfl (vp_in_nI (n := 11) (N := 714) (by decide) (by decide)) (congrArg (gX12_m S6) (nI_clamp (n := 11) (by decide))) dX12_draw_48 ?_
        refine lv_ldc (v := (65536 : Int32)) hx hb hown (hts (.constant RX12 98 (65536 : Int32)) (by decide +kernel)) dX12_draw_49 ?_
        refine lv_idiv hx hb dX12_draw_51 (by decide) ?_
        refine lv_iload_n hx hb dX12_draw_52 rfl (lv_at hl 1 rfl) ?_
        refine lv_iconst (v := (1 : Int32)) hx hb dX12_draw_53 (by decide) ?_
        refine lv_iadd hx hb dX12_draw_54 ?_
        obtain ⟨g8, h⟩ := gz_some h
        refine lv_irem hx hb dX12_draw_55 g8 ?_
        refine lv_istore_n (lv' := [(2, .int ((((gX12_m S6) 11) / (65536 : Int32)) - (((gX12_m S6) 11) / (65536 : Int32)) / (v1_5 + (1 : Int32)) * (v1_5 + (1 : Int32)))), (0, .ref (a o)), (1, .int v1_5)]) hx hb dX12_draw_56 rfl hl (by decide) rfl (fun ls hl => ?_)
        refine lv_aload_n hx hb dX12_draw_57 rfl (lv_at hl 1 rfl) ?_
        refine va_get (D := D) (ci := 12) (v := .ref (a (o + 1))) (C := RX12) (T := TX12) (N := 12) hx hb hts hinX12 hown hK hP 0 rfl rfl 0 (by decide) hf7 (fun _ h9 => h9) rfl dX12_draw_58 ?_
        refine lv_sipush (v := (462 : Int32)) hx hb dX12_draw_61 (by decide) ?_
        refine lv_iload_n hx hb dX12_draw_64 rfl (lv_at hl 2 rfl) ?_
        refine lv_iadd hx hb dX12_draw_65 ?_
        obtain ⟨g9, h⟩ := gd_some h
        refine r_ald (f := (gX12_m S6)) (n := 714) (v := ((gX12_m S6) ((((462 : Int32) + v1_5)).toNatClampNeg))) hx hb hK hP 1 0 rfl rfl (gIn_in g9) rfl dX12_draw_66 ?_
        refine lv_istore_n (lv' := [(3, .int ((gX12_m S6) ((((462 : Int32) + v1_5)).toNatClampNeg))), (2, .int ((((gX12_m S6) 11) / (65536 : Int32)) - (((gX12_m S6) 11) / (65536 : Int32)) / (v1_5 + (1 : Int32)) * (v1_5 + (1 : Int32)))), (0, .ref (a o)), (1, .int v1_5)]) hx hb dX12_draw_67 rfl hl (by decide) rfl (fun ls hl => ?_)
        refine lv_aload_n hx hb dX12_draw_68 rfl (lv_at hl 2 rfl) ?_
        refine va_get (D := D) (ci := 12) (v := .ref (a (o + 1))) (C := RX12) (T := TX12) (N := 12) hx hb hts hinX12 hown hK hP 0 rfl rfl 0 (by decide) hf7 (fun _ h9 => h9) rfl dX12_draw_69 ?_
        refine lv_sipush (v := (462 : Int32)) hx hb dX12_draw_72 (by decide) ?_
        refine lv_iload_n hx hb dX12_draw_75 rfl (lv_at hl 3 rfl) ?_
        refine lv_iadd hx hb dX12_draw_76 ?_
        refine lv_aload_n hx hb dX12_draw_77 rfl (lv_at hl 2 rfl) ?_
        refine va_get (D := D) (ci := 12) (v := .ref (a (o + 1))) (C := RX12) (T := TX12) (N := 12) hx hb hts hinX12 hown hK hP 0 rfl rfl 0 (by decide) hf7 (fun _ h9 => h9) rfl dX12_draw_78 ?_
        refine lv_sipush (v := (462 : Int32)) hx hb dX12_draw_81 (by decide) ?_
        refine lv_iload_n hx hb dX12_draw_84 rfl (lv_at hl 1 rfl) ?_
        refine lv_iadd hx hb dX12_draw_85 ?_
        obtain ⟨g10, h⟩ := gd_some h
        refine r_ald (f := (gX12_m S6)) (n := 714) (v := ((gX12_m S6) ((((462 : Int32) + ((((gX12_m S6) 11) / (65536 : Int32)) - (((gX12_m S6) 11) / (65536 : Int32)) / (v1_5 + (1 : Int32)) * (v1_5 + (1 : Int32))))).toNatClampNeg))) hx hb hK hP 1 0 rfl rfl (gIn_in g10) rfl dX12_draw_86 ?_
        obtain ⟨g11, h⟩ := gd_some h
        refine r_ast (f := (gX12_m S6)) (f' := (upd (gX12_m S6) ((((462 : Int32) + v1_5)).toNatClampNeg) ((gX12_m S6) ((((462 : Int32) + ((((gX12_m S6) 11) / (65536 : Int32)) - (((gX12_m S6) 11) / (65536 : Int32)) / (v1_5 + (1 : Int32)) * (v1_5 + (1 : Int32))))).toNatClampNeg)))) (n := 714) (ws' := (wX12 cy a o (uX12_m S6 (upd (gX12_m S6) ((((462 : Int32) + v1_5)).toNatClampNeg) ((gX12_m S6) ((((462 : Int32) + ((((gX12_m S6) 11) / (65536 : Int32)) - (((gX12_m S6) 11) / (65536 : Int32)) / (v1_5 + (1 : Int32)) * (v1_5 + (1 : Int32))))).toNatClampNeg)))))) hx hb hK hP hD hS 1 0 rfl rfl (gIn_in g11) rfl rfl dX12_draw_87 (fun H locs hP hD hS => ?_)
        obtain ⟨S12, eS13, h⟩ := lt_elim h
        have hP : va_P D vwCl (wX12 cy a o S12) H := by rw [eS13]; exact hP
        have hD : va_D (va_A (wX12 cy a o S) s.heap.size) (wX12 cy a o S12) := by rw [eS13]; exact hD
        refine lv_aload_n hx hb dX12_draw_88 rfl (lv_at hl 2 rfl) ?_
        refine va_get (D := D) (ci := 12) (v := .ref (a (o + 1))) (C := RX12) (T := TX12) (N := 12) hx hb hts hinX12 hown hK hP 0 rfl rfl 0 (by decide) hf7 (fun _ h9 => h9) rfl dX12_draw_89 ?_
        refine lv_sipush (v := (462 : Int32)) hx hb dX12_draw_92 (by decide) ?_
        refine lv_iload_n hx hb dX12_draw_95 rfl (lv_at hl 1 rfl) ?_
        refine lv_iadd hx hb dX12_draw_96 ?_
        refine lv_iload_n hx hb dX12_draw_97 rfl (lv_at hl 0 rfl) ?_
        obtain ⟨g14, h⟩ := gd_some h
        refine r_ast (f := (gX12_m S12)) (f' := (upd (gX12_m S12) ((((462 : Int32) + ((((gX12_m S6) 11) / (65536 : Int32)) - (((gX12_m S6) 11) / (65536 : Int32)) / (v1_5 + (1 : Int32)) * (v1_5 + (1 : Int32))))).toNatClampNeg) ((gX12_m S6) ((((462 : Int32) + v1_5)).toNatClampNeg)))) (n := 714) (ws' := (wX12 cy a o (uX12_m S12 (upd (gX12_m S12) ((((462 : Int32) + ((((gX12_m S6) 11) / (65536 : Int32)) - (((gX12_m S6) 11) / (65536 : Int32)) / (v1_5 + (1 : Int32)) * (v1_5 + (1 : Int32))))).toNatClampNeg) ((gX12_m S6) ((((462 : Int32) + v1_5)).toNatClampNeg)))))) hx hb hK hP hD hS 1 0 rfl rfl (gIn_in g14) rfl rfl dX12_draw_98 (fun H locs hP hD hS => ?_)
        obtain ⟨S15, eS16, h⟩ := lt_elim h
        have hP : va_P D vwCl (wX12 cy a o S15) H := by rw [eS16]; exact hP
        have hD : va_D (va_A (wX12 cy a o S) s.heap.size) (wX12 cy a o S15) := by rw [eS16]; exact hD
        refine lv_iinc (v := (v1_5 + (-1 : Int32))) (lv' := [(1, .int (v1_5 + (-1 : Int32))), (3, .int ((gX12_m S6) ((((462 : Int32) + v1_5)).toNatClampNeg))), (2, .int ((((gX12_m S6) 11) / (65536 : Int32)) - (((gX12_m S6) 11) / (65536 : Int32)) / (v1_5 + (1 : Int32)) * (v1_5 + (1 : Int32)))), (0, .ref (a o))]) hx hb dX12_draw_99 hl (k := 3) rfl (by rfl) (by decide) rfl (fun ls hl => ?_)
        refine lv_goto (tgt := 10) hx hb dX12_draw_102 (by decide) ?_
        exact ih (v1_5 + (-1 : Int32)) S15 H locs ls h hP hD hS (lv_sub hl [3, 0] rfl)
  refine L17  _ ?_ fu (((gX12_m S) 7) - (1 : Int32)) S s.heap [] ls h hP hD hS (lv_sub hl [1, 0] rfl)
  intro S4 H locs ls h hP hD hS hl
  exact W.vret hx hb hr (fun t ht hW => ⟨⟨S4, rfl, some_in h, by rw [ht]; exact hP, hD⟩, hS.F ht⟩) hS.2.2 dX12_draw_105
set_option maxHeartbeats 4000000 in
set_option maxRecDepth 100000 in
theorem qX12_beginRound (l : Launch) (D : va_G) (cy : Nat → ClassId) (a : Nat → Nat) (o : Nat) (S : SX12) (p1 : Int32) (sz : Nat) (rs : SX12) (h : DX12_beginRound S p1 = some rs) : Met l yX12_beginRound wsX12_beginRound ({ frames := 4, cells := 0, slots := 0, locals := 104 } : Room) (mP D cy sz [.ref (a o), .int p1] (wX12 cy a o S)) (va_Qv (fun (u : SX12) => u = rs) (fun u t => mB D sz (wX12 cy a o S) (wX12 cy a o u) t) (va_A (wX12 cy a o S) sz)) 0 0 (va_A (wX12 cy a o S) sz) := by
  refine Met.ofW (cc := cX12_beginRound) (maxL := 3) (ret := none) (by decide) rfl ?_
  intro p e s m args below meth c s₁ B hml hv
  obtain ⟨rfl, hsz, hP, hG, hD0⟩ := hv
  have hx := B.exec
  have hb := B.bytes
  have hr := B.returns
  have hts := atoms_spec (ws := wsX12_beginRound) B.pre
  have hown : s.vm.findClass RX12 = some m.cls := findClass_of_methodNamed B.named
  have hlocks := B.notSynchronized
  have hK := hG.1
  subst hsz
  have hD := hD0.self (sz := s.heap.size)
  have hA : ∀ q : Nat, s.heap.size ≤ q → (va_A (wX12 cy a o S) s.heap.size) q := fun q h => Or.inr h
  have hS : va_S (va_A (wX12 cy a o S) s.heap.size) s.heap s.heap [] := va_S.rf
  have hinX12 := (by decide +kernel : ∀ w ∈ wsX120, w ∈ wsX12_beginRound)
  have hf7 := hts (.fieldLink RX12 7 "PianoRoundsModel" "m" "[I") (by decide +kernel)
  have hl := lv_entry ([.ref (a o), .int p1]) (n := 3) (Nat.le_of_ble_eq_true rfl)
  rw [lg_entry_eq]
  generalize (lg_sl ([.ref (a o), .int p1]) ++ List.replicate (3 - (lg_sl ([.ref (a o), .int p1])).length) Slot.unset).toArray = ls at hl ⊢
  have hl : lv_has ls 3 [(0, .ref (a o)), (1, .int p1)] := hl
  rw [DX12_beginRound] at h
  refine lv_aload_n hx hb dX12_beginRound_0 rfl (lv_at hl 0 rfl) ?_
  refine va_get (D := D) (ci := 12) (v := .ref (a (o + 1))) (C := RX12) (T := TX12) (N := 12) hx hb hts hinX12 hown hK hP 0 rfl rfl 0 (by decide) hf7 (fun _ h9 => h9) rfl dX12_beginRound_1 ?_
  refine lv_iconst (v := (4 : Int32)) hx hb dX12_beginRound_4 (by decide) ?_
  refine lv_iload_n hx hb dX12_beginRound_5 rfl (lv_at hl 1 rfl) ?_
  refine r_ast (f := (gX12_m S)) (f' := (upd (gX12_m S) 4 p1)) (n := 714) (ws' := (wX12 cy a o (uX12_m S (upd (gX12_m S) 4 p1)))) hx hb hK hP hD hS 1 0 rfl rfl (vp_in_nI (n := 4) (N := 714) (by decide) (by decide)) (updc (nI_clamp (n := 4) (by decide))) rfl dX12_beginRound_6 (fun H locs hP hD hS => ?_)
  obtain ⟨S1, eS2, h⟩ := lt_elim h
  have hP : va_P D vwCl (wX12 cy a o S1) H := by rw [eS2]; exact hP
  have hD : va_D (va_A (wX12 cy a o S) s.heap.size) (wX12 cy a o S1) := by rw [eS2]; exact hD
  refine lv_aload_n hx hb dX12_beginRound_7 rfl (lv_at hl 0 rfl) ?_
  refine va_get (D := D) (ci := 12) (v := .ref (a (o + 1))) (C := RX12) (T := TX12) (N := 12) hx hb hts hinX12 hown hK hP 0 rfl rfl 0 (by decide) hf7 (fun _ h9 => h9) rfl dX12_beginRound_8 ?_
  refine lv_iconst (v := (3 : Int32)) hx hb dX12_beginRound_11 (by decide) ?_
  refine lv_iconst (v := (1 : Int32)) hx hb dX12_beginRound_12 (by decide) ?_
  refine r_ast (f := (gX12_m S1)) (f' := (upd (gX12_m S1) 3 (1 : Int32))) (n := 714) (ws' := (wX12 cy a o (uX12_m S1 (upd (gX12_m S1) 3 (1 : Int32))))) hx hb hK hP hD hS 1 0 rfl rfl (vp_in_nI (n := 3) (N := 714) (by decide) (by decide)) (updc (nI_clamp (n := 3) (by decide))) rfl dX12_beginRound_13 (fun H locs hP hD hS => ?_)
  obtain ⟨S3, eS4, h⟩ := lt_elim h
  have hP : va_P D vwCl (wX12 cy a o S3) H := by rw [eS4]; exact hP
  have hD : va_D (va_A (wX12 cy a o S) s.heap.size) (wX12 cy a o S3) := by rw [eS4]; exact hD
  refine lv_aload_n hx hb dX12_beginRound_14 rfl (lv_at hl 0 rfl) ?_
  refine va_get (D := D) (ci := 12) (v := .ref (a (o + 1))) (C := RX12) (T := TX12) (N := 12) hx hb hts hinX12 hown hK hP 0 rfl rfl 0 (by decide) hf7 (fun _ h9 => h9) rfl dX12_beginRound_15 ?_
  refine lv_bipush (v := (7 : Int32)) hx hb dX12_beginRound_18 (by decide) ?_
  refine lv_iconst (v := (0 : Int32)) hx hb dX12_beginRound_20 (by decide) ?_
  refine r_ast (f := (gX12_m S3)) (f' := (upd (gX12_m S3) 7 (0 : Int32))) (n := 714) (ws' := (wX12 cy a o (uX12_m S3 (upd (gX12_m S3) 7 (0 : Int32))))) hx hb hK hP hD hS 1 0 rfl rfl (vp_in_nI (n := 7) (N := 714) (by decide) (by decide)) (updc (nI_clamp (n := 7) (by decide))) rfl dX12_beginRound_21 (fun H locs hP hD hS => ?_)
  obtain ⟨S5, eS6, h⟩ := lt_elim h
  have hP : va_P D vwCl (wX12 cy a o S5) H := by rw [eS6]; exact hP
  have hD : va_D (va_A (wX12 cy a o S) s.heap.size) (wX12 cy a o S5) := by rw [eS6]; exact hD
  refine lv_aload_n hx hb dX12_beginRound_22 rfl (lv_at hl 0 rfl) ?_
  refine va_get (D := D) (ci := 12) (v := .ref (a (o + 1))) (C := RX12) (T := TX12) (N := 12) hx hb hts hinX12 hown hK hP 0 rfl rfl 0 (by decide) hf7 (fun _ h9 => h9) rfl dX12_beginRound_23 ?_
  refine lv_bipush (v := (8 : Int32)) hx hb dX12_beginRound_26 (by decide) ?_
  refine lv_iconst (v := (0 : Int32)) hx hb dX12_beginRound_28 (by decide) ?_
  refine r_ast (f := (gX12_m S5)) (f' := (upd (gX12_m S5) 8 (0 : Int32))) (n := 714) (ws' := (wX12 cy a o (uX12_m S5 (upd (gX12_m S5) 8 (0 : Int32))))) hx hb hK hP hD hS 1 0 rfl rfl (vp_in_nI (n := 8) (N := 714) (by decide) (by decide)) (updc (nI_clamp (n := 8) (by decide))) rfl dX12_beginRound_29 (fun H locs hP hD hS => ?_)
  obtain ⟨S7, eS8, h⟩ := lt_elim h
  have hP : va_P D vwCl (wX12 cy a o S7) H := by rw [eS8]; exact hP
  have hD : va_D (va_A (wX12 cy a o S) s.heap.size) (wX12 cy a o S7) := by rw [eS8]; exact hD
  refine lv_aload_n hx hb dX12_beginRound_30 rfl (lv_at hl 0 rfl) ?_
  obtain ⟨x9, e10, h⟩ := bd_some h
  refine smVv (As := []) (rest := []) (ws' := (wX12 cy a o x9)) (q0 := 0) (qX12_clearMarks l D cy a o S7  (H).size x9 e10) ⟨hx, hb, hml, hown, hts⟩ (cwV 0 hts gX12_beginRound_X12_clearMarks rfl rfl rfl (by decide +kernel) ⟨Nat.le_of_ble_eq_true rfl, Nat.le_of_ble_eq_true rfl⟩) hG hP hD hS hA (pm1 (X := ([] : va_W)) (c := (wX12 cy a o S7)) (Y := ([] : va_W)) (show (wX12 cy a o S7) = ([] : va_W) ++ ((wX12 cy a o S7) ++ ([] : va_W)) from by simp only [List.append_assoc, List.nil_append, List.append_nil] <;> rfl)) (pm1 (X := ([] : va_W)) (c := (wX12 cy a o x9)) (Y := ([] : va_W)) (show (wX12 cy a o x9) = ([] : va_W) ++ ((wX12 cy a o x9) ++ ([] : va_W)) from by simp only [List.append_assoc, List.nil_append, List.append_nil] <;> rfl)) rfl rfl rfl hl.1 rfl (Nat.le_of_ble_eq_true rfl) dX12_beginRound_31 ⟨Nat.zero_le _, Nat.zero_le _⟩ (fun H locs hP hD hS => ?_)
  refine lv_iconst (v := (0 : Int32)) hx hb dX12_beginRound_34 (by decide) ?_
  refine lv_istore_n (lv' := [(2, .int (0 : Int32)), (0, .ref (a o)), (1, .int p1)]) hx hb dX12_beginRound_35 rfl hl (by decide) rfl (fun ls hl => ?_)
  have L40 : ∀ (c1_11 : Int32) (k13 : SX12 → Option (SX12)) (hk13 : ∀ (S14 : SX12) (H : Heap) (locs : List Loc) (ls : Array Slot), k13 S14 = some rs → va_P D vwCl (wX12 cy a o S14) H → va_D (va_A (wX12 cy a o S) s.heap.size) (wX12 cy a o S14) → va_S (va_A (wX12 cy a o S) s.heap.size) s.heap H locs → lv_has ls 3 [(0, .ref (a o))] → W p l e (headSpec wsX12_beginRound ({ frames := 4, cells := 0, slots := 0, locals := 104 } : Room)).room s m ([.ref (a o), .int p1] : List Value).toArray below meth c H locs 0 0 (MQ below (va_Qv (fun (u : SX12) => u = rs) (fun u t => mB D s.heap.size (wX12 cy a o S) (wX12 cy a o u) t) (va_A (wX12 cy a o S) s.heap.size)) ([.ref (a o), .int p1] : List Value).toArray s 0 0 (va_A (wX12 cy a o S) s.heap.size)) (F0 m 130 ls [])) (f : Nat) (v2_22 : Int32) (S12 : SX12) (H : Heap) (locs : List Loc) (ls : Array Slot), DX12_beginRound_L36 c1_11 k13 f v2_22 S12 = some rs → va_P D vwCl (wX12 cy a o S12) H → va_D (va_A (wX12 cy a o S) s.heap.size) (wX12 cy a o S12) → va_S (va_A (wX12 cy a o S) s.heap.size) s.heap H locs → lv_has ls 3 [(0, .ref (a o)), (1, .int c1_11), (2, .int v2_22)] → W p l e (headSpec wsX12_beginRound ({ frames := 4, cells := 0, slots := 0, locals := 104 } : Room)).room s m ([.ref (a o), .int p1] : List Value).toArray below meth c H locs 0 0 (MQ below (va_Qv (fun (u : SX12) => u = rs) (fun u t => mB D s.heap.size (wX12 cy a o S) (wX12 cy a o u) t) (va_A (wX12 cy a o S) s.heap.size)) ([.ref (a o), .int p1] : List Value).toArray s 0 0 (va_A (wX12 cy a o S) s.heap.size)) (F0 m 36 ls []) := by
    intro c1_11 k13 hk13 f
    induction f with
    | zero =>
      intro v2_22 S12 H locs ls h hP hD hS hl
      rw [DX12_beginRound_L36] at h
      cases h
    | succ f ih =>
      intro v2_22 S12 H locs ls h hP hD hS hl
      rw [DX12_beginRound_L36] at h
      refine lv_iload_n hx hb dX12_beginRound_36 rfl (lv_at hl 2 rfl) ?_
      refine lv_aload_n hx hb dX12_beginRound_37 rfl (lv_at hl 0 rfl) ?_
      refine va_get (D := D) (ci := 12) (v := .ref (a (o + 1))) (C := RX12) (T := TX12) (N := 12) hx hb hts hinX12 hown hK hP 0 rfl rfl 0 (by decide) hf7 (fun _ h9 => h9) rfl dX12_beginRound_38 ?_
      refine lv_bipush (v := (6 : Int32)) hx hb dX12_beginRound_41 (by decide) ?_
      refine r_ald (f := (gX12_m S12)) (n := 714) (v := ((gX12_m S12) 6)) hx hb hK hP 1 0 rfl rfl (vp_in_nI (n := 6) (N := 714) (by decide) (by decide)) (congrArg (gX12_m S12) (nI_clamp (n := 6) (by decide))) dX12_beginRound_43 ?_
      refine lv_icmp_ge (tgt := 130) hx hb dX12_beginRound_44 (by decide) (fun cc => ?_) (fun cc => ?_)
      · have h := ite_p cc h
        exact hk13 S12 H locs ls h hP hD hS (lv_sub hl [0] rfl)
      · have h := ite_n cc h
        refine lv_aload_n hx hb dX12_beginRound_47 rfl (lv_at hl 0 rfl) ?_
        refine va_get (D := D) (ci := 12) (v := .ref (a (o + 1))) (C := RX12) (T := TX12) (N := 12) hx hb hts hinX12 hown hK hP 0 rfl rfl 0 (by decide) hf7 (fun _ h9 => h9) rfl dX12_beginRound_48 ?_
        refine lv_bipush (v := (126 : Int32)) hx hb dX12_beginRound_51 (by decide) ?_
        refine lv_iload_n hx hb dX12_beginRound_53 rfl (lv_at hl 2 rfl) ?_
        refine lv_iadd hx hb dX12_beginRound_54 ?_
        refine lv_aload_n hx hb dX12_beginRound_55 rfl (lv_at hl 0 rfl) ?_
        refine va_get (D := D) (ci := 12) (v := .ref (a (o + 1))) (C := RX12) (T := TX12) (N := 12) hx hb hts hinX12 hown hK hP 0 rfl rfl 0 (by decide) hf7 (fun _ h9 => h9) rfl dX12_beginRound_56 ?_
        refine lv_bipush (v := (126 : Int32)) hx hb dX12_beginRound_59 (by decide) ?_
        refine lv_iload_n hx hb dX12_beginRound_61 rfl (lv_at hl 2 rfl) ?_
        refine lv_iadd hx hb dX12_beginRound_62 ?_
        obtain ⟨g23, h⟩ := gd_some h
        refine r_ald (f := (gX12_m S12)) (n := 714) (v := ((gX12_m S12) ((((126 : Int32) + v2_22)).toNatClampNeg))) hx hb hK hP 1 0 rfl rfl (gIn_in g23) rfl dX12_beginRound_63 ?_
        refine lv_iconst (v := (1 : Int32)) hx hb dX12_beginRound_64 (by decide) ?_
        obtain ⟨j25, hj25, h⟩ := jn_elim h
        have Jj25 : ∀ (x24 : Int32) (ls : Array Slot), j25 x24 = some rs → lv_has ls 3 [(0, .ref (a o)), (1, .int c1_11), (2, .int v2_22)] → W p l e (headSpec wsX12_beginRound ({ frames := 4, cells := 0, slots := 0, locals := 104 } : Room)).room s m ([.ref (a o), .int p1] : List Value).toArray below meth c H locs 0 0 (MQ below (va_Qv (fun (u : SX12) => u = rs) (fun u t => mB D s.heap.size (wX12 cy a o S) (wX12 cy a o u) t) (va_A (wX12 cy a o S) s.heap.size)) ([.ref (a o), .int p1] : List Value).toArray s 0 0 (va_A (wX12 cy a o S) s.heap.size)) (F0 m 82 ls [.int x24, .int ((126 : Int32) + v2_22), .ref (a (o + 1))]) := by
          intro x24 ls h hl
          rw [hj25] at h
          obtain ⟨g26, h⟩ := gd_some h
          refine r_ast (f := (gX12_m S12)) (f' := (upd (gX12_m S12) ((((126 : Int32) + v2_22)).toNatClampNeg) x24)) (n := 714) (ws' := (wX12 cy a o (uX12_m S12 (upd (gX12_m S12) ((((126 : Int32) + v2_22)).toNatClampNeg) x24)))) hx hb hK hP hD hS 1 0 rfl rfl (gIn_in g26) rfl rfl dX12_beginRound_82 (fun H locs hP hD hS => ?_)
          obtain ⟨S27, eS28, h⟩ := lt_elim h
          have hP : va_P D vwCl (wX12 cy a o S27) H := by rw [eS28]; exact hP
          have hD : va_D (va_A (wX12 cy a o S) s.heap.size) (wX12 cy a o S27) := by rw [eS28]; exact hD
          refine lv_aload_n hx hb dX12_beginRound_83 rfl (lv_at hl 0 rfl) ?_
          refine va_get (D := D) (ci := 12) (v := .ref (a (o + 1))) (C := RX12) (T := TX12) (N := 12) hx hb hts hinX12 hown hK hP 0 rfl rfl 0 (by decide) hf7 (fun _ h9 => h9) rfl dX12_beginRound_84 ?_
          refine lv_bipush (v := (126 : Int32)) hx hb dX12_beginRound_87 (by decide) ?_
          refine lv_iload_n hx hb dX12_beginRound_89 rfl (lv_at hl 2 rfl) ?_
          refine lv_iadd hx hb dX12_beginRound_90 ?_
          obtain ⟨g29, h⟩ := gd_some h
          refine r_ald (f := (gX12_m S27)) (n := 714) (v := ((gX12_m S27) ((((126 : Int32) + v2_22)).toNatClampNeg))) hx hb hK hP 1 0 rfl rfl (gIn_in g29) rfl dX12_beginRound_91 ?_
          refine lv_iconst (v := (1 : Int32)) hx hb dX12_beginRound_92 (by decide) ?_
          obtain ⟨j31, hj31, h⟩ := jn_elim h
          have Jj31 : ∀ (S30 : SX12) (H : Heap) (locs : List Loc) (ls : Array Slot), j31 S30 = some rs → va_P D vwCl (wX12 cy a o S30) H → va_D (va_A (wX12 cy a o S) s.heap.size) (wX12 cy a o S30) → va_S (va_A (wX12 cy a o S) s.heap.size) s.heap H locs → lv_has ls 3 [(0, .ref (a o)), (1, .int c1_11), (2, .int v2_22)] → W p l e (headSpec wsX12_beginRound ({ frames := 4, cells := 0, slots := 0, locals := 104 } : Room)).room s m ([.ref (a o), .int p1] : List Value).toArray below meth c H locs 0 0 (MQ below (va_Qv (fun (u : SX12) => u = rs) (fun u t => mB D s.heap.size (wX12 cy a o S) (wX12 cy a o u) t) (va_A (wX12 cy a o S) s.heap.size)) ([.ref (a o), .int p1] : List Value).toArray s 0 0 (va_A (wX12 cy a o S) s.heap.size)) (F0 m 124 ls []) := by
            intro S30 H locs ls h hP hD hS hl
            rw [hj31] at h
            refine lv_iinc (v := (v2_22 + (1 : Int32))) (lv' := [(2, .int (v2_22 + (1 : Int32))), (0, .ref (a o)), (1, .int c1_11)]) hx hb dX12_beginRound_124 hl (k := 2) rfl (by rfl) (by decide) rfl (fun ls hl => ?_)
            refine lv_goto (tgt := 36) hx hb dX12_beginRound_127 (by decide) ?_
            exact ih (v2_22 + (1 : Int32)) S30 H locs ls h hP hD hS (lv_sub hl [1, 2, 0] rfl)
          refine lv_icmp_ne (tgt := 124) hx hb dX12_beginRound_93 (by decide) (fun cc => ?_) (fun cc => ?_)
          · have h := ite_n cc h
            exact Jj31 S27 H locs ls h hP hD hS (lv_sub hl [0, 1, 2] rfl)
          · have h := ite_p cc h
            refine lv_aload_n hx hb dX12_beginRound_96 rfl (lv_at hl 0 rfl) ?_
            refine va_get (D := D) (ci := 12) (v := .ref (a (o + 1))) (C := RX12) (T := TX12) (N := 12) hx hb hts hinX12 hown hK hP 0 rfl rfl 0 (by decide) hf7 (fun _ h9 => h9) rfl dX12_beginRound_97 ?_
            refine lv_sipush (v := (462 : Int32)) hx hb dX12_beginRound_100 (by decide) ?_
            refine lv_aload_n hx hb dX12_beginRound_103 rfl (lv_at hl 0 rfl) ?_
            refine va_get (D := D) (ci := 12) (v := .ref (a (o + 1))) (C := RX12) (T := TX12) (N := 12) hx hb hts hinX12 hown hK hP 0 rfl rfl 0 (by decide) hf7 (fun _ h9 => h9) rfl dX12_beginRound_104 ?_
            refine lv_bipush (v := (7 : Int32)) hx hb dX12_beginRound_107 (by decide) ?_
            refine r_ald (f := (gX12_m S27)) (n := 714) (v := ((gX12_m S27) 7)) hx hb hK hP 1 0 rfl rfl (vp_in_nI (n := 7) (N := 714) (by decide) (by decide)) (congrArg (gX12_m S27) (nI_clamp (n := 7) (by decide))) dX12_beginRound_109 ?_
            refine lv_iadd hx hb dX12_beginRound_110 ?_
            refine lv_iload_n hx hb dX12_beginRound_111 rfl (lv_at hl 2 rfl) ?_
            obtain ⟨g32, h⟩ := gd_some h
            refine r_ast (f := (gX12_m S27)) (f' := (upd (gX12_m S27) ((((462 : Int32) + ((gX12_m S27) 7))).toNatClampNeg) v2_22)) (n := 714) (ws' := (wX12 cy a o (uX12_m S27 (upd (gX12_m S27) ((((462 : Int32) + ((gX12_m S27) 7))).toNatClampNeg) v2_22)))) hx hb hK hP hD hS 1 0 rfl rfl (gIn_in g32) rfl rfl dX12_beginRound_112 (fun H locs hP hD hS => ?_)
            obtain ⟨S33, eS34, h⟩ := lt_elim h
            have hP : va_P D vwCl (wX12 cy a o S33) H := by rw [eS34]; exact hP
            have hD : va_D (va_A (wX12 cy a o S) s.heap.size) (wX12 cy a o S33) := by rw [eS34]; exact hD
            refine lv_aload_n hx hb dX12_beginRound_113 rfl (lv_at hl 0 rfl) ?_
            refine va_get (D := D) (ci := 12) (v := .ref (a (o + 1))) (C := RX12) (T := TX12) (N := 12) hx hb hts hinX12 hown hK hP 0 rfl rfl 0 (by decide) hf7 (fun _ h9 => h9) rfl dX12_beginRound_114 ?_
            refine lv_bipush (v := (7 : Int32)) hx hb dX12_beginRound_117 (by decide) ?_
            refine lv_dup2_11 hx hb dX12_beginRound_119 rfl rfl ?_
            refine r_ald (f := (gX12_m S33)) (n := 714) (v := ((gX12_m S33) 7)) hx hb hK hP 1 0 rfl rfl (vp_in_nI (n := 7) (N := 714) (by decide) (by decide)) (congrArg (gX12_m S33) (nI_clamp (n := 7) (by decide))) dX12_beginRound_120 ?_
            refine lv_iconst (v := (1 : Int32)) hx hb dX12_beginRound_121 (by decide) ?_
            refine lv_iadd hx hb dX12_beginRound_122 ?_
            refine r_ast (f := (gX12_m S33)) (f' := (upd (gX12_m S33) 7 (((gX12_m S33) 7) + (1 : Int32)))) (n := 714) (ws' := (wX12 cy a o (uX12_m S33 (upd (gX12_m S33) 7 (((gX12_m S33) 7) + (1 : Int32)))))) hx hb hK hP hD hS 1 0 rfl rfl (vp_in_nI (n := 7) (N := 714) (by decide) (by decide)) (updc (nI_clamp (n := 7) (by decide))) rfl dX12_beginRound_123 (fun H locs hP hD hS => ?_)
            obtain ⟨S35, eS36, h⟩ := lt_elim h
            have hP : va_P D vwCl (wX12 cy a o S35) H := by rw [eS36]; exact hP
            have hD : va_D (va_A (wX12 cy a o S) s.heap.size) (wX12 cy a o S35) := by rw [eS36]; exact hD
            exact Jj31 S35 H locs ls h hP hD hS (lv_sub hl [0, 1, 2] rfl)
        obtain ⟨j37, hj37, h⟩ := jn_elim h
        have Jj37 : ∀ (ls : Array Slot), j37 () = some rs → lv_has ls 3 [(0, .ref (a o)), (1, .int c1_11), (2, .int v2_22)] → W p l e (headSpec wsX12_beginRound ({ frames := 4, cells := 0, slots := 0, locals := 104 } : Room)).room s m ([.ref (a o), .int p1] : List Value).toArray below meth c H locs 0 0 (MQ below (va_Qv (fun (u : SX12) => u = rs) (fun u t => mB D s.heap.size (wX12 cy a o S) (wX12 cy a o u) t) (va_A (wX12 cy a o S) s.heap.size)) ([.ref (a o), .int p1] : List Value).toArray s 0 0 (va_A (wX12 cy a o S) s.heap.size)) (F0 m 81 ls [.int ((126 : Int32) + v2_22), .ref (a (o + 1))]) := by
          intro ls h hl
          rw [hj37] at h
          refine lv_iconst (v := (0 : Int32)) hx hb dX12_beginRound_81 (by decide) ?_
          exact Jj25 (0 : Int32) ls h (lv_sub hl [0, 1, 2] rfl)
        refine lv_icmp_ne (tgt := 81) hx hb dX12_beginRound_65 (by decide) (fun cc => ?_) (fun cc => ?_)
        · have h := ite_n cc h
          exact Jj37  ls h (lv_sub hl [0, 1, 2] rfl)
        · have h := ite_p cc h
          refine lv_aload_n hx hb dX12_beginRound_68 rfl (lv_at hl 0 rfl) ?_
          refine lv_iload_n hx hb dX12_beginRound_69 rfl (lv_at hl 2 rfl) ?_
          refine lv_iload_n hx hb dX12_beginRound_70 rfl (lv_at hl 1 rfl) ?_
          obtain ⟨x38, e39, h⟩ := bd_some h
          refine pcV (As := [.int v2_22, .int c1_11]) (rest := [.int ((126 : Int32) + v2_22), .ref (a (o + 1))]) (q0 := 0) (qX12_flawOf l D cy a o S12 v2_22 c1_11 x38 e39) ⟨hx, hb, hml, hown, hts⟩ (cwV 2 hts gX12_beginRound_X12_flawOf rfl rfl rfl (by decide +kernel) ⟨Nat.le_of_ble_eq_true rfl, Nat.le_of_ble_eq_true rfl⟩) hG hP rfl rfl rfl hl.1 rfl (Nat.le_of_ble_eq_true rfl) dX12_beginRound_71 ⟨Nat.zero_le _, Nat.zero_le _⟩ ?_
          refine lv_if_ne (tgt := 81) hx hb dX12_beginRound_74 (by decide) (fun cc => ?_) (fun cc => ?_)
          · have h := ite_n cc h
            exact Jj37  ls h (lv_sub hl [0, 1, 2] rfl)
          · have h := ite_p cc h
            refine lv_iconst (v := (1 : Int32)) hx hb dX12_beginRound_77 (by decide) ?_
            refine lv_goto (tgt := 82) hx hb dX12_beginRound_78 (by decide) ?_
            exact Jj25 (1 : Int32) ls h (lv_sub hl [0, 1, 2] rfl)
  refine L40 p1 _ ?_ fu (0 : Int32) x9 H locs ls h hP hD hS (lv_sub hl [1, 2, 0] rfl)
  intro S15 H locs ls h hP hD hS hl
  refine lv_aload_n hx hb dX12_beginRound_130 rfl (lv_at hl 0 rfl) ?_
  refine va_get (D := D) (ci := 12) (v := .ref (a (o + 1))) (C := RX12) (T := TX12) (N := 12) hx hb hts hinX12 hown hK hP 0 rfl rfl 0 (by decide) hf7 (fun _ h9 => h9) rfl dX12_beginRound_131 ?_
  refine lv_iconst (v := (3 : Int32)) hx hb dX12_beginRound_134 (by decide) ?_
  refine lv_aload_n hx hb dX12_beginRound_135 rfl (lv_at hl 0 rfl) ?_
  refine va_get (D := D) (ci := 12) (v := .ref (a (o + 1))) (C := RX12) (T := TX12) (N := 12) hx hb hts hinX12 hown hK hP 0 rfl rfl 0 (by decide) hf7 (fun _ h9 => h9) rfl dX12_beginRound_136 ?_
  refine lv_bipush (v := (7 : Int32)) hx hb dX12_beginRound_139 (by decide) ?_
  refine r_ald (f := (gX12_m S15)) (n := 714) (v := ((gX12_m S15) 7)) hx hb hK hP 1 0 rfl rfl (vp_in_nI (n := 7) (N := 714) (by decide) (by decide)) (congrArg (gX12_m S15) (nI_clamp (n := 7) (by decide))) dX12_beginRound_141 ?_
  obtain ⟨j17, hj17, h⟩ := jn_elim h
  have Jj17 : ∀ (x16 : Int32) (ls : Array Slot), j17 x16 = some rs → lv_has ls 3 [(0, .ref (a o))] → W p l e (headSpec wsX12_beginRound ({ frames := 4, cells := 0, slots := 0, locals := 104 } : Room)).room s m ([.ref (a o), .int p1] : List Value).toArray below meth c H locs 0 0 (MQ below (va_Qv (fun (u : SX12) => u = rs) (fun u t => mB D s.heap.size (wX12 cy a o S) (wX12 cy a o u) t) (va_A (wX12 cy a o S) s.heap.size)) ([.ref (a o), .int p1] : List Value).toArray s 0 0 (va_A (wX12 cy a o S) s.heap.size)) (F0 m 150 ls [.int x16, .int (3 : Int32), .ref (a (o + 1))]) := by
    intro x16 ls h hl
    rw [hj17] at h
    refine r_ast (f := (gX12_m S15)) (f' := (upd (gX12_m S15) 3 x16)) (n := 714) (ws' := (wX12 cy a o (uX12_m S15 (upd (gX12_m S15) 3 x16)))) hx hb hK hP hD hS 1 0 rfl rfl (vp_in_nI (n := 3) (N := 714) (by decide) (by decide)) (updc (nI_clamp (n := 3) (by decide))) rfl dX12_beginRound_150 (fun H locs hP hD hS => ?_)
    obtain ⟨S18, eS19, h⟩ := lt_elim h
    have hP : va_P D vwCl (wX12 cy a o S18) H := by rw [eS19]; exact hP
    have hD : va_D (va_A (wX12 cy a o S) s.heap.size) (wX12 cy a o S18) := by rw [eS19]; exact hD
    refine lv_aload_n hx hb dX12_beginRound_151 rfl (lv_at hl 0 rfl) ?_
    obtain ⟨x20, e21, h⟩ := bd_some h
    refine smVv (As := []) (rest := []) (ws' := (wX12 cy a o x20)) (q0 := 0) (qX12_draw l D cy a o S18  (H).size x20 e21) ⟨hx, hb, hml, hown, hts⟩ (cwV 0 hts gX12_beginRound_X12_draw rfl rfl rfl (by decide +kernel) ⟨Nat.le_of_ble_eq_true rfl, Nat.le_of_ble_eq_true rfl⟩) hG hP hD hS hA (pm1 (X := ([] : va_W)) (c := (wX12 cy a o S18)) (Y := ([] : va_W)) (show (wX12 cy a o S18) = ([] : va_W) ++ ((wX12 cy a o S18) ++ ([] : va_W)) from by simp only [List.append_assoc, List.nil_append, List.append_nil] <;> rfl)) (pm1 (X := ([] : va_W)) (c := (wX12 cy a o x20)) (Y := ([] : va_W)) (show (wX12 cy a o x20) = ([] : va_W) ++ ((wX12 cy a o x20) ++ ([] : va_W)) from by simp only [List.append_assoc, List.nil_append, List.append_nil] <;> rfl)) rfl rfl rfl hl.1 rfl (Nat.le_of_ble_eq_true rfl) dX12_beginRound_152 ⟨Nat.zero_le _, Nat.zero_le _⟩ (fun H locs hP hD hS => ?_)
    exact W.vret hx hb hr (fun t ht hW => ⟨⟨x20, rfl, some_in h, by rw [ht]; exact hP, hD⟩, hS.F ht⟩) hS.2.2 dX12_beginRound_155
  refine lv_if_ne (tgt := 149) hx hb dX12_beginRound_142 (by decide) (fun cc => ?_) (fun cc => ?_)
  · have h := ite_n cc h
    refine lv_iconst (v := (1 : Int32)) hx hb dX12_beginRound_149 (by decide) ?_
    exact Jj17 (1 : Int32) ls h (lv_sub hl [0] rfl)
  · have h := ite_p cc h
    refine lv_iconst (v := (3 : Int32)) hx hb dX12_beginRound_145 (by decide) ?_
    refine lv_goto (tgt := 150) hx hb dX12_beginRound_146 (by decide) ?_
    exact Jj17 (3 : Int32) ls h (lv_sub hl [0] rfl)
set_option maxHeartbeats 4000000 in
set_option maxRecDepth 100000 in
theorem qX12_begin (l : Launch) (D : va_G) (cy : Nat → ClassId) (a : Nat → Nat) (o : Nat) (S : SX12) (p1 : Int32) (sz : Nat) (rs : Int32 × SX12) (h : DX12_begin S p1 = some rs) : Met l yX12_begin wsX12_begin ({ frames := 5, cells := 0, slots := 0, locals := 126 } : Room) (mP D cy sz [.ref (a o), .int p1] (wX12 cy a o S)) (va_Qi (fun r (u : SX12) => (r, u) = rs) (fun u t => mB D sz (wX12 cy a o S) (wX12 cy a o u) t) (va_A (wX12 cy a o S) sz)) 0 0 (va_A (wX12 cy a o S) sz) := by
  refine Met.ofW (cc := cX12_begin) (maxL := 2) (ret := (some .int)) (by decide) rfl ?_
  intro p e s m args below meth c s₁ B hml hv
  obtain ⟨rfl, hsz, hP, hG, hD0⟩ := hv
  have hx := B.exec
  have hb := B.bytes
  have hr := B.returns
  have hts := atoms_spec (ws := wsX12_begin) B.pre
  have hown : s.vm.findClass RX12 = some m.cls := findClass_of_methodNamed B.named
  have hlocks := B.notSynchronized
  have hK := hG.1
  subst hsz
  have hD := hD0.self (sz := s.heap.size)
  have hA : ∀ q : Nat, s.heap.size ≤ q → (va_A (wX12 cy a o S) s.heap.size) q := fun q h => Or.inr h
  have hS : va_S (va_A (wX12 cy a o S) s.heap.size) s.heap s.heap [] := va_S.rf
  have hinX12 := (by decide +kernel : ∀ w ∈ wsX120, w ∈ wsX12_begin)
  have hf31 := hts (.fieldLink RX12 31 "PianoRoundsModel" "code" "I") (by decide +kernel)
  have hf7 := hts (.fieldLink RX12 7 "PianoRoundsModel" "m" "[I") (by decide +kernel)
  have hl := lv_entry ([.ref (a o), .int p1]) (n := 2) (Nat.le_of_ble_eq_true rfl)
  rw [lg_entry_eq]
  generalize (lg_sl ([.ref (a o), .int p1]) ++ List.replicate (2 - (lg_sl ([.ref (a o), .int p1])).length) Slot.unset).toArray = ls at hl ⊢
  have hl : lv_has ls 2 [(0, .ref (a o)), (1, .int p1)] := hl
  rw [DX12_begin] at h
  refine lv_aload_n hx hb dX12_begin_0 rfl (lv_at hl 0 rfl) ?_
  refine lv_iload_n hx hb dX12_begin_1 rfl (lv_at hl 1 rfl) ?_
  obtain ⟨j2, hj2, h⟩ := jn_elim h
  have Jj2 : ∀ (x1 : Int32) (ls : Array Slot), j2 x1 = some rs → lv_has ls 2 [(0, .ref (a o)), (1, .int p1)] → W p l e (headSpec wsX12_begin ({ frames := 5, cells := 0, slots := 0, locals := 126 } : Room)).room s m ([.ref (a o), .int p1] : List Value).toArray below meth c s.heap [] 0 0 (MQ below (va_Qi (fun r (u : SX12) => (r, u) = rs) (fun u t => mB D s.heap.size (wX12 cy a o S) (wX12 cy a o u) t) (va_A (wX12 cy a o S) s.heap.size)) ([.ref (a o), .int p1] : List Value).toArray s 0 0 (va_A (wX12 cy a o S) s.heap.size)) (F0 m 23 ls [.int x1, .ref (a o)]) := by
    intro x1 ls h hl
    rw [hj2] at h
    refine va_put (D := D) (ci := 12) (v := .int x1) (ty := .int) (C := RX12) (T := TX12) (N := 12) hx hb hts hinX12 tyX12 tyX12_ok nmX12 hown hK hP hD hS 0 rfl rfl 5 (by decide) hf31 (fun _ h9 => h9) rfl (by decide +kernel) rfl rfl (Nat.le_of_ble_eq_true rfl) dX12_begin_23 (fun H locs hP hD hS => ?_)
    have hP : va_P D vwCl (wX12 cy a o (uX12_code S x1)) H := hP
    have hD : va_D (va_A (wX12 cy a o S) s.heap.size) (wX12 cy a o (uX12_code S x1)) := hD
    obtain ⟨S3, eS4, h⟩ := lt_elim h
    have hP : va_P D vwCl (wX12 cy a o S3) H := by rw [eS4]; exact hP
    have hD : va_D (va_A (wX12 cy a o S) s.heap.size) (wX12 cy a o S3) := by rw [eS4]; exact hD
    refine lv_aload_n hx hb dX12_begin_26 rfl (lv_at hl 0 rfl) ?_
    refine va_get (D := D) (ci := 12) (v := .int (gX12_code S3)) (C := RX12) (T := TX12) (N := 12) hx hb hts hinX12 hown hK hP 0 rfl rfl 5 (by decide) hf31 (fun _ h9 => h9) rfl dX12_begin_27 ?_
    refine lv_if_eq (tgt := 35) hx hb dX12_begin_30 (by decide) (fun cc => ?_) (fun cc => ?_)
    · have h := ite_p cc h
      refine lv_aload_n hx hb dX12_begin_35 rfl (lv_at hl 0 rfl) ?_
      obtain ⟨x5, e6, h⟩ := bd_some h
      refine smVv (As := []) (rest := []) (ws' := (wX12 cy a o x5)) (q0 := 0) (qX12_keep l D cy a o S3  (H).size x5 e6) ⟨hx, hb, hml, hown, hts⟩ (cwV 0 hts gX12_begin_X12_keep rfl rfl rfl (by decide +kernel) ⟨Nat.le_of_ble_eq_true rfl, Nat.le_of_ble_eq_true rfl⟩) hG hP hD hS hA (pm1 (X := ([] : va_W)) (c := (wX12 cy a o S3)) (Y := ([] : va_W)) (show (wX12 cy a o S3) = ([] : va_W) ++ ((wX12 cy a o S3) ++ ([] : va_W)) from by simp only [List.append_assoc, List.nil_append, List.append_nil] <;> rfl)) (pm1 (X := ([] : va_W)) (c := (wX12 cy a o x5)) (Y := ([] : va_W)) (show (wX12 cy a o x5) = ([] : va_W) ++ ((wX12 cy a o x5) ++ ([] : va_W)) from by simp only [List.append_assoc, List.nil_append, List.append_nil] <;> rfl)) rfl rfl rfl hl.1 rfl (Nat.le_of_ble_eq_true rfl) dX12_begin_36 ⟨Nat.zero_le _, Nat.zero_le _⟩ (fun H locs hP hD hS => ?_)
      refine lv_aload_n hx hb dX12_begin_39 rfl (lv_at hl 0 rfl) ?_
      refine va_get (D := D) (ci := 12) (v := .ref (a (o + 1))) (C := RX12) (T := TX12) (N := 12) hx hb hts hinX12 hown hK hP 0 rfl rfl 0 (by decide) hf7 (fun _ h9 => h9) rfl dX12_begin_40 ?_
      refine lv_bipush (v := (11 : Int32)) hx hb dX12_begin_43 (by decide) ?_
      refine lv_iload_n hx hb dX12_begin_45 rfl (lv_at hl 1 rfl) ?_
      refine r_ast (f := (gX12_m x5)) (f' := (upd (gX12_m x5) 11 p1)) (n := 714) (ws' := (wX12 cy a o (uX12_m x5 (upd (gX12_m x5) 11 p1)))) hx hb hK hP hD hS 1 0 rfl rfl (vp_in_nI (n := 11) (N := 714) (by decide) (by decide)) (updc (nI_clamp (n := 11) (by decide))) rfl dX12_begin_46 (fun H locs hP hD hS => ?_)
      obtain ⟨S7, eS8, h⟩ := lt_elim h
      have hP : va_P D vwCl (wX12 cy a o S7) H := by rw [eS8]; exact hP
      have hD : va_D (va_A (wX12 cy a o S) s.heap.size) (wX12 cy a o S7) := by rw [eS8]; exact hD
      refine lv_aload_n hx hb dX12_begin_47 rfl (lv_at hl 0 rfl) ?_
      refine lv_iconst (v := (0 : Int32)) hx hb dX12_begin_48 (by decide) ?_
      obtain ⟨x9, e10, h⟩ := bd_some h
      refine smVv (As := [.int (0 : Int32)]) (rest := []) (ws' := (wX12 cy a o x9)) (q0 := 0) (qX12_beginRound l D cy a o S7 (0 : Int32) (H).size x9 e10) ⟨hx, hb, hml, hown, hts⟩ (cwV 1 hts gX12_begin_X12_beginRound rfl rfl rfl (by decide +kernel) ⟨Nat.le_of_ble_eq_true rfl, Nat.le_of_ble_eq_true rfl⟩) hG hP hD hS hA (pm1 (X := ([] : va_W)) (c := (wX12 cy a o S7)) (Y := ([] : va_W)) (show (wX12 cy a o S7) = ([] : va_W) ++ ((wX12 cy a o S7) ++ ([] : va_W)) from by simp only [List.append_assoc, List.nil_append, List.append_nil] <;> rfl)) (pm1 (X := ([] : va_W)) (c := (wX12 cy a o x9)) (Y := ([] : va_W)) (show (wX12 cy a o x9) = ([] : va_W) ++ ((wX12 cy a o x9) ++ ([] : va_W)) from by simp only [List.append_assoc, List.nil_append, List.append_nil] <;> rfl)) rfl rfl rfl hl.1 rfl (Nat.le_of_ble_eq_true rfl) dX12_begin_49 ⟨Nat.zero_le _, Nat.zero_le _⟩ (fun H locs hP hD hS => ?_)
      refine lv_aload_n hx hb dX12_begin_52 rfl (lv_at hl 0 rfl) ?_
      refine va_get (D := D) (ci := 12) (v := .ref (a (o + 1))) (C := RX12) (T := TX12) (N := 12) hx hb hts hinX12 hown hK hP 0 rfl rfl 0 (by decide) hf7 (fun _ h9 => h9) rfl dX12_begin_53 ?_
      refine lv_bipush (v := (7 : Int32)) hx hb dX12_begin_56 (by decide) ?_
      refine r_ald (f := (gX12_m x9)) (n := 714) (v := ((gX12_m x9) 7)) hx hb hK hP 1 0 rfl rfl (vp_in_nI (n := 7) (N := 714) (by decide) (by decide)) (congrArg (gX12_m x9) (nI_clamp (n := 7) (by decide))) dX12_begin_58 ?_
      exact W.iret (v := ((gX12_m x9) 7)) hx hb hr (fun t ht hW => ⟨⟨((gX12_m x9) 7), x9, rfl, some_in h, by rw [ht]; exact hP, hD⟩, hS.F ht⟩) hS.2.2 dX12_begin_59
    · have h := ite_n cc h
      refine lv_iconst (v := (0 : Int32)) hx hb dX12_begin_33 (by decide) ?_
      exact W.iret (v := (0 : Int32)) hx hb hr (fun t ht hW => ⟨⟨(0 : Int32), S3, rfl, some_in h, by rw [ht]; exact hP, hD⟩, hS.F ht⟩) hS.2.2 dX12_begin_34
  refine lv_if_ge (tgt := 9) hx hb dX12_begin_2 (by decide) (fun cc => ?_) (fun cc => ?_)
  · have h := ite_p cc h
    refine lv_aload_n hx hb dX12_begin_9 rfl (lv_at hl 0 rfl) ?_
    refine va_get (D := D) (ci := 12) (v := .ref (a (o + 1))) (C := RX12) (T := TX12) (N := 12) hx hb hts hinX12 hown hK hP 0 rfl rfl 0 (by decide) hf7 (fun _ h9 => h9) rfl dX12_begin_10 ?_
    refine lv_iconst (v := (3 : Int32)) hx hb dX12_begin_13 (by decide) ?_
    refine r_ald (f := (gX12_m S)) (n := 714) (v := ((gX12_m S) 3)) hx hb hK hP 1 0 rfl rfl (vp_in_nI (n := 3) (N := 714) (by decide) (by decide)) (congrArg (gX12_m S) (nI_clamp (n := 3) (by decide))) dX12_begin_14 ?_
    refine lv_if_eq (tgt := 22) hx hb dX12_begin_15 (by decide) (fun cc => ?_) (fun cc => ?_)
    · have h := ite_p cc h
      refine lv_iconst (v := (0 : Int32)) hx hb dX12_begin_22 (by decide) ?_
      exact Jj2 (0 : Int32) ls h (lv_sub hl [0, 1] rfl)
    · have h := ite_n cc h
      refine lv_iconst (v := (2 : Int32)) hx hb dX12_begin_18 (by decide) ?_
      refine lv_goto (tgt := 23) hx hb dX12_begin_19 (by decide) ?_
      exact Jj2 (2 : Int32) ls h (lv_sub hl [0, 1] rfl)
  · have h := ite_n cc h
    refine lv_iconst (v := (1 : Int32)) hx hb dX12_begin_5 (by decide) ?_
    refine lv_goto (tgt := 23) hx hb dX12_begin_6 (by decide) ?_
    exact Jj2 (1 : Int32) ls h (lv_sub hl [0, 1] rfl)
set_option maxHeartbeats 4000000 in
set_option maxRecDepth 100000 in
theorem qX12_placeOf (l : Launch) (D : va_G) (cy : Nat → ClassId) (a : Nat → Nat) (o : Nat) (S : SX12) (p1 : Int32) (rs : Int32) (h : DX12_placeOf S p1 = some rs) : Met l yX12_placeOf wsX12_placeOf ({ frames := 0, cells := 0, slots := 0, locals := 0 } : Room) (va_Pc [.ref (a o), .int p1] (fun U => va_P D vwCl (wX12 cy a o S) U.heap ∧ gK D cy U)) (vp_Si (fun z => z = rs)) 0 0 (fun _ => False) := by
  refine Met.ofW (cc := cX12_placeOf) (maxL := 3) (ret := (some .int)) (by decide) rfl ?_
  intro p e s m args below meth c s₁ B hml hv
  obtain ⟨rfl, hP, hG⟩ := hv
  have hx := B.exec
  have hb := B.bytes
  have hr := B.returns
  have hts := atoms_spec (ws := wsX12_placeOf) B.pre
  have hown : s.vm.findClass RX12 = some m.cls := findClass_of_methodNamed B.named
  have hlocks := B.notSynchronized
  have hK := hG.1
  have hinX12 := (by decide +kernel : ∀ w ∈ wsX120, w ∈ wsX12_placeOf)
  have hf7 := hts (.fieldLink RX12 7 "PianoRoundsModel" "m" "[I") (by decide +kernel)
  have hl := lv_entry ([.ref (a o), .int p1]) (n := 3) (Nat.le_of_ble_eq_true rfl)
  rw [lg_entry_eq]
  generalize (lg_sl ([.ref (a o), .int p1]) ++ List.replicate (3 - (lg_sl ([.ref (a o), .int p1])).length) Slot.unset).toArray = ls at hl ⊢
  have hl : lv_has ls 3 [(0, .ref (a o)), (1, .int p1)] := hl
  rw [DX12_placeOf] at h
  refine lv_iconst (v := (0 : Int32)) hx hb dX12_placeOf_0 (by decide) ?_
  refine lv_istore_n (lv' := [(2, .int (0 : Int32)), (0, .ref (a o)), (1, .int p1)]) hx hb dX12_placeOf_1 rfl hl (by decide) rfl (fun ls hl => ?_)
  have L8 : ∀ (c1_1 : Int32) (k2 : Int32 → Option (Int32)) (hk2 : ∀ (v2_3 : Int32) (ls : Array Slot), k2 v2_3 = some rs → lv_has ls 3 [(2, .int v2_3)] → W p l e (headSpec wsX12_placeOf ({ frames := 0, cells := 0, slots := 0, locals := 0 } : Room)).room s m ([.ref (a o), .int p1] : List Value).toArray below meth c s.heap [] 0 0 (MQ below (vp_Si (fun z => z = rs)) ([.ref (a o), .int p1] : List Value).toArray s 0 0 (fun _ => False)) (F0 m 27 ls [])) (k5 : Unit → Option (Int32)) (hk5 : ∀ (ls : Array Slot), k5 () = some rs → lv_has ls 3 [] → W p l e (headSpec wsX12_placeOf ({ frames := 0, cells := 0, slots := 0, locals := 0 } : Room)).room s m ([.ref (a o), .int p1] : List Value).toArray below meth c s.heap [] 0 0 (MQ below (vp_Si (fun z => z = rs)) ([.ref (a o), .int p1] : List Value).toArray s 0 0 (fun _ => False)) (F0 m 35 ls [])) (f : Nat) (v2_6 : Int32) (ls : Array Slot), DX12_placeOf_L2 S c1_1 k2 k5 f v2_6 = some rs → lv_has ls 3 [(0, .ref (a o)), (1, .int c1_1), (2, .int v2_6)] → W p l e (headSpec wsX12_placeOf ({ frames := 0, cells := 0, slots := 0, locals := 0 } : Room)).room s m ([.ref (a o), .int p1] : List Value).toArray below meth c s.heap [] 0 0 (MQ below (vp_Si (fun z => z = rs)) ([.ref (a o), .int p1] : List Value).toArray s 0 0 (fun _ => False)) (F0 m 2 ls []) := by
    intro c1_1 k2 hk2 k5 hk5 f
    induction f with
    | zero =>
      intro v2_6 ls h hl
      rw [DX12_placeOf_L2] at h
      cases h
    | succ f ih =>
      intro v2_6 ls h hl
      rw [DX12_placeOf_L2] at h
      refine lv_iload_n hx hb dX12_placeOf_2 rfl (lv_at hl 2 rfl) ?_
      refine lv_aload_n hx hb dX12_placeOf_3 rfl (lv_at hl 0 rfl) ?_
      refine va_get (D := D) (ci := 12) (v := .ref (a (o + 1))) (C := RX12) (T := TX12) (N := 12) hx hb hts hinX12 hown hK hP 0 rfl rfl 0 (by decide) hf7 (fun _ h9 => h9) rfl dX12_placeOf_4 ?_
      refine lv_bipush (v := (7 : Int32)) hx hb dX12_placeOf_7 (by decide) ?_
      refine r_ald (f := (gX12_m S)) (n := 714) (v := ((gX12_m S) 7)) hx hb hK hP 1 0 rfl rfl (vp_in_nI (n := 7) (N := 714) (by decide) (by decide)) (congrArg (gX12_m S) (nI_clamp (n := 7) (by decide))) dX12_placeOf_9 ?_
      refine lv_icmp_ge (tgt := 35) hx hb dX12_placeOf_10 (by decide) (fun cc => ?_) (fun cc => ?_)
      · have h := ite_p cc h
        exact hk5  ls h (lv_sub hl [] rfl)
      · have h := ite_n cc h
        refine lv_aload_n hx hb dX12_placeOf_13 rfl (lv_at hl 0 rfl) ?_
        refine va_get (D := D) (ci := 12) (v := .ref (a (o + 1))) (C := RX12) (T := TX12) (N := 12) hx hb hts hinX12 hown hK hP 0 rfl rfl 0 (by decide) hf7 (fun _ h9 => h9) rfl dX12_placeOf_14 ?_
        refine lv_sipush (v := (462 : Int32)) hx hb dX12_placeOf_17 (by decide) ?_
        refine lv_iload_n hx hb dX12_placeOf_20 rfl (lv_at hl 2 rfl) ?_
        refine lv_iadd hx hb dX12_placeOf_21 ?_
        obtain ⟨g7, h⟩ := gd_some h
        refine r_ald (f := (gX12_m S)) (n := 714) (v := ((gX12_m S) ((((462 : Int32) + v2_6)).toNatClampNeg))) hx hb hK hP 1 0 rfl rfl (gIn_in g7) rfl dX12_placeOf_22 ?_
        refine lv_iload_n hx hb dX12_placeOf_23 rfl (lv_at hl 1 rfl) ?_
        refine lv_icmp_ne (tgt := 29) hx hb dX12_placeOf_24 (by decide) (fun cc => ?_) (fun cc => ?_)
        · have h := ite_n cc h
          refine lv_iinc (v := (v2_6 + (1 : Int32))) (lv' := [(2, .int (v2_6 + (1 : Int32))), (0, .ref (a o)), (1, .int c1_1)]) hx hb dX12_placeOf_29 hl (k := 2) rfl (by rfl) (by decide) rfl (fun ls hl => ?_)
          refine lv_goto (tgt := 2) hx hb dX12_placeOf_32 (by decide) ?_
          exact ih (v2_6 + (1 : Int32)) ls h (lv_sub hl [1, 2, 0] rfl)
        · have h := ite_p cc h
          exact hk2 v2_6 ls h (lv_sub hl [2] rfl)
  refine L8 p1 _ ?_ _ ?_ fu (0 : Int32) ls h (lv_sub hl [1, 2, 0] rfl)
  · intro v2_4 ls h hl
    refine lv_iload_n hx hb dX12_placeOf_27 rfl (lv_at hl 0 rfl) ?_
    exact W.iret (v := v2_4) hx hb hr (fun t ht hW => ⟨v2_4, rfl, some_in h, ht⟩) (fun q hq => nomatch hq) dX12_placeOf_28
  · intro ls h hl
    refine lv_iconst (v := (-1 : Int32)) hx hb dX12_placeOf_35 (by decide) ?_
    exact W.iret (v := (-1 : Int32)) hx hb hr (fun t ht hW => ⟨(-1 : Int32), rfl, some_in h, ht⟩) (fun q hq => nomatch hq) dX12_placeOf_36
set_option maxHeartbeats 4000000 in
set_option maxRecDepth 100000 in
theorem qX12_hasPlayed (l : Launch) (D : va_G) (cy : Nat → ClassId) (a : Nat → Nat) (o : Nat) (S : SX12) (p1 : Int32) (rs : Int32) (h : DX12_hasPlayed S p1 = some rs) : Met l yX12_hasPlayed wsX12_hasPlayed ({ frames := 1, cells := 0, slots := 0, locals := 22 } : Room) (va_Pc [.ref (a o), .int p1] (fun U => va_P D vwCl (wX12 cy a o S) U.heap ∧ gK D cy U)) (vp_Si (fun z => z = rs)) 0 0 (fun _ => False) := by
  refine Met.ofW (cc := cX12_hasPlayed) (maxL := 2) (ret := (some .boolean)) (by decide) rfl ?_
  intro p e s m args below meth c s₁ B hml hv
  obtain ⟨rfl, hP, hG⟩ := hv
  have hx := B.exec
  have hb := B.bytes
  have hr := B.returns
  have hts := atoms_spec (ws := wsX12_hasPlayed) B.pre
  have hown : s.vm.findClass RX12 = some m.cls := findClass_of_methodNamed B.named
  have hlocks := B.notSynchronized
  have hK := hG.1
  have hinX12 := (by decide +kernel : ∀ w ∈ wsX120, w ∈ wsX12_hasPlayed)
  have hf7 := hts (.fieldLink RX12 7 "PianoRoundsModel" "m" "[I") (by decide +kernel)
  have hl := lv_entry ([.ref (a o), .int p1]) (n := 2) (Nat.le_of_ble_eq_true rfl)
  rw [lg_entry_eq]
  generalize (lg_sl ([.ref (a o), .int p1]) ++ List.replicate (2 - (lg_sl ([.ref (a o), .int p1])).length) Slot.unset).toArray = ls at hl ⊢
  have hl : lv_has ls 2 [(0, .ref (a o)), (1, .int p1)] := hl
  rw [DX12_hasPlayed] at h
  refine lv_aload_n hx hb dX12_hasPlayed_0 rfl (lv_at hl 0 rfl) ?_
  refine lv_iload_n hx hb dX12_hasPlayed_1 rfl (lv_at hl 1 rfl) ?_
  obtain ⟨x1, e2, h⟩ := bd_some h
  refine pcV (As := [.int p1]) (rest := []) (q0 := 0) (qX12_placeOf l D cy a o S p1 x1 e2) ⟨hx, hb, hml, hown, hts⟩ (cwV 1 hts gX12_hasPlayed_X12_placeOf rfl rfl rfl (by decide +kernel) ⟨Nat.le_of_ble_eq_true rfl, Nat.le_of_ble_eq_true rfl⟩) hG hP rfl rfl rfl hl.1 rfl (Nat.le_of_ble_eq_true rfl) dX12_hasPlayed_2 ⟨Nat.zero_le _, Nat.zero_le _⟩ ?_
  refine lv_iconst (v := (0 : Int32)) hx hb dX12_hasPlayed_5 (by decide) ?_
  refine lv_aload_n hx hb dX12_hasPlayed_6 rfl (lv_at hl 0 rfl) ?_
  refine va_get (D := D) (ci := 12) (v := .ref (a (o + 1))) (C := RX12) (T := TX12) (N := 12) hx hb hts hinX12 hown hK hP 0 rfl rfl 0 (by decide) hf7 (fun _ h9 => h9) rfl dX12_hasPlayed_7 ?_
  refine lv_bipush (v := (8 : Int32)) hx hb dX12_hasPlayed_10 (by decide) ?_
  refine r_ald (f := (gX12_m S)) (n := 714) (v := ((gX12_m S) 8)) hx hb hK hP 1 0 rfl rfl (vp_in_nI (n := 8) (N := 714) (by decide) (by decide)) (congrArg (gX12_m S) (nI_clamp (n := 8) (by decide))) dX12_hasPlayed_12 ?_
  refine lv_iconst (v := (1 : Int32)) hx hb dX12_hasPlayed_13 (by decide) ?_
  refine lv_isub hx hb dX12_hasPlayed_14 ?_
  obtain ⟨x3, e4, h⟩ := bd_some h
  refine pcS (As := [.int x1, .int (0 : Int32), .int (((gX12_m S) 8) - (1 : Int32))]) (rest := []) (qX12_in l D cy  x1 (0 : Int32) (((gX12_m S) 8) - (1 : Int32)) x3 e4) ⟨hx, hb, hml, hown, hts⟩ (va_cwS 3 hts gX12_hasPlayed_X12_in rfl rfl rfl (by decide +kernel) ⟨Nat.le_of_ble_eq_true rfl, Nat.le_of_ble_eq_true rfl⟩) hG (hP.sub [] rfl) rfl hl.1 rfl (Nat.le_of_ble_eq_true rfl) dX12_hasPlayed_15 ⟨Nat.zero_le _, Nat.zero_le _⟩ ?_
  obtain ⟨g5, h⟩ := gd_some h
  exact W.zret (v := x3) hx hb hr (zN g5) (fun t ht hW => ⟨x3, rfl, some_in h, ht⟩) (fun q hq => nomatch hq) dX12_hasPlayed_18
set_option maxHeartbeats 4000000 in
set_option maxRecDepth 100000 in
theorem qX12_play (l : Launch) (D : va_G) (cy : Nat → ClassId) (a : Nat → Nat) (o : Nat) (S : SX12) (p1 : Int32) (sz : Nat) (rs : Int32 × SX12) (h : DX12_play S p1 = some rs) : Met l yX12_play wsX12_play ({ frames := 1, cells := 0, slots := 0, locals := 22 } : Room) (mP D cy sz [.ref (a o), .int p1] (wX12 cy a o S)) (va_Qi (fun r (u : SX12) => (r, u) = rs) (fun u t => mB D sz (wX12 cy a o S) (wX12 cy a o u) t) (va_A (wX12 cy a o S) sz)) 0 0 (va_A (wX12 cy a o S) sz) := by
  refine Met.ofW (cc := cX12_play) (maxL := 3) (ret := (some .int)) (by decide) rfl ?_
  intro p e s m args below meth c s₁ B hml hv
  obtain ⟨rfl, hsz, hP, hG, hD0⟩ := hv
  have hx := B.exec
  have hb := B.bytes
  have hr := B.returns
  have hts := atoms_spec (ws := wsX12_play) B.pre
  have hown : s.vm.findClass RX12 = some m.cls := findClass_of_methodNamed B.named
  have hlocks := B.notSynchronized
  have hK := hG.1
  subst hsz
  have hD := hD0.self (sz := s.heap.size)
  have hA : ∀ q : Nat, s.heap.size ≤ q → (va_A (wX12 cy a o S) s.heap.size) q := fun q h => Or.inr h
  have hS : va_S (va_A (wX12 cy a o S) s.heap.size) s.heap s.heap [] := va_S.rf
  have hinX12 := (by decide +kernel : ∀ w ∈ wsX120, w ∈ wsX12_play)
  have hf31 := hts (.fieldLink RX12 31 "PianoRoundsModel" "code" "I") (by decide +kernel)
  have hf7 := hts (.fieldLink RX12 7 "PianoRoundsModel" "m" "[I") (by decide +kernel)
  have hl := lv_entry ([.ref (a o), .int p1]) (n := 3) (Nat.le_of_ble_eq_true rfl)
  rw [lg_entry_eq]
  generalize (lg_sl ([.ref (a o), .int p1]) ++ List.replicate (3 - (lg_sl ([.ref (a o), .int p1])).length) Slot.unset).toArray = ls at hl ⊢
  have hl : lv_has ls 3 [(0, .ref (a o)), (1, .int p1)] := hl
  rw [DX12_play] at h
  refine lv_aload_n hx hb dX12_play_0 rfl (lv_at hl 0 rfl) ?_
  refine lv_iload_n hx hb dX12_play_1 rfl (lv_at hl 1 rfl) ?_
  refine lv_iconst (v := (0 : Int32)) hx hb dX12_play_2 (by decide) ?_
  refine lv_bipush (v := (20 : Int32)) hx hb dX12_play_3 (by decide) ?_
  obtain ⟨x1, e2, h⟩ := bd_some h
  refine pcS (As := [.int p1, .int (0 : Int32), .int (20 : Int32)]) (rest := [.ref (a o)]) (qX12_in l D cy  p1 (0 : Int32) (20 : Int32) x1 e2) ⟨hx, hb, hml, hown, hts⟩ (va_cwS 3 hts gX12_play_X12_in rfl rfl rfl (by decide +kernel) ⟨Nat.le_of_ble_eq_true rfl, Nat.le_of_ble_eq_true rfl⟩) hG (hP.sub [] rfl) rfl hl.1 rfl (Nat.le_of_ble_eq_true rfl) dX12_play_5 ⟨Nat.zero_le _, Nat.zero_le _⟩ ?_
  obtain ⟨j4, hj4, h⟩ := jn_elim h
  have Jj4 : ∀ (x3 : Int32) (ls : Array Slot), j4 x3 = some rs → lv_has ls 3 [(0, .ref (a o)), (1, .int p1)] → W p l e (headSpec wsX12_play ({ frames := 1, cells := 0, slots := 0, locals := 22 } : Room)).room s m ([.ref (a o), .int p1] : List Value).toArray below meth c s.heap [] 0 0 (MQ below (va_Qi (fun r (u : SX12) => (r, u) = rs) (fun u t => mB D s.heap.size (wX12 cy a o S) (wX12 cy a o u) t) (va_A (wX12 cy a o S) s.heap.size)) ([.ref (a o), .int p1] : List Value).toArray s 0 0 (va_A (wX12 cy a o S) s.heap.size)) (F0 m 47 ls [.int x3, .ref (a o)]) := by
    intro x3 ls h hl
    rw [hj4] at h
    refine va_put (D := D) (ci := 12) (v := .int x3) (ty := .int) (C := RX12) (T := TX12) (N := 12) hx hb hts hinX12 tyX12 tyX12_ok nmX12 hown hK hP hD hS 0 rfl rfl 5 (by decide) hf31 (fun _ h9 => h9) rfl (by decide +kernel) rfl rfl (Nat.le_of_ble_eq_true rfl) dX12_play_47 (fun H locs hP hD hS => ?_)
    have hP : va_P D vwCl (wX12 cy a o (uX12_code S x3)) H := hP
    have hD : va_D (va_A (wX12 cy a o S) s.heap.size) (wX12 cy a o (uX12_code S x3)) := hD
    obtain ⟨S5, eS6, h⟩ := lt_elim h
    have hP : va_P D vwCl (wX12 cy a o S5) H := by rw [eS6]; exact hP
    have hD : va_D (va_A (wX12 cy a o S) s.heap.size) (wX12 cy a o S5) := by rw [eS6]; exact hD
    refine lv_aload_n hx hb dX12_play_50 rfl (lv_at hl 0 rfl) ?_
    refine va_get (D := D) (ci := 12) (v := .int (gX12_code S5)) (C := RX12) (T := TX12) (N := 12) hx hb hts hinX12 hown hK hP 0 rfl rfl 5 (by decide) hf31 (fun _ h9 => h9) rfl dX12_play_51 ?_
    refine lv_if_eq (tgt := 59) hx hb dX12_play_54 (by decide) (fun cc => ?_) (fun cc => ?_)
    · have h := ite_p cc h
      refine lv_aload_n hx hb dX12_play_59 rfl (lv_at hl 0 rfl) ?_
      obtain ⟨x7, e8, h⟩ := bd_some h
      refine smVv (As := []) (rest := []) (ws' := (wX12 cy a o x7)) (q0 := 0) (qX12_keep l D cy a o S5  (H).size x7 e8) ⟨hx, hb, hml, hown, hts⟩ (cwV 0 hts gX12_play_X12_keep rfl rfl rfl (by decide +kernel) ⟨Nat.le_of_ble_eq_true rfl, Nat.le_of_ble_eq_true rfl⟩) hG hP hD hS hA (pm1 (X := ([] : va_W)) (c := (wX12 cy a o S5)) (Y := ([] : va_W)) (show (wX12 cy a o S5) = ([] : va_W) ++ ((wX12 cy a o S5) ++ ([] : va_W)) from by simp only [List.append_assoc, List.nil_append, List.append_nil] <;> rfl)) (pm1 (X := ([] : va_W)) (c := (wX12 cy a o x7)) (Y := ([] : va_W)) (show (wX12 cy a o x7) = ([] : va_W) ++ ((wX12 cy a o x7) ++ ([] : va_W)) from by simp only [List.append_assoc, List.nil_append, List.append_nil] <;> rfl)) rfl rfl rfl hl.1 rfl (Nat.le_of_ble_eq_true rfl) dX12_play_60 ⟨Nat.zero_le _, Nat.zero_le _⟩ (fun H locs hP hD hS => ?_)
      refine lv_aload_n hx hb dX12_play_63 rfl (lv_at hl 0 rfl) ?_
      refine va_get (D := D) (ci := 12) (v := .ref (a (o + 1))) (C := RX12) (T := TX12) (N := 12) hx hb hts hinX12 hown hK hP 0 rfl rfl 0 (by decide) hf7 (fun _ h9 => h9) rfl dX12_play_64 ?_
      refine lv_sipush (v := (462 : Int32)) hx hb dX12_play_67 (by decide) ?_
      refine lv_aload_n hx hb dX12_play_70 rfl (lv_at hl 0 rfl) ?_
      refine va_get (D := D) (ci := 12) (v := .ref (a (o + 1))) (C := RX12) (T := TX12) (N := 12) hx hb hts hinX12 hown hK hP 0 rfl rfl 0 (by decide) hf7 (fun _ h9 => h9) rfl dX12_play_71 ?_
      refine lv_bipush (v := (8 : Int32)) hx hb dX12_play_74 (by decide) ?_
      refine r_ald (f := (gX12_m x7)) (n := 714) (v := ((gX12_m x7) 8)) hx hb hK hP 1 0 rfl rfl (vp_in_nI (n := 8) (N := 714) (by decide) (by decide)) (congrArg (gX12_m x7) (nI_clamp (n := 8) (by decide))) dX12_play_76 ?_
      refine lv_iadd hx hb dX12_play_77 ?_
      obtain ⟨g9, h⟩ := gd_some h
      refine r_ald (f := (gX12_m x7)) (n := 714) (v := ((gX12_m x7) ((((462 : Int32) + ((gX12_m x7) 8))).toNatClampNeg))) hx hb hK hP 1 0 rfl rfl (gIn_in g9) rfl dX12_play_78 ?_
      refine lv_istore_n (lv' := [(2, .int ((gX12_m x7) ((((462 : Int32) + ((gX12_m x7) 8))).toNatClampNeg))), (0, .ref (a o)), (1, .int p1)]) hx hb dX12_play_79 rfl hl (by decide) rfl (fun ls hl => ?_)
      refine lv_aload_n hx hb dX12_play_80 rfl (lv_at hl 1 rfl) ?_
      refine va_get (D := D) (ci := 12) (v := .ref (a (o + 1))) (C := RX12) (T := TX12) (N := 12) hx hb hts hinX12 hown hK hP 0 rfl rfl 0 (by decide) hf7 (fun _ h9 => h9) rfl dX12_play_81 ?_
      refine lv_sipush (v := (474 : Int32)) hx hb dX12_play_84 (by decide) ?_
      refine lv_iload_n hx hb dX12_play_87 rfl (lv_at hl 0 rfl) ?_
      refine lv_iadd hx hb dX12_play_88 ?_
      refine lv_iload_n hx hb dX12_play_89 rfl (lv_at hl 2 rfl) ?_
      obtain ⟨g10, h⟩ := gd_some h
      refine r_ast (f := (gX12_m x7)) (f' := (upd (gX12_m x7) ((((474 : Int32) + ((gX12_m x7) ((((462 : Int32) + ((gX12_m x7) 8))).toNatClampNeg)))).toNatClampNeg) p1)) (n := 714) (ws' := (wX12 cy a o (uX12_m x7 (upd (gX12_m x7) ((((474 : Int32) + ((gX12_m x7) ((((462 : Int32) + ((gX12_m x7) 8))).toNatClampNeg)))).toNatClampNeg) p1)))) hx hb hK hP hD hS 1 0 rfl rfl (gIn_in g10) rfl rfl dX12_play_90 (fun H locs hP hD hS => ?_)
      obtain ⟨S11, eS12, h⟩ := lt_elim h
      have hP : va_P D vwCl (wX12 cy a o S11) H := by rw [eS12]; exact hP
      have hD : va_D (va_A (wX12 cy a o S) s.heap.size) (wX12 cy a o S11) := by rw [eS12]; exact hD
      refine lv_aload_n hx hb dX12_play_91 rfl (lv_at hl 1 rfl) ?_
      refine va_get (D := D) (ci := 12) (v := .ref (a (o + 1))) (C := RX12) (T := TX12) (N := 12) hx hb hts hinX12 hown hK hP 0 rfl rfl 0 (by decide) hf7 (fun _ h9 => h9) rfl dX12_play_92 ?_
      refine lv_bipush (v := (8 : Int32)) hx hb dX12_play_95 (by decide) ?_
      refine lv_dup2_11 hx hb dX12_play_97 rfl rfl ?_
      refine r_ald (f := (gX12_m S11)) (n := 714) (v := ((gX12_m S11) 8)) hx hb hK hP 1 0 rfl rfl (vp_in_nI (n := 8) (N := 714) (by decide) (by decide)) (congrArg (gX12_m S11) (nI_clamp (n := 8) (by decide))) dX12_play_98 ?_
      refine lv_iconst (v := (1 : Int32)) hx hb dX12_play_99 (by decide) ?_
      refine lv_iadd hx hb dX12_play_100 ?_
      refine r_ast (f := (gX12_m S11)) (f' := (upd (gX12_m S11) 8 (((gX12_m S11) 8) + (1 : Int32)))) (n := 714) (ws' := (wX12 cy a o (uX12_m S11 (upd (gX12_m S11) 8 (((gX12_m S11) 8) + (1 : Int32)))))) hx hb hK hP hD hS 1 0 rfl rfl (vp_in_nI (n := 8) (N := 714) (by decide) (by decide)) (updc (nI_clamp (n := 8) (by decide))) rfl dX12_play_101 (fun H locs hP hD hS => ?_)
      obtain ⟨S13, eS14, h⟩ := lt_elim h
      have hP : va_P D vwCl (wX12 cy a o S13) H := by rw [eS14]; exact hP
      have hD : va_D (va_A (wX12 cy a o S) s.heap.size) (wX12 cy a o S13) := by rw [eS14]; exact hD
      refine lv_iload_n hx hb dX12_play_102 rfl (lv_at hl 0 rfl) ?_
      exact W.iret (v := ((gX12_m x7) ((((462 : Int32) + ((gX12_m x7) 8))).toNatClampNeg))) hx hb hr (fun t ht hW => ⟨⟨((gX12_m x7) ((((462 : Int32) + ((gX12_m x7) 8))).toNatClampNeg)), S13, rfl, some_in h, by rw [ht]; exact hP, hD⟩, hS.F ht⟩) hS.2.2 dX12_play_103
    · have h := ite_n cc h
      refine lv_iconst (v := (0 : Int32)) hx hb dX12_play_57 (by decide) ?_
      exact W.iret (v := (0 : Int32)) hx hb hr (fun t ht hW => ⟨⟨(0 : Int32), S5, rfl, some_in h, by rw [ht]; exact hP, hD⟩, hS.F ht⟩) hS.2.2 dX12_play_58
  refine lv_if_ne (tgt := 15) hx hb dX12_play_8 (by decide) (fun cc => ?_) (fun cc => ?_)
  · have h := ite_n cc h
    refine lv_aload_n hx hb dX12_play_15 rfl (lv_at hl 0 rfl) ?_
    refine va_get (D := D) (ci := 12) (v := .ref (a (o + 1))) (C := RX12) (T := TX12) (N := 12) hx hb hts hinX12 hown hK hP 0 rfl rfl 0 (by decide) hf7 (fun _ h9 => h9) rfl dX12_play_16 ?_
    refine lv_iconst (v := (3 : Int32)) hx hb dX12_play_19 (by decide) ?_
    refine r_ald (f := (gX12_m S)) (n := 714) (v := ((gX12_m S) 3)) hx hb hK hP 1 0 rfl rfl (vp_in_nI (n := 3) (N := 714) (by decide) (by decide)) (congrArg (gX12_m S) (nI_clamp (n := 3) (by decide))) dX12_play_20 ?_
    refine lv_iconst (v := (1 : Int32)) hx hb dX12_play_21 (by decide) ?_
    obtain ⟨j15, hj15, h⟩ := jn_elim h
    have Jj15 : ∀ (ls : Array Slot), j15 () = some rs → lv_has ls 3 [(0, .ref (a o)), (1, .int p1)] → W p l e (headSpec wsX12_play ({ frames := 1, cells := 0, slots := 0, locals := 22 } : Room)).room s m ([.ref (a o), .int p1] : List Value).toArray below meth c s.heap [] 0 0 (MQ below (va_Qi (fun r (u : SX12) => (r, u) = rs) (fun u t => mB D s.heap.size (wX12 cy a o S) (wX12 cy a o u) t) (va_A (wX12 cy a o S) s.heap.size)) ([.ref (a o), .int p1] : List Value).toArray s 0 0 (va_A (wX12 cy a o S) s.heap.size)) (F0 m 42 ls [.ref (a o)]) := by
      intro ls h hl
      rw [hj15] at h
      refine lv_iconst (v := (2 : Int32)) hx hb dX12_play_42 (by decide) ?_
      refine lv_goto (tgt := 47) hx hb dX12_play_43 (by decide) ?_
      exact Jj4 (2 : Int32) ls h (lv_sub hl [0, 1] rfl)
    refine lv_icmp_ne (tgt := 42) hx hb dX12_play_22 (by decide) (fun cc => ?_) (fun cc => ?_)
    · have h := ite_n cc h
      exact Jj15  ls h (lv_sub hl [0, 1] rfl)
    · have h := ite_p cc h
      refine lv_aload_n hx hb dX12_play_25 rfl (lv_at hl 0 rfl) ?_
      refine va_get (D := D) (ci := 12) (v := .ref (a (o + 1))) (C := RX12) (T := TX12) (N := 12) hx hb hts hinX12 hown hK hP 0 rfl rfl 0 (by decide) hf7 (fun _ h9 => h9) rfl dX12_play_26 ?_
      refine lv_bipush (v := (8 : Int32)) hx hb dX12_play_29 (by decide) ?_
      refine r_ald (f := (gX12_m S)) (n := 714) (v := ((gX12_m S) 8)) hx hb hK hP 1 0 rfl rfl (vp_in_nI (n := 8) (N := 714) (by decide) (by decide)) (congrArg (gX12_m S) (nI_clamp (n := 8) (by decide))) dX12_play_31 ?_
      refine lv_aload_n hx hb dX12_play_32 rfl (lv_at hl 0 rfl) ?_
      refine va_get (D := D) (ci := 12) (v := .ref (a (o + 1))) (C := RX12) (T := TX12) (N := 12) hx hb hts hinX12 hown hK hP 0 rfl rfl 0 (by decide) hf7 (fun _ h9 => h9) rfl dX12_play_33 ?_
      refine lv_bipush (v := (7 : Int32)) hx hb dX12_play_36 (by decide) ?_
      refine r_ald (f := (gX12_m S)) (n := 714) (v := ((gX12_m S) 7)) hx hb hK hP 1 0 rfl rfl (vp_in_nI (n := 7) (N := 714) (by decide) (by decide)) (congrArg (gX12_m S) (nI_clamp (n := 7) (by decide))) dX12_play_38 ?_
      refine lv_icmp_ne (tgt := 46) hx hb dX12_play_39 (by decide) (fun cc => ?_) (fun cc => ?_)
      · have h := ite_n cc h
        refine lv_iconst (v := (0 : Int32)) hx hb dX12_play_46 (by decide) ?_
        exact Jj4 (0 : Int32) ls h (lv_sub hl [0, 1] rfl)
      · have h := ite_p cc h
        exact Jj15  ls h (lv_sub hl [0, 1] rfl)
  · have h := ite_p cc h
    refine lv_iconst (v := (1 : Int32)) hx hb dX12_play_11 (by decide) ?_
    refine lv_goto (tgt := 47) hx hb dX12_play_12 (by decide) ?_
    exact Jj4 (1 : Int32) ls h (lv_sub hl [0, 1] rfl)
set_option maxHeartbeats 4000000 in
set_option maxRecDepth 100000 in
theorem qX12_counts (l : Launch) (D : va_G) (cy : Nat → ClassId) (a : Nat → Nat) (o : Nat) (S : SX12) (p1 : Int32) (p2 : Int32) (p3 : Int32) (rs : Int32) (h : DX12_counts S p1 p2 p3 = some rs) : Met l yX12_counts wsX12_counts ({ frames := 2, cells := 0, slots := 0, locals := 43 } : Room) (va_Pc [.ref (a o), .int p1, .int p2, .int p3] (fun U => va_P D vwCl (wX12 cy a o S) U.heap ∧ gK D cy U)) (vp_Si (fun z => z = rs)) 0 0 (fun _ => False) := by
  refine Met.ofW (cc := cX12_counts) (maxL := 4) (ret := (some .boolean)) (by decide) rfl ?_
  intro p e s m args below meth c s₁ B hml hv
  obtain ⟨rfl, hP, hG⟩ := hv
  have hx := B.exec
  have hb := B.bytes
  have hr := B.returns
  have hts := atoms_spec (ws := wsX12_counts) B.pre
  have hown : s.vm.findClass RX12 = some m.cls := findClass_of_methodNamed B.named
  have hlocks := B.notSynchronized
  have hK := hG.1
  have hinX12 := (by decide +kernel : ∀ w ∈ wsX120, w ∈ wsX12_counts)
  have hf7 := hts (.fieldLink RX12 7 "PianoRoundsModel" "m" "[I") (by decide +kernel)
  have hl := lv_entry ([.ref (a o), .int p1, .int p2, .int p3]) (n := 4) (Nat.le_of_ble_eq_true rfl)
  rw [lg_entry_eq]
  generalize (lg_sl ([.ref (a o), .int p1, .int p2, .int p3]) ++ List.replicate (4 - (lg_sl ([.ref (a o), .int p1, .int p2, .int p3])).length) Slot.unset).toArray = ls at hl ⊢
  have hl : lv_has ls 4 [(0, .ref (a o)), (1, .int p1), (2, .int p2), (3, .int p3)] := hl
  rw [DX12_counts] at h
  refine lv_aload_n hx hb dX12_counts_0 rfl (lv_at hl 0 rfl) ?_
  refine va_get (D := D) (ci := 12) (v := .ref (a (o + 1))) (C := RX12) (T := TX12) (N := 12) hx hb hts hinX12 hown hK hP 0 rfl rfl 0 (by decide) hf7 (fun _ h9 => h9) rfl dX12_counts_1 ?_
  refine lv_iload_n hx hb dX12_counts_4 rfl (lv_at hl 1 rfl) ?_
  refine lv_iload_n hx hb dX12_counts_5 rfl (lv_at hl 2 rfl) ?_
  refine lv_iload_n hx hb dX12_counts_6 rfl (lv_at hl 3 rfl) ?_
  obtain ⟨x1, e2, h⟩ := bd_some h
  refine pcS (As := [.int p2, .int p3]) (rest := [.int p1, .ref (a (o + 1))]) (qX12_seat l D cy  p2 p3 x1 e2) ⟨hx, hb, hml, hown, hts⟩ (va_cwS 2 hts gX12_counts_X12_seat rfl rfl rfl (by decide +kernel) ⟨Nat.le_of_ble_eq_true rfl, Nat.le_of_ble_eq_true rfl⟩) hG (hP.sub [] rfl) rfl hl.1 rfl (Nat.le_of_ble_eq_true rfl) dX12_counts_7 ⟨Nat.zero_le _, Nat.zero_le _⟩ ?_
  refine lv_iadd hx hb dX12_counts_10 ?_
  obtain ⟨g3, h⟩ := gd_some h
  refine r_ald (f := (gX12_m S)) (n := 714) (v := ((gX12_m S) (((p1 + x1)).toNatClampNeg))) hx hb hK hP 1 0 rfl rfl (gIn_in g3) rfl dX12_counts_11 ?_
  obtain ⟨j5, hj5, h⟩ := jn_elim h
  have Jj5 : ∀ (x4 : Int32) (ls : Array Slot), j5 x4 = some rs → lv_has ls 4 [] → W p l e (headSpec wsX12_counts ({ frames := 2, cells := 0, slots := 0, locals := 43 } : Room)).room s m ([.ref (a o), .int p1, .int p2, .int p3] : List Value).toArray below meth c s.heap [] 0 0 (MQ below (vp_Si (fun z => z = rs)) ([.ref (a o), .int p1, .int p2, .int p3] : List Value).toArray s 0 0 (fun _ => False)) (F0 m 29 ls [.int x4]) := by
    intro x4 ls h hl
    rw [hj5] at h
    obtain ⟨g6, h⟩ := gd_some h
    exact W.zret (v := x4) hx hb hr (zN g6) (fun t ht hW => ⟨x4, rfl, some_in h, ht⟩) (fun q hq => nomatch hq) dX12_counts_29
  obtain ⟨j7, hj7, h⟩ := jn_elim h
  have Jj7 : ∀ (ls : Array Slot), j7 () = some rs → lv_has ls 4 [] → W p l e (headSpec wsX12_counts ({ frames := 2, cells := 0, slots := 0, locals := 43 } : Room)).room s m ([.ref (a o), .int p1, .int p2, .int p3] : List Value).toArray below meth c s.heap [] 0 0 (MQ below (vp_Si (fun z => z = rs)) ([.ref (a o), .int p1, .int p2, .int p3] : List Value).toArray s 0 0 (fun _ => False)) (F0 m 28 ls []) := by
    intro ls h hl
    rw [hj7] at h
    refine lv_iconst (v := (0 : Int32)) hx hb dX12_counts_28 (by decide) ?_
    exact Jj5 (0 : Int32) ls h (lv_sub hl [] rfl)
  refine lv_if_lt (tgt := 28) hx hb dX12_counts_12 (by decide) (fun cc => ?_) (fun cc => ?_)
  · have h := ite_p cc h
    exact Jj7  ls h (lv_sub hl [] rfl)
  · have h := ite_n cc h
    refine lv_aload_n hx hb dX12_counts_15 rfl (lv_at hl 0 rfl) ?_
    refine lv_iload_n hx hb dX12_counts_16 rfl (lv_at hl 2 rfl) ?_
    refine lv_iload_n hx hb dX12_counts_17 rfl (lv_at hl 3 rfl) ?_
    obtain ⟨x8, e9, h⟩ := bd_some h
    refine pcV (As := [.int p2, .int p3]) (rest := []) (q0 := 0) (qX12_isBarred l D cy a o S p2 p3 x8 e9) ⟨hx, hb, hml, hown, hts⟩ (cwV 2 hts gX12_counts_X12_isBarred rfl rfl rfl (by decide +kernel) ⟨Nat.le_of_ble_eq_true rfl, Nat.le_of_ble_eq_true rfl⟩) hG hP rfl rfl rfl hl.1 rfl (Nat.le_of_ble_eq_true rfl) dX12_counts_18 ⟨Nat.zero_le _, Nat.zero_le _⟩ ?_
    refine lv_if_ne (tgt := 28) hx hb dX12_counts_21 (by decide) (fun cc => ?_) (fun cc => ?_)
    · have h := ite_n cc h
      exact Jj7  ls h (lv_sub hl [] rfl)
    · have h := ite_p cc h
      refine lv_iconst (v := (1 : Int32)) hx hb dX12_counts_24 (by decide) ?_
      refine lv_goto (tgt := 29) hx hb dX12_counts_25 (by decide) ?_
      exact Jj5 (1 : Int32) ls h (lv_sub hl [] rfl)
set_option maxHeartbeats 4000000 in
set_option maxRecDepth 100000 in
theorem qX12_counting (l : Launch) (D : va_G) (cy : Nat → ClassId) (a : Nat → Nat) (o : Nat) (S : SX12) (p1 : Int32) (p2 : Int32) (rs : Int32) (h : DX12_counting S p1 p2 = some rs) : Met l yX12_counting wsX12_counting ({ frames := 3, cells := 0, slots := 0, locals := 66 } : Room) (va_Pc [.ref (a o), .int p1, .int p2] (fun U => va_P D vwCl (wX12 cy a o S) U.heap ∧ gK D cy U)) (vp_Si (fun z => z = rs)) 0 0 (fun _ => False) := by
  refine Met.ofW (cc := cX12_counting) (maxL := 5) (ret := (some .int)) (by decide) rfl ?_
  intro p e s m args below meth c s₁ B hml hv
  obtain ⟨rfl, hP, hG⟩ := hv
  have hx := B.exec
  have hb := B.bytes
  have hr := B.returns
  have hts := atoms_spec (ws := wsX12_counting) B.pre
  have hown : s.vm.findClass RX12 = some m.cls := findClass_of_methodNamed B.named
  have hlocks := B.notSynchronized
  have hK := hG.1
  have hinX12 := (by decide +kernel : ∀ w ∈ wsX120, w ∈ wsX12_counting)
  have hf7 := hts (.fieldLink RX12 7 "PianoRoundsModel" "m" "[I") (by decide +kernel)
  have hl := lv_entry ([.ref (a o), .int p1, .int p2]) (n := 5) (Nat.le_of_ble_eq_true rfl)
  rw [lg_entry_eq]
  generalize (lg_sl ([.ref (a o), .int p1, .int p2]) ++ List.replicate (5 - (lg_sl ([.ref (a o), .int p1, .int p2])).length) Slot.unset).toArray = ls at hl ⊢
  have hl : lv_has ls 5 [(0, .ref (a o)), (1, .int p1), (2, .int p2)] := hl
  rw [DX12_counting] at h
  refine lv_iconst (v := (0 : Int32)) hx hb dX12_counting_0 (by decide) ?_
  refine lv_istore_n (lv' := [(3, .int (0 : Int32)), (0, .ref (a o)), (1, .int p1), (2, .int p2)]) hx hb dX12_counting_1 rfl hl (by decide) rfl (fun ls hl => ?_)
  refine lv_iconst (v := (0 : Int32)) hx hb dX12_counting_2 (by decide) ?_
  refine lv_istore (lv' := [(4, .int (0 : Int32)), (3, .int (0 : Int32)), (0, .ref (a o)), (1, .int p1), (2, .int p2)]) hx hb dX12_counting_3 hl (by decide) rfl (fun ls hl => ?_)
  have L12 : ∀ (c1_1 : Int32) (c2_2 : Int32) (k3 : Int32 → Option (Int32)) (hk3 : ∀ (v3_4 : Int32) (ls : Array Slot), k3 v3_4 = some rs → lv_has ls 5 [(3, .int v3_4)] → W p l e (headSpec wsX12_counting ({ frames := 3, cells := 0, slots := 0, locals := 66 } : Room)).room s m ([.ref (a o), .int p1, .int p2] : List Value).toArray below meth c s.heap [] 0 0 (MQ below (vp_Si (fun z => z = rs)) ([.ref (a o), .int p1, .int p2] : List Value).toArray s 0 0 (fun _ => False)) (F0 m 41 ls [])) (f : Nat) (v3_6 : Int32) (v4_7 : Int32) (ls : Array Slot), DX12_counting_L5 S c1_1 c2_2 k3 f v3_6 v4_7 = some rs → lv_has ls 5 [(0, .ref (a o)), (1, .int c1_1), (2, .int c2_2), (3, .int v3_6), (4, .int v4_7)] → W p l e (headSpec wsX12_counting ({ frames := 3, cells := 0, slots := 0, locals := 66 } : Room)).room s m ([.ref (a o), .int p1, .int p2] : List Value).toArray below meth c s.heap [] 0 0 (MQ below (vp_Si (fun z => z = rs)) ([.ref (a o), .int p1, .int p2] : List Value).toArray s 0 0 (fun _ => False)) (F0 m 5 ls []) := by
    intro c1_1 c2_2 k3 hk3 f
    induction f with
    | zero =>
      intro v3_6 v4_7 ls h hl
      rw [DX12_counting_L5] at h
      cases h
    | succ f ih =>
      intro v3_6 v4_7 ls h hl
      rw [DX12_counting_L5] at h
      refine lv_iload hx hb dX12_counting_5 (lv_at hl 4 rfl) ?_
      refine lv_aload_n hx hb dX12_counting_7 rfl (lv_at hl 0 rfl) ?_
      refine va_get (D := D) (ci := 12) (v := .ref (a (o + 1))) (C := RX12) (T := TX12) (N := 12) hx hb hts hinX12 hown hK hP 0 rfl rfl 0 (by decide) hf7 (fun _ h9 => h9) rfl dX12_counting_8 ?_
      refine lv_iconst (v := (0 : Int32)) hx hb dX12_counting_11 (by decide) ?_
      refine r_ald (f := (gX12_m S)) (n := 714) (v := ((gX12_m S) 0)) hx hb hK hP 1 0 rfl rfl (vp_in_nI (n := 0) (N := 714) (by decide) (by decide)) (congrArg (gX12_m S) (nI_clamp (n := 0) (by decide))) dX12_counting_12 ?_
      refine lv_icmp_ge (tgt := 41) hx hb dX12_counting_13 (by decide) (fun cc => ?_) (fun cc => ?_)
      · have h := ite_p cc h
        exact hk3 v3_6 ls h (lv_sub hl [3] rfl)
      · have h := ite_n cc h
        refine lv_iload_n hx hb dX12_counting_16 rfl (lv_at hl 3 rfl) ?_
        refine lv_aload_n hx hb dX12_counting_17 rfl (lv_at hl 0 rfl) ?_
        refine lv_iload_n hx hb dX12_counting_18 rfl (lv_at hl 1 rfl) ?_
        refine lv_iload hx hb dX12_counting_19 (lv_at hl 4 rfl) ?_
        refine lv_iload_n hx hb dX12_counting_21 rfl (lv_at hl 2 rfl) ?_
        obtain ⟨x8, e9, h⟩ := bd_some h
        refine pcV (As := [.int c1_1, .int v4_7, .int c2_2]) (rest := [.int v3_6]) (q0 := 0) (qX12_counts l D cy a o S c1_1 v4_7 c2_2 x8 e9) ⟨hx, hb, hml, hown, hts⟩ (cwV 3 hts gX12_counting_X12_counts rfl rfl rfl (by decide +kernel) ⟨Nat.le_of_ble_eq_true rfl, Nat.le_of_ble_eq_true rfl⟩) hG hP rfl rfl rfl hl.1 rfl (Nat.le_of_ble_eq_true rfl) dX12_counting_22 ⟨Nat.zero_le _, Nat.zero_le _⟩ ?_
        obtain ⟨j11, hj11, h⟩ := jn_elim h
        have Jj11 : ∀ (x10 : Int32) (ls : Array Slot), j11 x10 = some rs → lv_has ls 5 [(0, .ref (a o)), (1, .int c1_1), (2, .int c2_2), (4, .int v4_7)] → W p l e (headSpec wsX12_counting ({ frames := 3, cells := 0, slots := 0, locals := 66 } : Room)).room s m ([.ref (a o), .int p1, .int p2] : List Value).toArray below meth c s.heap [] 0 0 (MQ below (vp_Si (fun z => z = rs)) ([.ref (a o), .int p1, .int p2] : List Value).toArray s 0 0 (fun _ => False)) (F0 m 33 ls [.int x10, .int v3_6]) := by
          intro x10 ls h hl
          rw [hj11] at h
          refine lv_iadd hx hb dX12_counting_33 ?_
          refine lv_istore_n (lv' := [(3, .int (v3_6 + x10)), (0, .ref (a o)), (1, .int c1_1), (2, .int c2_2), (4, .int v4_7)]) hx hb dX12_counting_34 rfl hl (by decide) rfl (fun ls hl => ?_)
          refine lv_iinc (v := (v4_7 + (1 : Int32))) (lv' := [(4, .int (v4_7 + (1 : Int32))), (3, .int (v3_6 + x10)), (0, .ref (a o)), (1, .int c1_1), (2, .int c2_2)]) hx hb dX12_counting_35 hl (k := 4) rfl (by rfl) (by decide) rfl (fun ls hl => ?_)
          refine lv_goto (tgt := 5) hx hb dX12_counting_38 (by decide) ?_
          exact ih (v3_6 + x10) (v4_7 + (1 : Int32)) ls h (lv_sub hl [2, 3, 4, 1, 0] rfl)
        refine lv_if_eq (tgt := 32) hx hb dX12_counting_25 (by decide) (fun cc => ?_) (fun cc => ?_)
        · have h := ite_p cc h
          refine lv_iconst (v := (0 : Int32)) hx hb dX12_counting_32 (by decide) ?_
          exact Jj11 (0 : Int32) ls h (lv_sub hl [0, 1, 2, 4] rfl)
        · have h := ite_n cc h
          refine lv_iconst (v := (1 : Int32)) hx hb dX12_counting_28 (by decide) ?_
          refine lv_goto (tgt := 33) hx hb dX12_counting_29 (by decide) ?_
          exact Jj11 (1 : Int32) ls h (lv_sub hl [0, 1, 2, 4] rfl)
  refine L12 p1 p2 _ ?_ fu (0 : Int32) (0 : Int32) ls h (lv_sub hl [2, 3, 4, 1, 0] rfl)
  intro v3_5 ls h hl
  refine lv_iload_n hx hb dX12_counting_41 rfl (lv_at hl 0 rfl) ?_
  exact W.iret (v := v3_5) hx hb hr (fun t ht hW => ⟨v3_5, rfl, some_in h, ht⟩) (fun q hq => nomatch hq) dX12_counting_42
set_option maxHeartbeats 4000000 in
set_option maxRecDepth 100000 in
theorem qX12_mean (l : Launch) (D : va_G) (cy : Nat → ClassId) (a : Nat → Nat) (o : Nat) (S : SX12) (p1 : Int32) (p2 : Int32) (p3 : Int32) (rs : Int32) (h : DX12_mean S p1 p2 p3 = some rs) : Met l yX12_mean wsX12_mean ({ frames := 3, cells := 0, slots := 0, locals := 66 } : Room) (va_Pc [.ref (a o), .int p1, .int p2, .int p3] (fun U => va_P D vwCl (wX12 cy a o S) U.heap ∧ gK D cy U)) (vp_Si (fun z => z = rs)) 0 0 (fun _ => False) := by
  refine Met.ofW (cc := cX12_mean) (maxL := 10) (ret := (some .int)) (by decide) rfl ?_
  intro p e s m args below meth c s₁ B hml hv
  obtain ⟨rfl, hP, hG⟩ := hv
  have hx := B.exec
  have hb := B.bytes
  have hr := B.returns
  have hts := atoms_spec (ws := wsX12_mean) B.pre
  have hown : s.vm.findClass RX12 = some m.cls := findClass_of_methodNamed B.named
  have hlocks := B.notSynchronized
  have hK := hG.1
  have hinX12 := (by decide +kernel : ∀ w ∈ wsX120, w ∈ wsX12_mean)
  have hf7 := hts (.fieldLink RX12 7 "PianoRoundsModel" "m" "[I") (by decide +kernel)
  have hl := lv_entry ([.ref (a o), .int p1, .int p2, .int p3]) (n := 10) (Nat.le_of_ble_eq_true rfl)
  rw [lg_entry_eq]
  generalize (lg_sl ([.ref (a o), .int p1, .int p2, .int p3]) ++ List.replicate (10 - (lg_sl ([.ref (a o), .int p1, .int p2, .int p3])).length) Slot.unset).toArray = ls at hl ⊢
  have hl : lv_has ls 10 [(0, .ref (a o)), (1, .int p1), (2, .int p2), (3, .int p3)] := hl
  rw [DX12_mean] at h
  refine lv_iconst (v := (0 : Int32)) hx hb dX12_mean_0 (by decide) ?_
  refine lv_istore (lv' := [(4, .int (0 : Int32)), (0, .ref (a o)), (1, .int p1), (2, .int p2), (3, .int p3)]) hx hb dX12_mean_1 hl (by decide) rfl (fun ls hl => ?_)
  refine lv_iconst (v := (0 : Int32)) hx hb dX12_mean_3 (by decide) ?_
  refine lv_istore (lv' := [(5, .int (0 : Int32)), (4, .int (0 : Int32)), (0, .ref (a o)), (1, .int p1), (2, .int p2), (3, .int p3)]) hx hb dX12_mean_4 hl (by decide) rfl (fun ls hl => ?_)
  refine lv_bipush (v := (100 : Int32)) hx hb dX12_mean_6 (by decide) ?_
  refine lv_istore (lv' := [(6, .int (100 : Int32)), (5, .int (0 : Int32)), (4, .int (0 : Int32)), (0, .ref (a o)), (1, .int p1), (2, .int p2), (3, .int p3)]) hx hb dX12_mean_8 hl (by decide) rfl (fun ls hl => ?_)
  refine lv_iconst (v := (0 : Int32)) hx hb dX12_mean_10 (by decide) ?_
  refine lv_istore (lv' := [(7, .int (0 : Int32)), (6, .int (100 : Int32)), (5, .int (0 : Int32)), (4, .int (0 : Int32)), (0, .ref (a o)), (1, .int p1), (2, .int p2), (3, .int p3)]) hx hb dX12_mean_11 hl (by decide) rfl (fun ls hl => ?_)
  refine lv_iconst (v := (0 : Int32)) hx hb dX12_mean_13 (by decide) ?_
  refine lv_istore (lv' := [(8, .int (0 : Int32)), (7, .int (0 : Int32)), (6, .int (100 : Int32)), (5, .int (0 : Int32)), (4, .int (0 : Int32)), (0, .ref (a o)), (1, .int p1), (2, .int p2), (3, .int p3)]) hx hb dX12_mean_14 hl (by decide) rfl (fun ls hl => ?_)
  have L36 : ∀ (c1_1 : Int32) (c2_2 : Int32) (c3_3 : Int32) (k4 : Int32 → Int32 → Int32 → Int32 → Option (Int32)) (hk4 : ∀ (v4_5 : Int32) (v5_6 : Int32) (v6_7 : Int32) (v7_8 : Int32) (ls : Array Slot), k4 v4_5 v5_6 v6_7 v7_8 = some rs → lv_has ls 10 [(4, .int v4_5), (5, .int v5_6), (6, .int v6_7), (7, .int v7_8)] → W p l e (headSpec wsX12_mean ({ frames := 3, cells := 0, slots := 0, locals := 66 } : Room)).room s m ([.ref (a o), .int p1, .int p2, .int p3] : List Value).toArray below meth c s.heap [] 0 0 (MQ below (vp_Si (fun z => z = rs)) ([.ref (a o), .int p1, .int p2, .int p3] : List Value).toArray s 0 0 (fun _ => False)) (F0 m 107 ls [])) (f : Nat) (v4_17 : Int32) (v5_18 : Int32) (v6_19 : Int32) (v7_20 : Int32) (v8_21 : Int32) (ls : Array Slot), DX12_mean_L16 S c1_1 c2_2 c3_3 k4 f v4_17 v5_18 v6_19 v7_20 v8_21 = some rs → lv_has ls 10 [(0, .ref (a o)), (1, .int c1_1), (2, .int c2_2), (3, .int c3_3), (4, .int v4_17), (5, .int v5_18), (6, .int v6_19), (7, .int v7_20), (8, .int v8_21)] → W p l e (headSpec wsX12_mean ({ frames := 3, cells := 0, slots := 0, locals := 66 } : Room)).room s m ([.ref (a o), .int p1, .int p2, .int p3] : List Value).toArray below meth c s.heap [] 0 0 (MQ below (vp_Si (fun z => z = rs)) ([.ref (a o), .int p1, .int p2, .int p3] : List Value).toArray s 0 0 (fun _ => False)) (F0 m 16 ls []) := by
    intro c1_1 c2_2 c3_3 k4 hk4 f
    induction f with
    | zero =>
      intro v4_17 v5_18 v6_19 v7_20 v8_21 ls h hl
      rw [DX12_mean_L16] at h
      cases h
    | succ f ih =>
      intro v4_17 v5_18 v6_19 v7_20 v8_21 ls h hl
      rw [DX12_mean_L16] at h
      refine lv_iload hx hb dX12_mean_16 (lv_at hl 8 rfl) ?_
      refine lv_aload_n hx hb dX12_mean_18 rfl (lv_at hl 0 rfl) ?_
      refine va_get (D := D) (ci := 12) (v := .ref (a (o + 1))) (C := RX12) (T := TX12) (N := 12) hx hb hts hinX12 hown hK hP 0 rfl rfl 0 (by decide) hf7 (fun _ h9 => h9) rfl dX12_mean_19 ?_
      refine lv_iconst (v := (0 : Int32)) hx hb dX12_mean_22 (by decide) ?_
      refine r_ald (f := (gX12_m S)) (n := 714) (v := ((gX12_m S) 0)) hx hb hK hP 1 0 rfl rfl (vp_in_nI (n := 0) (N := 714) (by decide) (by decide)) (congrArg (gX12_m S) (nI_clamp (n := 0) (by decide))) dX12_mean_23 ?_
      refine lv_icmp_ge (tgt := 107) hx hb dX12_mean_24 (by decide) (fun cc => ?_) (fun cc => ?_)
      · have h := ite_p cc h
        exact hk4 v4_17 v5_18 v6_19 v7_20 ls h (lv_sub hl [4, 5, 6, 7] rfl)
      · have h := ite_n cc h
        refine lv_iload hx hb dX12_mean_27 (lv_at hl 8 rfl) ?_
        refine lv_iload_n hx hb dX12_mean_29 rfl (lv_at hl 3 rfl) ?_
        obtain ⟨j26, hj26, h⟩ := jn_elim h
        have Jj26 : ∀ (v4_22 : Int32) (v5_23 : Int32) (v6_24 : Int32) (v7_25 : Int32) (ls : Array Slot), j26 v4_22 v5_23 v6_24 v7_25 = some rs → lv_has ls 10 [(0, .ref (a o)), (1, .int c1_1), (2, .int c2_2), (3, .int c3_3), (4, .int v4_22), (5, .int v5_23), (6, .int v6_24), (7, .int v7_25), (8, .int v8_21)] → W p l e (headSpec wsX12_mean ({ frames := 3, cells := 0, slots := 0, locals := 66 } : Room)).room s m ([.ref (a o), .int p1, .int p2, .int p3] : List Value).toArray below meth c s.heap [] 0 0 (MQ below (vp_Si (fun z => z = rs)) ([.ref (a o), .int p1, .int p2, .int p3] : List Value).toArray s 0 0 (fun _ => False)) (F0 m 101 ls []) := by
          intro v4_22 v5_23 v6_24 v7_25 ls h hl
          rw [hj26] at h
          refine lv_iinc (v := (v8_21 + (1 : Int32))) (lv' := [(8, .int (v8_21 + (1 : Int32))), (0, .ref (a o)), (1, .int c1_1), (2, .int c2_2), (3, .int c3_3), (4, .int v4_22), (5, .int v5_23), (6, .int v6_24), (7, .int v7_25)]) hx hb dX12_mean_101 hl (k := 8) rfl (by rfl) (by decide) rfl (fun ls hl => ?_)
          refine lv_goto (tgt := 16) hx hb dX12_mean_104 (by decide) ?_
          exact ih v4_22 v5_23 v6_24 v7_25 (v8_21 + (1 : Int32)) ls h (lv_sub hl [1, 2, 3, 4, 5, 6, 7, 8, 0] rfl)
        refine lv_icmp_eq (tgt := 101) hx hb dX12_mean_30 (by decide) (fun cc => ?_) (fun cc => ?_)
        · have h := ite_p cc h
          exact Jj26 v4_17 v5_18 v6_19 v7_20 ls h (lv_sub hl [0, 1, 2, 3, 4, 5, 6, 7, 8] rfl)
        · have h := ite_n cc h
          refine lv_aload_n hx hb dX12_mean_33 rfl (lv_at hl 0 rfl) ?_
          refine lv_iload_n hx hb dX12_mean_34 rfl (lv_at hl 1 rfl) ?_
          refine lv_iload hx hb dX12_mean_35 (lv_at hl 8 rfl) ?_
          refine lv_iload_n hx hb dX12_mean_37 rfl (lv_at hl 2 rfl) ?_
          obtain ⟨x27, e28, h⟩ := bd_some h
          refine pcV (As := [.int c1_1, .int v8_21, .int c2_2]) (rest := []) (q0 := 0) (qX12_counts l D cy a o S c1_1 v8_21 c2_2 x27 e28) ⟨hx, hb, hml, hown, hts⟩ (cwV 3 hts gX12_mean_X12_counts rfl rfl rfl (by decide +kernel) ⟨Nat.le_of_ble_eq_true rfl, Nat.le_of_ble_eq_true rfl⟩) hG hP rfl rfl rfl hl.1 rfl (Nat.le_of_ble_eq_true rfl) dX12_mean_38 ⟨Nat.zero_le _, Nat.zero_le _⟩ ?_
          refine lv_if_eq (tgt := 101) hx hb dX12_mean_41 (by decide) (fun cc => ?_) (fun cc => ?_)
          · have h := ite_p cc h
            exact Jj26 v4_17 v5_18 v6_19 v7_20 ls h (lv_sub hl [0, 1, 2, 3, 4, 5, 6, 7, 8] rfl)
          · have h := ite_n cc h
            refine lv_aload_n hx hb dX12_mean_44 rfl (lv_at hl 0 rfl) ?_
            refine va_get (D := D) (ci := 12) (v := .ref (a (o + 1))) (C := RX12) (T := TX12) (N := 12) hx hb hts hinX12 hown hK hP 0 rfl rfl 0 (by decide) hf7 (fun _ h9 => h9) rfl dX12_mean_45 ?_
            refine lv_iload_n hx hb dX12_mean_48 rfl (lv_at hl 1 rfl) ?_
            refine lv_iload hx hb dX12_mean_49 (lv_at hl 8 rfl) ?_
            refine lv_iload_n hx hb dX12_mean_51 rfl (lv_at hl 2 rfl) ?_
            obtain ⟨x29, e30, h⟩ := bd_some h
            refine pcS (As := [.int v8_21, .int c2_2]) (rest := [.int c1_1, .ref (a (o + 1))]) (qX12_seat l D cy  v8_21 c2_2 x29 e30) ⟨hx, hb, hml, hown, hts⟩ (va_cwS 2 hts gX12_mean_X12_seat rfl rfl rfl (by decide +kernel) ⟨Nat.le_of_ble_eq_true rfl, Nat.le_of_ble_eq_true rfl⟩) hG (hP.sub [] rfl) rfl hl.1 rfl (Nat.le_of_ble_eq_true rfl) dX12_mean_52 ⟨Nat.zero_le _, Nat.zero_le _⟩ ?_
            refine lv_iadd hx hb dX12_mean_55 ?_
            obtain ⟨g31, h⟩ := gd_some h
            refine r_ald (f := (gX12_m S)) (n := 714) (v := ((gX12_m S) (((c1_1 + x29)).toNatClampNeg))) hx hb hK hP 1 0 rfl rfl (gIn_in g31) rfl dX12_mean_56 ?_
            refine lv_istore (lv' := [(9, .int ((gX12_m S) (((c1_1 + x29)).toNatClampNeg))), (0, .ref (a o)), (1, .int c1_1), (2, .int c2_2), (3, .int c3_3), (4, .int v4_17), (5, .int v5_18), (6, .int v6_19), (7, .int v7_20), (8, .int v8_21)]) hx hb dX12_mean_57 hl (by decide) rfl (fun ls hl => ?_)
            refine lv_iinc (v := (v4_17 + (1 : Int32))) (lv' := [(4, .int (v4_17 + (1 : Int32))), (9, .int ((gX12_m S) (((c1_1 + x29)).toNatClampNeg))), (0, .ref (a o)), (1, .int c1_1), (2, .int c2_2), (3, .int c3_3), (5, .int v5_18), (6, .int v6_19), (7, .int v7_20), (8, .int v8_21)]) hx hb dX12_mean_59 hl (k := 5) rfl (by rfl) (by decide) rfl (fun ls hl => ?_)
            refine lv_iload hx hb dX12_mean_62 (lv_at hl 6 rfl) ?_
            refine lv_iload hx hb dX12_mean_64 (lv_at hl 1 rfl) ?_
            refine lv_iadd hx hb dX12_mean_66 ?_
            refine lv_istore (lv' := [(5, .int (v5_18 + ((gX12_m S) (((c1_1 + x29)).toNatClampNeg)))), (4, .int (v4_17 + (1 : Int32))), (9, .int ((gX12_m S) (((c1_1 + x29)).toNatClampNeg))), (0, .ref (a o)), (1, .int c1_1), (2, .int c2_2), (3, .int c3_3), (6, .int v6_19), (7, .int v7_20), (8, .int v8_21)]) hx hb dX12_mean_67 hl (by decide) rfl (fun ls hl => ?_)
            refine lv_iload hx hb dX12_mean_69 (lv_at hl 2 rfl) ?_
            refine lv_iload hx hb dX12_mean_71 (lv_at hl 7 rfl) ?_
            obtain ⟨j33, hj33, h⟩ := jn_elim h
            have Jj33 : ∀ (x32 : Int32) (ls : Array Slot), j33 x32 = some rs → lv_has ls 10 [(0, .ref (a o)), (1, .int c1_1), (2, .int c2_2), (3, .int c3_3), (4, .int (v4_17 + (1 : Int32))), (5, .int (v5_18 + ((gX12_m S) (((c1_1 + x29)).toNatClampNeg)))), (7, .int v7_20), (8, .int v8_21), (9, .int ((gX12_m S) (((c1_1 + x29)).toNatClampNeg)))] → W p l e (headSpec wsX12_mean ({ frames := 3, cells := 0, slots := 0, locals := 66 } : Room)).room s m ([.ref (a o), .int p1, .int p2, .int p3] : List Value).toArray below meth c s.heap [] 0 0 (MQ below (vp_Si (fun z => z = rs)) ([.ref (a o), .int p1, .int p2, .int p3] : List Value).toArray s 0 0 (fun _ => False)) (F0 m 83 ls [.int x32]) := by
              intro x32 ls h hl
              rw [hj33] at h
              refine lv_istore (lv' := [(6, .int x32), (0, .ref (a o)), (1, .int c1_1), (2, .int c2_2), (3, .int c3_3), (4, .int (v4_17 + (1 : Int32))), (5, .int (v5_18 + ((gX12_m S) (((c1_1 + x29)).toNatClampNeg)))), (7, .int v7_20), (8, .int v8_21), (9, .int ((gX12_m S) (((c1_1 + x29)).toNatClampNeg)))]) hx hb dX12_mean_83 hl (by decide) rfl (fun ls hl => ?_)
              refine lv_iload hx hb dX12_mean_85 (lv_at hl 9 rfl) ?_
              refine lv_iload hx hb dX12_mean_87 (lv_at hl 7 rfl) ?_
              obtain ⟨j35, hj35, h⟩ := jn_elim h
              have Jj35 : ∀ (x34 : Int32) (ls : Array Slot), j35 x34 = some rs → lv_has ls 10 [(0, .ref (a o)), (1, .int c1_1), (2, .int c2_2), (3, .int c3_3), (4, .int (v4_17 + (1 : Int32))), (5, .int (v5_18 + ((gX12_m S) (((c1_1 + x29)).toNatClampNeg)))), (6, .int x32), (8, .int v8_21)] → W p l e (headSpec wsX12_mean ({ frames := 3, cells := 0, slots := 0, locals := 66 } : Room)).room s m ([.ref (a o), .int p1, .int p2, .int p3] : List Value).toArray below meth c s.heap [] 0 0 (MQ below (vp_Si (fun z => z = rs)) ([.ref (a o), .int p1, .int p2, .int p3] : List Value).toArray s 0 0 (fun _ => False)) (F0 m 99 ls [.int x34]) := by
                intro x34 ls h hl
                rw [hj35] at h
                refine lv_istore (lv' := [(7, .int x34), (0, .ref (a o)), (1, .int c1_1), (2, .int c2_2), (3, .int c3_3), (4, .int (v4_17 + (1 : Int32))), (5, .int (v5_18 + ((gX12_m S) (((c1_1 + x29)).toNatClampNeg)))), (6, .int x32), (8, .int v8_21)]) hx hb dX12_mean_99 hl (by decide) rfl (fun ls hl => ?_)
                exact Jj26 (v4_17 + (1 : Int32)) (v5_18 + ((gX12_m S) (((c1_1 + x29)).toNatClampNeg))) x32 x34 ls h (lv_sub hl [1, 2, 3, 4, 5, 6, 7, 0, 8] rfl)
              refine lv_icmp_le (tgt := 97) hx hb dX12_mean_89 (by decide) (fun cc => ?_) (fun cc => ?_)
              · have h := ite_p cc h
                refine lv_iload hx hb dX12_mean_97 (lv_at hl 7 rfl) ?_
                exact Jj35 v7_20 ls h (lv_sub hl [1, 2, 3, 4, 5, 6, 0, 8] rfl)
              · have h := ite_n cc h
                refine lv_iload hx hb dX12_mean_92 (lv_at hl 9 rfl) ?_
                refine lv_goto (tgt := 99) hx hb dX12_mean_94 (by decide) ?_
                exact Jj35 ((gX12_m S) (((c1_1 + x29)).toNatClampNeg)) ls h (lv_sub hl [1, 2, 3, 4, 5, 6, 0, 8] rfl)
            refine lv_icmp_ge (tgt := 81) hx hb dX12_mean_73 (by decide) (fun cc => ?_) (fun cc => ?_)
            · have h := ite_p cc h
              refine lv_iload hx hb dX12_mean_81 (lv_at hl 7 rfl) ?_
              exact Jj33 v6_19 ls h (lv_sub hl [3, 4, 5, 6, 1, 0, 8, 9, 2] rfl)
            · have h := ite_n cc h
              refine lv_iload hx hb dX12_mean_76 (lv_at hl 2 rfl) ?_
              refine lv_goto (tgt := 83) hx hb dX12_mean_78 (by decide) ?_
              exact Jj33 ((gX12_m S) (((c1_1 + x29)).toNatClampNeg)) ls h (lv_sub hl [3, 4, 5, 6, 1, 0, 8, 9, 2] rfl)
  refine L36 p1 p2 p3 _ ?_ fu (0 : Int32) (0 : Int32) (100 : Int32) (0 : Int32) (0 : Int32) ls h (lv_sub hl [5, 6, 7, 8, 4, 3, 2, 1, 0] rfl)
  intro v4_9 v5_10 v6_11 v7_12 ls h hl
  refine lv_iload hx hb dX12_mean_107 (lv_at hl 0 rfl) ?_
  refine lv_if_ne (tgt := 114) hx hb dX12_mean_109 (by decide) (fun cc => ?_) (fun cc => ?_)
  · have h := ite_n cc h
    refine lv_iload hx hb dX12_mean_114 (lv_at hl 0 rfl) ?_
    refine lv_iconst (v := (4 : Int32)) hx hb dX12_mean_116 (by decide) ?_
    obtain ⟨j14, hj14, h⟩ := jn_elim h
    have Jj14 : ∀ (x13 : Int32) (ls : Array Slot), j14 x13 = some rs → lv_has ls 10 [] → W p l e (headSpec wsX12_mean ({ frames := 3, cells := 0, slots := 0, locals := 66 } : Room)).room s m ([.ref (a o), .int p1, .int p2, .int p3] : List Value).toArray below meth c s.heap [] 0 0 (MQ below (vp_Si (fun z => z = rs)) ([.ref (a o), .int p1, .int p2, .int p3] : List Value).toArray s 0 0 (fun _ => False)) (F0 m 149 ls [.int x13]) := by
      intro x13 ls h hl
      rw [hj14] at h
      exact W.iret (v := x13) hx hb hr (fun t ht hW => ⟨x13, rfl, some_in h, ht⟩) (fun q hq => nomatch hq) dX12_mean_149
    refine lv_icmp_ge (tgt := 132) hx hb dX12_mean_117 (by decide) (fun cc => ?_) (fun cc => ?_)
    · have h := ite_p cc h
      refine lv_sipush (v := (1000 : Int32)) hx hb dX12_mean_132 (by decide) ?_
      refine lv_iload hx hb dX12_mean_135 (lv_at hl 1 rfl) ?_
      refine lv_iload hx hb dX12_mean_137 (lv_at hl 2 rfl) ?_
      refine lv_isub hx hb dX12_mean_139 ?_
      refine lv_iload hx hb dX12_mean_140 (lv_at hl 3 rfl) ?_
      refine lv_isub hx hb dX12_mean_142 ?_
      refine lv_imul hx hb dX12_mean_143 ?_
      refine lv_iload hx hb dX12_mean_144 (lv_at hl 0 rfl) ?_
      refine lv_iconst (v := (2 : Int32)) hx hb dX12_mean_146 (by decide) ?_
      refine lv_isub hx hb dX12_mean_147 ?_
      obtain ⟨g15, h⟩ := gz_some h
      refine lv_idiv hx hb dX12_mean_148 g15 ?_
      exact Jj14 (((1000 : Int32) * ((v5_10 - v6_11) - v7_12)) / (v4_9 - (2 : Int32))) ls h (lv_sub hl [] rfl)
    · have h := ite_n cc h
      refine lv_sipush (v := (1000 : Int32)) hx hb dX12_mean_120 (by decide) ?_
      refine lv_iload hx hb dX12_mean_123 (lv_at hl 1 rfl) ?_
      refine lv_imul hx hb dX12_mean_125 ?_
      refine lv_iload hx hb dX12_mean_126 (lv_at hl 0 rfl) ?_
      obtain ⟨g16, h⟩ := gz_some h
      refine lv_idiv hx hb dX12_mean_128 g16 ?_
      refine lv_goto (tgt := 149) hx hb dX12_mean_129 (by decide) ?_
      exact Jj14 (((1000 : Int32) * v5_10) / v4_9) ls h (lv_sub hl [] rfl)
  · have h := ite_p cc h
    refine lv_iconst (v := (-1 : Int32)) hx hb dX12_mean_112 (by decide) ?_
    exact W.iret (v := (-1 : Int32)) hx hb hr (fun t ht hW => ⟨(-1 : Int32), rfl, some_in h, ht⟩) (fun q hq => nomatch hq) dX12_mean_113
set_option maxHeartbeats 4000000 in
set_option maxRecDepth 100000 in
theorem qX12_scoreOf (l : Launch) (D : va_G) (cy : Nat → ClassId) (a : Nat → Nat) (o : Nat) (S : SX12) (p1 : Int32) (rs : Int32) (h : DX12_scoreOf S p1 = some rs) : Met l yX12_scoreOf wsX12_scoreOf ({ frames := 4, cells := 0, slots := 0, locals := 95 } : Room) (va_Pc [.ref (a o), .int p1] (fun U => va_P D vwCl (wX12 cy a o S) U.heap ∧ gK D cy U)) (vp_Si (fun z => z = rs)) 0 0 (fun _ => False) := by
  refine Met.ofW (cc := cX12_scoreOf) (maxL := 4) (ret := (some .int)) (by decide) rfl ?_
  intro p e s m args below meth c s₁ B hml hv
  obtain ⟨rfl, hP, hG⟩ := hv
  have hx := B.exec
  have hb := B.bytes
  have hr := B.returns
  have hts := atoms_spec (ws := wsX12_scoreOf) B.pre
  have hown : s.vm.findClass RX12 = some m.cls := findClass_of_methodNamed B.named
  have hlocks := B.notSynchronized
  have hK := hG.1
  have hinX12 := (by decide +kernel : ∀ w ∈ wsX120, w ∈ wsX12_scoreOf)
  have hf7 := hts (.fieldLink RX12 7 "PianoRoundsModel" "m" "[I") (by decide +kernel)
  have hl := lv_entry ([.ref (a o), .int p1]) (n := 4) (Nat.le_of_ble_eq_true rfl)
  rw [lg_entry_eq]
  generalize (lg_sl ([.ref (a o), .int p1]) ++ List.replicate (4 - (lg_sl ([.ref (a o), .int p1])).length) Slot.unset).toArray = ls at hl ⊢
  have hl : lv_has ls 4 [(0, .ref (a o)), (1, .int p1)] := hl
  rw [DX12_scoreOf] at h
  refine lv_aload_n hx hb dX12_scoreOf_0 rfl (lv_at hl 0 rfl) ?_
  refine lv_sipush (v := (486 : Int32)) hx hb dX12_scoreOf_1 (by decide) ?_
  refine lv_iload_n hx hb dX12_scoreOf_4 rfl (lv_at hl 1 rfl) ?_
  refine lv_iconst (v := (-1 : Int32)) hx hb dX12_scoreOf_5 (by decide) ?_
  obtain ⟨x1, e2, h⟩ := bd_some h
  refine pcV (As := [.int (486 : Int32), .int p1, .int (-1 : Int32)]) (rest := []) (q0 := 0) (qX12_mean l D cy a o S (486 : Int32) p1 (-1 : Int32) x1 e2) ⟨hx, hb, hml, hown, hts⟩ (cwV 3 hts gX12_scoreOf_X12_mean rfl rfl rfl (by decide +kernel) ⟨Nat.le_of_ble_eq_true rfl, Nat.le_of_ble_eq_true rfl⟩) hG hP rfl rfl rfl hl.1 rfl (Nat.le_of_ble_eq_true rfl) dX12_scoreOf_6 ⟨Nat.zero_le _, Nat.zero_le _⟩ ?_
  refine lv_istore_n (lv' := [(2, .int x1), (0, .ref (a o)), (1, .int p1)]) hx hb dX12_scoreOf_9 rfl hl (by decide) rfl (fun ls hl => ?_)
  refine lv_iload_n hx hb dX12_scoreOf_10 rfl (lv_at hl 0 rfl) ?_
  refine lv_iconst (v := (-1 : Int32)) hx hb dX12_scoreOf_11 (by decide) ?_
  obtain ⟨j3, hj3, h⟩ := jn_elim h
  have Jj3 : ∀ (ls : Array Slot), j3 () = some rs → lv_has ls 4 [] → W p l e (headSpec wsX12_scoreOf ({ frames := 4, cells := 0, slots := 0, locals := 95 } : Room)).room s m ([.ref (a o), .int p1] : List Value).toArray below meth c s.heap [] 0 0 (MQ below (vp_Si (fun z => z = rs)) ([.ref (a o), .int p1] : List Value).toArray s 0 0 (fun _ => False)) (F0 m 23 ls []) := by
    intro ls h hl
    rw [hj3] at h
    refine lv_iconst (v := (-1 : Int32)) hx hb dX12_scoreOf_23 (by decide) ?_
    exact W.iret (v := (-1 : Int32)) hx hb hr (fun t ht hW => ⟨(-1 : Int32), rfl, some_in h, ht⟩) (fun q hq => nomatch hq) dX12_scoreOf_24
  refine lv_icmp_eq (tgt := 23) hx hb dX12_scoreOf_12 (by decide) (fun cc => ?_) (fun cc => ?_)
  · have h := ite_p cc h
    exact Jj3  ls h (lv_sub hl [] rfl)
  · have h := ite_n cc h
    refine lv_aload_n hx hb dX12_scoreOf_15 rfl (lv_at hl 1 rfl) ?_
    refine lv_iload_n hx hb dX12_scoreOf_16 rfl (lv_at hl 2 rfl) ?_
    obtain ⟨x4, e5, h⟩ := bd_some h
    refine pcV (As := [.int p1]) (rest := []) (q0 := 0) (qX12_hasPlayed l D cy a o S p1 x4 e5) ⟨hx, hb, hml, hown, hts⟩ (cwV 1 hts gX12_scoreOf_X12_hasPlayed rfl rfl rfl (by decide +kernel) ⟨Nat.le_of_ble_eq_true rfl, Nat.le_of_ble_eq_true rfl⟩) hG hP rfl rfl rfl hl.1 rfl (Nat.le_of_ble_eq_true rfl) dX12_scoreOf_17 ⟨Nat.zero_le _, Nat.zero_le _⟩ ?_
    refine lv_if_ne (tgt := 25) hx hb dX12_scoreOf_20 (by decide) (fun cc => ?_) (fun cc => ?_)
    · have h := ite_n cc h
      refine lv_iload_n hx hb dX12_scoreOf_25 rfl (lv_at hl 0 rfl) ?_
      refine lv_bipush (v := (10 : Int32)) hx hb dX12_scoreOf_26 (by decide) ?_
      refine lv_aload_n hx hb dX12_scoreOf_28 rfl (lv_at hl 1 rfl) ?_
      refine va_get (D := D) (ci := 12) (v := .ref (a (o + 1))) (C := RX12) (T := TX12) (N := 12) hx hb hts hinX12 hown hK hP 0 rfl rfl 0 (by decide) hf7 (fun _ h9 => h9) rfl dX12_scoreOf_29 ?_
      refine lv_iconst (v := (2 : Int32)) hx hb dX12_scoreOf_32 (by decide) ?_
      refine r_ald (f := (gX12_m S)) (n := 714) (v := ((gX12_m S) 2)) hx hb hK hP 1 0 rfl rfl (vp_in_nI (n := 2) (N := 714) (by decide) (by decide)) (congrArg (gX12_m S) (nI_clamp (n := 2) (by decide))) dX12_scoreOf_33 ?_
      refine lv_imul hx hb dX12_scoreOf_34 ?_
      refine lv_aload_n hx hb dX12_scoreOf_35 rfl (lv_at hl 1 rfl) ?_
      refine va_get (D := D) (ci := 12) (v := .ref (a (o + 1))) (C := RX12) (T := TX12) (N := 12) hx hb hts hinX12 hown hK hP 0 rfl rfl 0 (by decide) hf7 (fun _ h9 => h9) rfl dX12_scoreOf_36 ?_
      refine lv_sipush (v := (474 : Int32)) hx hb dX12_scoreOf_39 (by decide) ?_
      refine lv_iload_n hx hb dX12_scoreOf_42 rfl (lv_at hl 2 rfl) ?_
      refine lv_iadd hx hb dX12_scoreOf_43 ?_
      obtain ⟨g6, h⟩ := gd_some h
      refine r_ald (f := (gX12_m S)) (n := 714) (v := ((gX12_m S) ((((474 : Int32) + p1)).toNatClampNeg))) hx hb hK hP 1 0 rfl rfl (gIn_in g6) rfl dX12_scoreOf_44 ?_
      refine lv_imul hx hb dX12_scoreOf_45 ?_
      refine lv_isub hx hb dX12_scoreOf_46 ?_
      refine lv_istore_n (lv' := [(3, .int (x1 - (((10 : Int32) * ((gX12_m S) 2)) * ((gX12_m S) ((((474 : Int32) + p1)).toNatClampNeg))))), (2, .int x1), (0, .ref (a o)), (1, .int p1)]) hx hb dX12_scoreOf_47 rfl hl (by decide) rfl (fun ls hl => ?_)
      refine lv_iload_n hx hb dX12_scoreOf_48 rfl (lv_at hl 0 rfl) ?_
      obtain ⟨j8, hj8, h⟩ := jn_elim h
      have Jj8 : ∀ (x7 : Int32) (ls : Array Slot), j8 x7 = some rs → lv_has ls 4 [] → W p l e (headSpec wsX12_scoreOf ({ frames := 4, cells := 0, slots := 0, locals := 95 } : Room)).room s m ([.ref (a o), .int p1] : List Value).toArray below meth c s.heap [] 0 0 (MQ below (vp_Si (fun z => z = rs)) ([.ref (a o), .int p1] : List Value).toArray s 0 0 (fun _ => False)) (F0 m 57 ls [.int x7]) := by
        intro x7 ls h hl
        rw [hj8] at h
        exact W.iret (v := x7) hx hb hr (fun t ht hW => ⟨x7, rfl, some_in h, ht⟩) (fun q hq => nomatch hq) dX12_scoreOf_57
      refine lv_if_ge (tgt := 56) hx hb dX12_scoreOf_49 (by decide) (fun cc => ?_) (fun cc => ?_)
      · have h := ite_p cc h
        refine lv_iload_n hx hb dX12_scoreOf_56 rfl (lv_at hl 0 rfl) ?_
        exact Jj8 (x1 - (((10 : Int32) * ((gX12_m S) 2)) * ((gX12_m S) ((((474 : Int32) + p1)).toNatClampNeg)))) ls h (lv_sub hl [] rfl)
      · have h := ite_n cc h
        refine lv_iconst (v := (0 : Int32)) hx hb dX12_scoreOf_52 (by decide) ?_
        refine lv_goto (tgt := 57) hx hb dX12_scoreOf_53 (by decide) ?_
        exact Jj8 (0 : Int32) ls h (lv_sub hl [] rfl)
    · have h := ite_p cc h
      exact Jj3  ls h (lv_sub hl [] rfl)
set_option maxHeartbeats 4000000 in
set_option maxRecDepth 100000 in
theorem qX12_isMarked (l : Launch) (D : va_G) (cy : Nat → ClassId) (a : Nat → Nat) (o : Nat) (S : SX12) (p1 : Int32) (p2 : Int32) (rs : Int32) (h : DX12_isMarked S p1 p2 = some rs) : Met l yX12_isMarked wsX12_isMarked ({ frames := 4, cells := 0, slots := 0, locals := 90 } : Room) (va_Pc [.ref (a o), .int p1, .int p2] (fun U => va_P D vwCl (wX12 cy a o S) U.heap ∧ gK D cy U)) (vp_Si (fun z => z = rs)) 0 0 (fun _ => False) := by
  refine Met.ofW (cc := cX12_isMarked) (maxL := 5) (ret := (some .boolean)) (by decide) rfl ?_
  intro p e s m args below meth c s₁ B hml hv
  obtain ⟨rfl, hP, hG⟩ := hv
  have hx := B.exec
  have hb := B.bytes
  have hr := B.returns
  have hts := atoms_spec (ws := wsX12_isMarked) B.pre
  have hown : s.vm.findClass RX12 = some m.cls := findClass_of_methodNamed B.named
  have hlocks := B.notSynchronized
  have hK := hG.1
  have hinX12 := (by decide +kernel : ∀ w ∈ wsX120, w ∈ wsX12_isMarked)
  have hf7 := hts (.fieldLink RX12 7 "PianoRoundsModel" "m" "[I") (by decide +kernel)
  have hl := lv_entry ([.ref (a o), .int p1, .int p2]) (n := 5) (Nat.le_of_ble_eq_true rfl)
  rw [lg_entry_eq]
  generalize (lg_sl ([.ref (a o), .int p1, .int p2]) ++ List.replicate (5 - (lg_sl ([.ref (a o), .int p1, .int p2])).length) Slot.unset).toArray = ls at hl ⊢
  have hl : lv_has ls 5 [(0, .ref (a o)), (1, .int p1), (2, .int p2)] := hl
  rw [DX12_isMarked] at h
  refine lv_iconst (v := (2 : Int32)) hx hb dX12_isMarked_0 (by decide) ?_
  refine lv_aload_n hx hb dX12_isMarked_1 rfl (lv_at hl 0 rfl) ?_
  refine lv_iload_n hx hb dX12_isMarked_2 rfl (lv_at hl 1 rfl) ?_
  refine lv_iload_n hx hb dX12_isMarked_3 rfl (lv_at hl 2 rfl) ?_
  obtain ⟨x1, e2, h⟩ := bd_some h
  refine pcV (As := [.int p1, .int p2]) (rest := [.int (2 : Int32)]) (q0 := 0) (qX12_counting l D cy a o S p1 p2 x1 e2) ⟨hx, hb, hml, hown, hts⟩ (cwV 2 hts gX12_isMarked_X12_counting rfl rfl rfl (by decide +kernel) ⟨Nat.le_of_ble_eq_true rfl, Nat.le_of_ble_eq_true rfl⟩) hG hP rfl rfl rfl hl.1 rfl (Nat.le_of_ble_eq_true rfl) dX12_isMarked_4 ⟨Nat.zero_le _, Nat.zero_le _⟩ ?_
  refine lv_imul hx hb dX12_isMarked_7 ?_
  refine lv_aload_n hx hb dX12_isMarked_8 rfl (lv_at hl 0 rfl) ?_
  refine va_get (D := D) (ci := 12) (v := .ref (a (o + 1))) (C := RX12) (T := TX12) (N := 12) hx hb hts hinX12 hown hK hP 0 rfl rfl 0 (by decide) hf7 (fun _ h9 => h9) rfl dX12_isMarked_9 ?_
  refine lv_iconst (v := (0 : Int32)) hx hb dX12_isMarked_12 (by decide) ?_
  refine r_ald (f := (gX12_m S)) (n := 714) (v := ((gX12_m S) 0)) hx hb hK hP 1 0 rfl rfl (vp_in_nI (n := 0) (N := 714) (by decide) (by decide)) (congrArg (gX12_m S) (nI_clamp (n := 0) (by decide))) dX12_isMarked_13 ?_
  obtain ⟨j4, hj4, h⟩ := jn_elim h
  have Jj4 : ∀ (x3 : Int32) (ls : Array Slot), j4 x3 = some rs → lv_has ls 5 [(0, .ref (a o)), (1, .int p1), (2, .int p2)] → W p l e (headSpec wsX12_isMarked ({ frames := 4, cells := 0, slots := 0, locals := 90 } : Room)).room s m ([.ref (a o), .int p1, .int p2] : List Value).toArray below meth c s.heap [] 0 0 (MQ below (vp_Si (fun z => z = rs)) ([.ref (a o), .int p1, .int p2] : List Value).toArray s 0 0 (fun _ => False)) (F0 m 22 ls [.int x3]) := by
    intro x3 ls h hl
    rw [hj4] at h
    refine lv_istore_n (lv' := [(3, .int x3), (0, .ref (a o)), (1, .int p1), (2, .int p2)]) hx hb dX12_isMarked_22 rfl hl (by decide) rfl (fun ls hl => ?_)
    refine lv_iconst (v := (0 : Int32)) hx hb dX12_isMarked_23 (by decide) ?_
    refine lv_istore (lv' := [(4, .int (0 : Int32)), (3, .int x3), (0, .ref (a o)), (1, .int p1), (2, .int p2)]) hx hb dX12_isMarked_24 hl (by decide) rfl (fun ls hl => ?_)
    have L22 : ∀ (c1_5 : Int32) (c2_6 : Int32) (k7 : Int32 → Option (Int32)) (hk7 : ∀ (v3_8 : Int32) (ls : Array Slot), k7 v3_8 = some rs → lv_has ls 5 [(3, .int v3_8)] → W p l e (headSpec wsX12_isMarked ({ frames := 4, cells := 0, slots := 0, locals := 90 } : Room)).room s m ([.ref (a o), .int p1, .int p2] : List Value).toArray below meth c s.heap [] 0 0 (MQ below (vp_Si (fun z => z = rs)) ([.ref (a o), .int p1, .int p2] : List Value).toArray s 0 0 (fun _ => False)) (F0 m 80 ls [])) (f : Nat) (v3_11 : Int32) (v4_12 : Int32) (ls : Array Slot), DX12_isMarked_L26 S c1_5 c2_6 k7 f v3_11 v4_12 = some rs → lv_has ls 5 [(0, .ref (a o)), (1, .int c1_5), (2, .int c2_6), (3, .int v3_11), (4, .int v4_12)] → W p l e (headSpec wsX12_isMarked ({ frames := 4, cells := 0, slots := 0, locals := 90 } : Room)).room s m ([.ref (a o), .int p1, .int p2] : List Value).toArray below meth c s.heap [] 0 0 (MQ below (vp_Si (fun z => z = rs)) ([.ref (a o), .int p1, .int p2] : List Value).toArray s 0 0 (fun _ => False)) (F0 m 26 ls []) := by
      intro c1_5 c2_6 k7 hk7 f
      induction f with
      | zero =>
        intro v3_11 v4_12 ls h hl
        rw [DX12_isMarked_L26] at h
        cases h
      | succ f ih =>
        intro v3_11 v4_12 ls h hl
        rw [DX12_isMarked_L26] at h
        refine lv_iload hx hb dX12_isMarked_26 (lv_at hl 4 rfl) ?_
        refine lv_aload_n hx hb dX12_isMarked_28 rfl (lv_at hl 0 rfl) ?_
        refine va_get (D := D) (ci := 12) (v := .ref (a (o + 1))) (C := RX12) (T := TX12) (N := 12) hx hb hts hinX12 hown hK hP 0 rfl rfl 0 (by decide) hf7 (fun _ h9 => h9) rfl dX12_isMarked_29 ?_
        refine lv_iconst (v := (0 : Int32)) hx hb dX12_isMarked_32 (by decide) ?_
        refine r_ald (f := (gX12_m S)) (n := 714) (v := ((gX12_m S) 0)) hx hb hK hP 1 0 rfl rfl (vp_in_nI (n := 0) (N := 714) (by decide) (by decide)) (congrArg (gX12_m S) (nI_clamp (n := 0) (by decide))) dX12_isMarked_33 ?_
        refine lv_icmp_ge (tgt := 80) hx hb dX12_isMarked_34 (by decide) (fun cc => ?_) (fun cc => ?_)
        · have h := ite_p cc h
          exact hk7 v3_11 ls h (lv_sub hl [3] rfl)
        · have h := ite_n cc h
          refine lv_iload_n hx hb dX12_isMarked_37 rfl (lv_at hl 3 rfl) ?_
          obtain ⟨j14, hj14, h⟩ := jn_elim h
          have Jj14 : ∀ (x13 : Int32) (ls : Array Slot), j14 x13 = some rs → lv_has ls 5 [(0, .ref (a o)), (1, .int c1_5), (2, .int c2_6), (4, .int v4_12)] → W p l e (headSpec wsX12_isMarked ({ frames := 4, cells := 0, slots := 0, locals := 90 } : Room)).room s m ([.ref (a o), .int p1, .int p2] : List Value).toArray below meth c s.heap [] 0 0 (MQ below (vp_Si (fun z => z = rs)) ([.ref (a o), .int p1, .int p2] : List Value).toArray s 0 0 (fun _ => False)) (F0 m 73 ls [.int x13]) := by
            intro x13 ls h hl
            rw [hj14] at h
            refine lv_istore_n (lv' := [(3, .int x13), (0, .ref (a o)), (1, .int c1_5), (2, .int c2_6), (4, .int v4_12)]) hx hb dX12_isMarked_73 rfl hl (by decide) rfl (fun ls hl => ?_)
            refine lv_iinc (v := (v4_12 + (1 : Int32))) (lv' := [(4, .int (v4_12 + (1 : Int32))), (3, .int x13), (0, .ref (a o)), (1, .int c1_5), (2, .int c2_6)]) hx hb dX12_isMarked_74 hl (k := 4) rfl (by rfl) (by decide) rfl (fun ls hl => ?_)
            refine lv_goto (tgt := 26) hx hb dX12_isMarked_77 (by decide) ?_
            exact ih x13 (v4_12 + (1 : Int32)) ls h (lv_sub hl [2, 3, 4, 1, 0] rfl)
          obtain ⟨j15, hj15, h⟩ := jn_elim h
          have Jj15 : ∀ (ls : Array Slot), j15 () = some rs → lv_has ls 5 [(0, .ref (a o)), (1, .int c1_5), (2, .int c2_6), (4, .int v4_12)] → W p l e (headSpec wsX12_isMarked ({ frames := 4, cells := 0, slots := 0, locals := 90 } : Room)).room s m ([.ref (a o), .int p1, .int p2] : List Value).toArray below meth c s.heap [] 0 0 (MQ below (vp_Si (fun z => z = rs)) ([.ref (a o), .int p1, .int p2] : List Value).toArray s 0 0 (fun _ => False)) (F0 m 72 ls []) := by
            intro ls h hl
            rw [hj15] at h
            refine lv_iconst (v := (0 : Int32)) hx hb dX12_isMarked_72 (by decide) ?_
            exact Jj14 (0 : Int32) ls h (lv_sub hl [0, 1, 2, 3] rfl)
          refine lv_if_eq (tgt := 72) hx hb dX12_isMarked_38 (by decide) (fun cc => ?_) (fun cc => ?_)
          · have h := ite_p cc h
            exact Jj15  ls h (lv_sub hl [0, 1, 2, 4] rfl)
          · have h := ite_n cc h
            refine lv_aload_n hx hb dX12_isMarked_41 rfl (lv_at hl 0 rfl) ?_
            refine va_get (D := D) (ci := 12) (v := .ref (a (o + 1))) (C := RX12) (T := TX12) (N := 12) hx hb hts hinX12 hown hK hP 0 rfl rfl 0 (by decide) hf7 (fun _ h9 => h9) rfl dX12_isMarked_42 ?_
            refine lv_iload_n hx hb dX12_isMarked_45 rfl (lv_at hl 1 rfl) ?_
            refine lv_iload hx hb dX12_isMarked_46 (lv_at hl 4 rfl) ?_
            refine lv_iload_n hx hb dX12_isMarked_48 rfl (lv_at hl 2 rfl) ?_
            obtain ⟨x16, e17, h⟩ := bd_some h
            refine pcS (As := [.int v4_12, .int c2_6]) (rest := [.int c1_5, .ref (a (o + 1))]) (qX12_seat l D cy  v4_12 c2_6 x16 e17) ⟨hx, hb, hml, hown, hts⟩ (va_cwS 2 hts gX12_isMarked_X12_seat rfl rfl rfl (by decide +kernel) ⟨Nat.le_of_ble_eq_true rfl, Nat.le_of_ble_eq_true rfl⟩) hG (hP.sub [] rfl) rfl hl.1 rfl (Nat.le_of_ble_eq_true rfl) dX12_isMarked_49 ⟨Nat.zero_le _, Nat.zero_le _⟩ ?_
            refine lv_iadd hx hb dX12_isMarked_52 ?_
            obtain ⟨g18, h⟩ := gd_some h
            refine r_ald (f := (gX12_m S)) (n := 714) (v := ((gX12_m S) (((c1_5 + x16)).toNatClampNeg))) hx hb hK hP 1 0 rfl rfl (gIn_in g18) rfl dX12_isMarked_53 ?_
            refine lv_iconst (v := (-1 : Int32)) hx hb dX12_isMarked_54 (by decide) ?_
            obtain ⟨j19, hj19, h⟩ := jn_elim h
            have Jj19 : ∀ (ls : Array Slot), j19 () = some rs → lv_has ls 5 [(0, .ref (a o)), (1, .int c1_5), (2, .int c2_6), (4, .int v4_12)] → W p l e (headSpec wsX12_isMarked ({ frames := 4, cells := 0, slots := 0, locals := 90 } : Room)).room s m ([.ref (a o), .int p1, .int p2] : List Value).toArray below meth c s.heap [] 0 0 (MQ below (vp_Si (fun z => z = rs)) ([.ref (a o), .int p1, .int p2] : List Value).toArray s 0 0 (fun _ => False)) (F0 m 68 ls []) := by
              intro ls h hl
              rw [hj19] at h
              refine lv_iconst (v := (1 : Int32)) hx hb dX12_isMarked_68 (by decide) ?_
              refine lv_goto (tgt := 73) hx hb dX12_isMarked_69 (by decide) ?_
              exact Jj14 (1 : Int32) ls h (lv_sub hl [0, 1, 2, 3] rfl)
            refine lv_icmp_ne (tgt := 68) hx hb dX12_isMarked_55 (by decide) (fun cc => ?_) (fun cc => ?_)
            · have h := ite_n cc h
              exact Jj19  ls h (lv_sub hl [0, 1, 2, 4] rfl)
            · have h := ite_p cc h
              refine lv_aload_n hx hb dX12_isMarked_58 rfl (lv_at hl 0 rfl) ?_
              refine lv_iload hx hb dX12_isMarked_59 (lv_at hl 4 rfl) ?_
              refine lv_iload_n hx hb dX12_isMarked_61 rfl (lv_at hl 2 rfl) ?_
              obtain ⟨x20, e21, h⟩ := bd_some h
              refine pcV (As := [.int v4_12, .int c2_6]) (rest := []) (q0 := 0) (qX12_isBarred l D cy a o S v4_12 c2_6 x20 e21) ⟨hx, hb, hml, hown, hts⟩ (cwV 2 hts gX12_isMarked_X12_isBarred rfl rfl rfl (by decide +kernel) ⟨Nat.le_of_ble_eq_true rfl, Nat.le_of_ble_eq_true rfl⟩) hG hP rfl rfl rfl hl.1 rfl (Nat.le_of_ble_eq_true rfl) dX12_isMarked_62 ⟨Nat.zero_le _, Nat.zero_le _⟩ ?_
              refine lv_if_eq (tgt := 72) hx hb dX12_isMarked_65 (by decide) (fun cc => ?_) (fun cc => ?_)
              · have h := ite_p cc h
                exact Jj15  ls h (lv_sub hl [0, 1, 2, 4] rfl)
              · have h := ite_n cc h
                exact Jj19  ls h (lv_sub hl [0, 1, 2, 4] rfl)
    refine L22 p1 p2 _ ?_ fu x3 (0 : Int32) ls h (lv_sub hl [2, 3, 4, 1, 0] rfl)
    intro v3_9 ls h hl
    refine lv_iload_n hx hb dX12_isMarked_80 rfl (lv_at hl 0 rfl) ?_
    obtain ⟨g10, h⟩ := gd_some h
    exact W.zret (v := v3_9) hx hb hr (zN g10) (fun t ht hW => ⟨v3_9, rfl, some_in h, ht⟩) (fun q hq => nomatch hq) dX12_isMarked_81
  refine lv_icmp_lt (tgt := 21) hx hb dX12_isMarked_14 (by decide) (fun cc => ?_) (fun cc => ?_)
  · have h := ite_p cc h
    refine lv_iconst (v := (0 : Int32)) hx hb dX12_isMarked_21 (by decide) ?_
    exact Jj4 (0 : Int32) ls h (lv_sub hl [0, 1, 2] rfl)
  · have h := ite_n cc h
    refine lv_iconst (v := (1 : Int32)) hx hb dX12_isMarked_17 (by decide) ?_
    refine lv_goto (tgt := 22) hx hb dX12_isMarked_18 (by decide) ?_
    exact Jj4 (1 : Int32) ls h (lv_sub hl [0, 1, 2] rfl)
set_option maxHeartbeats 4000000 in
set_option maxRecDepth 100000 in
theorem qX12_isComplete (l : Launch) (D : va_G) (cy : Nat → ClassId) (a : Nat → Nat) (o : Nat) (S : SX12) (p1 : Int32) (rs : Int32) (h : DX12_isComplete S p1 = some rs) : Met l yX12_isComplete wsX12_isComplete ({ frames := 5, cells := 0, slots := 0, locals := 114 } : Room) (va_Pc [.ref (a o), .int p1] (fun U => va_P D vwCl (wX12 cy a o S) U.heap ∧ gK D cy U)) (vp_Si (fun z => z = rs)) 0 0 (fun _ => False) := by
  refine Met.ofW (cc := cX12_isComplete) (maxL := 2) (ret := (some .boolean)) (by decide) rfl ?_
  intro p e s m args below meth c s₁ B hml hv
  obtain ⟨rfl, hP, hG⟩ := hv
  have hx := B.exec
  have hb := B.bytes
  have hr := B.returns
  have hts := atoms_spec (ws := wsX12_isComplete) B.pre
  have hown : s.vm.findClass RX12 = some m.cls := findClass_of_methodNamed B.named
  have hlocks := B.notSynchronized
  have hK := hG.1
  have hl := lv_entry ([.ref (a o), .int p1]) (n := 2) (Nat.le_of_ble_eq_true rfl)
  rw [lg_entry_eq]
  generalize (lg_sl ([.ref (a o), .int p1]) ++ List.replicate (2 - (lg_sl ([.ref (a o), .int p1])).length) Slot.unset).toArray = ls at hl ⊢
  have hl : lv_has ls 2 [(0, .ref (a o)), (1, .int p1)] := hl
  rw [DX12_isComplete] at h
  refine lv_aload_n hx hb dX12_isComplete_0 rfl (lv_at hl 0 rfl) ?_
  refine lv_iload_n hx hb dX12_isComplete_1 rfl (lv_at hl 1 rfl) ?_
  obtain ⟨x1, e2, h⟩ := bd_some h
  refine pcV (As := [.int p1]) (rest := []) (q0 := 0) (qX12_hasPlayed l D cy a o S p1 x1 e2) ⟨hx, hb, hml, hown, hts⟩ (cwV 1 hts gX12_isComplete_X12_hasPlayed rfl rfl rfl (by decide +kernel) ⟨Nat.le_of_ble_eq_true rfl, Nat.le_of_ble_eq_true rfl⟩) hG hP rfl rfl rfl hl.1 rfl (Nat.le_of_ble_eq_true rfl) dX12_isComplete_2 ⟨Nat.zero_le _, Nat.zero_le _⟩ ?_
  obtain ⟨j4, hj4, h⟩ := jn_elim h
  have Jj4 : ∀ (x3 : Int32) (ls : Array Slot), j4 x3 = some rs → lv_has ls 2 [] → W p l e (headSpec wsX12_isComplete ({ frames := 5, cells := 0, slots := 0, locals := 114 } : Room)).room s m ([.ref (a o), .int p1] : List Value).toArray below meth c s.heap [] 0 0 (MQ below (vp_Si (fun z => z = rs)) ([.ref (a o), .int p1] : List Value).toArray s 0 0 (fun _ => False)) (F0 m 24 ls [.int x3]) := by
    intro x3 ls h hl
    rw [hj4] at h
    obtain ⟨g5, h⟩ := gd_some h
    exact W.zret (v := x3) hx hb hr (zN g5) (fun t ht hW => ⟨x3, rfl, some_in h, ht⟩) (fun q hq => nomatch hq) dX12_isComplete_24
  obtain ⟨j6, hj6, h⟩ := jn_elim h
  have Jj6 : ∀ (ls : Array Slot), j6 () = some rs → lv_has ls 2 [] → W p l e (headSpec wsX12_isComplete ({ frames := 5, cells := 0, slots := 0, locals := 114 } : Room)).room s m ([.ref (a o), .int p1] : List Value).toArray below meth c s.heap [] 0 0 (MQ below (vp_Si (fun z => z = rs)) ([.ref (a o), .int p1] : List Value).toArray s 0 0 (fun _ => False)) (F0 m 23 ls []) := by
    intro ls h hl
    rw [hj6] at h
    refine lv_iconst (v := (0 : Int32)) hx hb dX12_isComplete_23 (by decide) ?_
    exact Jj4 (0 : Int32) ls h (lv_sub hl [] rfl)
  refine lv_if_eq (tgt := 23) hx hb dX12_isComplete_5 (by decide) (fun cc => ?_) (fun cc => ?_)
  · have h := ite_p cc h
    exact Jj6  ls h (lv_sub hl [] rfl)
  · have h := ite_n cc h
    refine lv_aload_n hx hb dX12_isComplete_8 rfl (lv_at hl 0 rfl) ?_
    refine lv_sipush (v := (486 : Int32)) hx hb dX12_isComplete_9 (by decide) ?_
    refine lv_iload_n hx hb dX12_isComplete_12 rfl (lv_at hl 1 rfl) ?_
    obtain ⟨x7, e8, h⟩ := bd_some h
    refine pcV (As := [.int (486 : Int32), .int p1]) (rest := []) (q0 := 0) (qX12_isMarked l D cy a o S (486 : Int32) p1 x7 e8) ⟨hx, hb, hml, hown, hts⟩ (cwV 2 hts gX12_isComplete_X12_isMarked rfl rfl rfl (by decide +kernel) ⟨Nat.le_of_ble_eq_true rfl, Nat.le_of_ble_eq_true rfl⟩) hG hP rfl rfl rfl hl.1 rfl (Nat.le_of_ble_eq_true rfl) dX12_isComplete_13 ⟨Nat.zero_le _, Nat.zero_le _⟩ ?_
    refine lv_if_eq (tgt := 23) hx hb dX12_isComplete_16 (by decide) (fun cc => ?_) (fun cc => ?_)
    · have h := ite_p cc h
      exact Jj6  ls h (lv_sub hl [] rfl)
    · have h := ite_n cc h
      refine lv_iconst (v := (1 : Int32)) hx hb dX12_isComplete_19 (by decide) ?_
      refine lv_goto (tgt := 24) hx hb dX12_isComplete_20 (by decide) ?_
      exact Jj4 (1 : Int32) ls h (lv_sub hl [] rfl)
