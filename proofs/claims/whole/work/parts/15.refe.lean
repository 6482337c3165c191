set_option maxHeartbeats 4000000 in
set_option maxRecDepth 100000 in
theorem qX12_close (l : Launch) (D : va_G) (cy : Nat → ClassId) (a : Nat → Nat) (o : Nat) (S : SX12)  (sz : Nat) (rs : Int32 × SX12) (h : DX12_close S = some rs) : Met l yX12_close wsX12_close ({ frames := 7, cells := 0, slots := 0, locals := 167 } : Room) (mP D cy sz [.ref (a o)] (wX12 cy a o S)) (va_Qi (fun r (u : SX12) => (r, u) = rs) (fun u t => mB D sz (wX12 cy a o S) (wX12 cy a o u) t) (va_A (wX12 cy a o S) sz)) 0 0 (va_A (wX12 cy a o S) sz) := by
  refine Met.ofW (cc := cX12_close) (maxL := 3) (ret := (some .int)) (by decide) rfl ?_
  intro p e s m args below meth c s₁ B hml hv
  obtain ⟨rfl, hsz, hP, hG, hD0⟩ := hv
  have hx := B.exec
  have hb := B.bytes
  have hr := B.returns
  have hts := atoms_spec (ws := wsX12_close) B.pre
  have hown : s.vm.findClass RX12 = some m.cls := findClass_of_methodNamed B.named
  have hlocks := B.notSynchronized
  have hK := hG.1
  subst hsz
  have hD := hD0.self (sz := s.heap.size)
  have hA : ∀ q : Nat, s.heap.size ≤ q → (va_A (wX12 cy a o S) s.heap.size) q := fun q h => Or.inr h
  have hS : va_S (va_A (wX12 cy a o S) s.heap.size) s.heap s.heap [] := va_S.rf
  have hinX12 := (by decide +kernel : ∀ w ∈ wsX120, w ∈ wsX12_close)
  have hf31 := hts (.fieldLink RX12 31 "PianoRoundsModel" "code" "I") (by decide +kernel)
  have hf7 := hts (.fieldLink RX12 7 "PianoRoundsModel" "m" "[I") (by decide +kernel)
  have hl := lv_entry ([.ref (a o)]) (n := 3) (Nat.le_of_ble_eq_true rfl)
  rw [lg_entry_eq]
  generalize (lg_sl ([.ref (a o)]) ++ List.replicate (3 - (lg_sl ([.ref (a o)])).length) Slot.unset).toArray = ls at hl ⊢
  have hl : lv_has ls 3 [(0, .ref (a o))] := hl
  rw [DX12_close] at h
  refine lv_aload_n hx hb dX12_close_0 rfl (lv_at hl 0 rfl) ?_
  refine lv_aload_n hx hb dX12_close_1 rfl (lv_at hl 0 rfl) ?_
  obtain ⟨x1, e2, h⟩ := bd_some h
  refine pcV (As := []) (rest := [.ref (a o)]) (q0 := 0) (qX12_isClosable l D cy a o S  x1 e2) ⟨hx, hb, hml, hown, hts⟩ (cwV 0 hts gX12_close_X12_isClosable rfl rfl rfl (by decide +kernel) ⟨Nat.le_of_ble_eq_true rfl, Nat.le_of_ble_eq_true rfl⟩) hG hP rfl rfl rfl hl.1 rfl (Nat.le_of_ble_eq_true rfl) dX12_close_2 ⟨Nat.zero_le _, Nat.zero_le _⟩ ?_
  obtain ⟨j4, hj4, h⟩ := jn_elim h
  have Jj4 : ∀ (x3 : Int32) (ls : Array Slot), j4 x3 = some rs → lv_has ls 3 [(0, .ref (a o))] → W p l e (headSpec wsX12_close ({ frames := 7, cells := 0, slots := 0, locals := 167 } : Room)).room s m ([.ref (a o)] : List Value).toArray below meth c s.heap [] 0 0 (MQ below (va_Qi (fun r (u : SX12) => (r, u) = rs) (fun u t => mB D s.heap.size (wX12 cy a o S) (wX12 cy a o u) t) (va_A (wX12 cy a o S) s.heap.size)) ([.ref (a o)] : List Value).toArray s 0 0 (va_A (wX12 cy a o S) s.heap.size)) (F0 m 13 ls [.int x3, .ref (a o)]) := by
    intro x3 ls h hl
    rw [hj4] at h
    refine va_put (D := D) (ci := 12) (v := .int x3) (ty := .int) (C := RX12) (T := TX12) (N := 12) hx hb hts hinX12 tyX12 tyX12_ok nmX12 hown hK hP hD hS 0 rfl rfl 5 (by decide) hf31 (fun _ h9 => h9) rfl (by decide +kernel) rfl rfl (Nat.le_of_ble_eq_true rfl) dX12_close_13 (fun H locs hP hD hS => ?_)
    have hP : va_P D vwCl (wX12 cy a o (uX12_code S x3)) H := hP
    have hD : va_D (va_A (wX12 cy a o S) s.heap.size) (wX12 cy a o (uX12_code S x3)) := hD
    obtain ⟨S5, eS6, h⟩ := lt_elim h
    have hP : va_P D vwCl (wX12 cy a o S5) H := by rw [eS6]; exact hP
    have hD : va_D (va_A (wX12 cy a o S) s.heap.size) (wX12 cy a o S5) := by rw [eS6]; exact hD
    refine lv_aload_n hx hb dX12_close_16 rfl (lv_at hl 0 rfl) ?_
    refine va_get (D := D) (ci := 12) (v := .int (gX12_code S5)) (C := RX12) (T := TX12) (N := 12) hx hb hts hinX12 hown hK hP 0 rfl rfl 5 (by decide) hf31 (fun _ h9 => h9) rfl dX12_close_17 ?_
    refine lv_if_eq (tgt := 25) hx hb dX12_close_20 (by decide) (fun cc => ?_) (fun cc => ?_)
    · have h := ite_p cc h
      refine lv_aload_n hx hb dX12_close_25 rfl (lv_at hl 0 rfl) ?_
      obtain ⟨x7, e8, h⟩ := bd_some h
      refine smVv (As := []) (rest := []) (ws' := (wX12 cy a o x7)) (q0 := 0) (qX12_keep l D cy a o S5  (H).size x7 e8) ⟨hx, hb, hml, hown, hts⟩ (cwV 0 hts gX12_close_X12_keep rfl rfl rfl (by decide +kernel) ⟨Nat.le_of_ble_eq_true rfl, Nat.le_of_ble_eq_true rfl⟩) hG hP hD hS hA (pm1 (X := ([] : va_W)) (c := (wX12 cy a o S5)) (Y := ([] : va_W)) (show (wX12 cy a o S5) = ([] : va_W) ++ ((wX12 cy a o S5) ++ ([] : va_W)) from by simp only [List.append_assoc, List.nil_append, List.append_nil] <;> rfl)) (pm1 (X := ([] : va_W)) (c := (wX12 cy a o x7)) (Y := ([] : va_W)) (show (wX12 cy a o x7) = ([] : va_W) ++ ((wX12 cy a o x7) ++ ([] : va_W)) from by simp only [List.append_assoc, List.nil_append, List.append_nil] <;> rfl)) rfl rfl rfl hl.1 rfl (Nat.le_of_ble_eq_true rfl) dX12_close_26 ⟨Nat.zero_le _, Nat.zero_le _⟩ (fun H locs hP hD hS => ?_)
      refine lv_aload_n hx hb dX12_close_29 rfl (lv_at hl 0 rfl) ?_
      refine va_get (D := D) (ci := 12) (v := .ref (a (o + 1))) (C := RX12) (T := TX12) (N := 12) hx hb hts hinX12 hown hK hP 0 rfl rfl 0 (by decide) hf7 (fun _ h9 => h9) rfl dX12_close_30 ?_
      refine lv_iconst (v := (3 : Int32)) hx hb dX12_close_33 (by decide) ?_
      refine r_ald (f := (gX12_m x7)) (n := 714) (v := ((gX12_m x7) 3)) hx hb hK hP 1 0 rfl rfl (vp_in_nI (n := 3) (N := 714) (by decide) (by decide)) (congrArg (gX12_m x7) (nI_clamp (n := 3) (by decide))) dX12_close_34 ?_
      refine lv_iconst (v := (1 : Int32)) hx hb dX12_close_35 (by decide) ?_
      obtain ⟨j10, hj10, h⟩ := jn_elim h
      have Jj10 : ∀ (x9 : Int32) (ls : Array Slot), j10 x9 = some rs → lv_has ls 3 [(0, .ref (a o))] → W p l e (headSpec wsX12_close ({ frames := 7, cells := 0, slots := 0, locals := 167 } : Room)).room s m ([.ref (a o)] : List Value).toArray below meth c H locs 0 0 (MQ below (va_Qi (fun r (u : SX12) => (r, u) = rs) (fun u t => mB D s.heap.size (wX12 cy a o S) (wX12 cy a o u) t) (va_A (wX12 cy a o S) s.heap.size)) ([.ref (a o)] : List Value).toArray s 0 0 (va_A (wX12 cy a o S) s.heap.size)) (F0 m 68 ls [.int x9]) := by
        intro x9 ls h hl
        rw [hj10] at h
        refine lv_istore_n (lv' := [(1, .int x9), (0, .ref (a o))]) hx hb dX12_close_68 rfl hl (by decide) rfl (fun ls hl => ?_)
        refine lv_iconst (v := (0 : Int32)) hx hb dX12_close_69 (by decide) ?_
        refine lv_istore_n (lv' := [(2, .int (0 : Int32)), (1, .int x9), (0, .ref (a o))]) hx hb dX12_close_70 rfl hl (by decide) rfl (fun ls hl => ?_)
        obtain ⟨j12, hj12, h⟩ := jn_elim h
        have Jj12 : ∀ (S11 : SX12) (H : Heap) (locs : List Loc) (ls : Array Slot), j12 S11 = some rs → va_P D vwCl (wX12 cy a o S11) H → va_D (va_A (wX12 cy a o S) s.heap.size) (wX12 cy a o S11) → va_S (va_A (wX12 cy a o S) s.heap.size) s.heap H locs → lv_has ls 3 [(0, .ref (a o)), (1, .int x9)] → W p l e (headSpec wsX12_close ({ frames := 7, cells := 0, slots := 0, locals := 167 } : Room)).room s m ([.ref (a o)] : List Value).toArray below meth c H locs 0 0 (MQ below (va_Qi (fun r (u : SX12) => (r, u) = rs) (fun u t => mB D s.heap.size (wX12 cy a o S) (wX12 cy a o u) t) (va_A (wX12 cy a o S) s.heap.size)) ([.ref (a o)] : List Value).toArray s 0 0 (va_A (wX12 cy a o S) s.heap.size)) (F0 m 135 ls []) := by
          intro S11 H locs ls h hP hD hS hl
          rw [hj12] at h
          refine lv_aload_n hx hb dX12_close_135 rfl (lv_at hl 0 rfl) ?_
          refine lv_aload_n hx hb dX12_close_136 rfl (lv_at hl 0 rfl) ?_
          refine va_get (D := D) (ci := 12) (v := .ref (a (o + 1))) (C := RX12) (T := TX12) (N := 12) hx hb hts hinX12 hown hK hP 0 rfl rfl 0 (by decide) hf7 (fun _ h9 => h9) rfl dX12_close_137 ?_
          refine lv_iconst (v := (3 : Int32)) hx hb dX12_close_140 (by decide) ?_
          refine r_ald (f := (gX12_m S11)) (n := 714) (v := ((gX12_m S11) 3)) hx hb hK hP 1 0 rfl rfl (vp_in_nI (n := 3) (N := 714) (by decide) (by decide)) (congrArg (gX12_m S11) (nI_clamp (n := 3) (by decide))) dX12_close_141 ?_
          refine lv_iconst (v := (1 : Int32)) hx hb dX12_close_142 (by decide) ?_
          obtain ⟨j14, hj14, h⟩ := jn_elim h
          have Jj14 : ∀ (x13 : Int32) (ls : Array Slot), j14 x13 = some rs → lv_has ls 3 [(0, .ref (a o)), (1, .int x9)] → W p l e (headSpec wsX12_close ({ frames := 7, cells := 0, slots := 0, locals := 167 } : Room)).room s m ([.ref (a o)] : List Value).toArray below meth c H locs 0 0 (MQ below (va_Qi (fun r (u : SX12) => (r, u) = rs) (fun u t => mB D s.heap.size (wX12 cy a o S) (wX12 cy a o u) t) (va_A (wX12 cy a o S) s.heap.size)) ([.ref (a o)] : List Value).toArray s 0 0 (va_A (wX12 cy a o S) s.heap.size)) (F0 m 155 ls [.int x13, .ref (a o)]) := by
            intro x13 ls h hl
            rw [hj14] at h
            refine lv_iload_n hx hb dX12_close_155 rfl (lv_at hl 1 rfl) ?_
            obtain ⟨x15, e16, h⟩ := bd_some h
            refine smVv (As := [.int x13, .int x9]) (rest := []) (ws' := (wX12 cy a o x15)) (q0 := 0) (qX12_decide l D cy a o S11 x13 x9 (H).size x15 e16) ⟨hx, hb, hml, hown, hts⟩ (cwV 2 hts gX12_close_X12_decide rfl rfl rfl (by decide +kernel) ⟨Nat.le_of_ble_eq_true rfl, Nat.le_of_ble_eq_true rfl⟩) hG hP hD hS hA (pm1 (X := ([] : va_W)) (c := (wX12 cy a o S11)) (Y := ([] : va_W)) (show (wX12 cy a o S11) = ([] : va_W) ++ ((wX12 cy a o S11) ++ ([] : va_W)) from by simp only [List.append_assoc, List.nil_append, List.append_nil] <;> rfl)) (pm1 (X := ([] : va_W)) (c := (wX12 cy a o x15)) (Y := ([] : va_W)) (show (wX12 cy a o x15) = ([] : va_W) ++ ((wX12 cy a o x15) ++ ([] : va_W)) from by simp only [List.append_assoc, List.nil_append, List.append_nil] <;> rfl)) rfl rfl rfl hl.1 rfl (Nat.le_of_ble_eq_true rfl) dX12_close_156 ⟨Nat.zero_le _, Nat.zero_le _⟩ (fun H locs hP hD hS => ?_)
            refine lv_aload_n hx hb dX12_close_159 rfl (lv_at hl 0 rfl) ?_
            refine lv_iload_n hx hb dX12_close_160 rfl (lv_at hl 1 rfl) ?_
            obtain ⟨x17, e18, h⟩ := bd_some h
            refine smVv (As := [.int x9]) (rest := []) (ws' := (wX12 cy a o x17)) (q0 := 0) (qX12_settle l D cy a o x15 x9 (H).size x17 e18) ⟨hx, hb, hml, hown, hts⟩ (cwV 1 hts gX12_close_X12_settle rfl rfl rfl (by decide +kernel) ⟨Nat.le_of_ble_eq_true rfl, Nat.le_of_ble_eq_true rfl⟩) hG hP hD hS hA (pm1 (X := ([] : va_W)) (c := (wX12 cy a o x15)) (Y := ([] : va_W)) (show (wX12 cy a o x15) = ([] : va_W) ++ ((wX12 cy a o x15) ++ ([] : va_W)) from by simp only [List.append_assoc, List.nil_append, List.append_nil] <;> rfl)) (pm1 (X := ([] : va_W)) (c := (wX12 cy a o x17)) (Y := ([] : va_W)) (show (wX12 cy a o x17) = ([] : va_W) ++ ((wX12 cy a o x17) ++ ([] : va_W)) from by simp only [List.append_assoc, List.nil_append, List.append_nil] <;> rfl)) rfl rfl rfl hl.1 rfl (Nat.le_of_ble_eq_true rfl) dX12_close_161 ⟨Nat.zero_le _, Nat.zero_le _⟩ (fun H locs hP hD hS => ?_)
            refine lv_aload_n hx hb dX12_close_164 rfl (lv_at hl 0 rfl) ?_
            refine va_get (D := D) (ci := 12) (v := .ref (a (o + 1))) (C := RX12) (T := TX12) (N := 12) hx hb hts hinX12 hown hK hP 0 rfl rfl 0 (by decide) hf7 (fun _ h9 => h9) rfl dX12_close_165 ?_
            refine lv_iconst (v := (3 : Int32)) hx hb dX12_close_168 (by decide) ?_
            refine r_ald (f := (gX12_m x17)) (n := 714) (v := ((gX12_m x17) 3)) hx hb hK hP 1 0 rfl rfl (vp_in_nI (n := 3) (N := 714) (by decide) (by decide)) (congrArg (gX12_m x17) (nI_clamp (n := 3) (by decide))) dX12_close_169 ?_
            exact W.iret (v := ((gX12_m x17) 3)) hx hb hr (fun t ht hW => ⟨⟨((gX12_m x17) 3), x17, rfl, some_in h, by rw [ht]; exact hP, hD⟩, hS.F ht⟩) hS.2.2 dX12_close_170
          refine lv_icmp_ne (tgt := 152) hx hb dX12_close_143 (by decide) (fun cc => ?_) (fun cc => ?_)
          · have h := ite_n cc h
            refine lv_sipush (v := (570 : Int32)) hx hb dX12_close_152 (by decide) ?_
            exact Jj14 (570 : Int32) ls h (lv_sub hl [0, 1] rfl)
          · have h := ite_p cc h
            refine lv_sipush (v := (486 : Int32)) hx hb dX12_close_146 (by decide) ?_
            refine lv_goto (tgt := 155) hx hb dX12_close_149 (by decide) ?_
            exact Jj14 (486 : Int32) ls h (lv_sub hl [0, 1] rfl)
        have L33 : ∀ (c1_19 : Int32) (k21 : SX12 → Option (Int32 × SX12)) (hk21 : ∀ (S22 : SX12) (H : Heap) (locs : List Loc) (ls : Array Slot), k21 S22 = some rs → va_P D vwCl (wX12 cy a o S22) H → va_D (va_A (wX12 cy a o S) s.heap.size) (wX12 cy a o S22) → va_S (va_A (wX12 cy a o S) s.heap.size) s.heap H locs → lv_has ls 3 [(0, .ref (a o)), (1, .int c1_19)] → W p l e (headSpec wsX12_close ({ frames := 7, cells := 0, slots := 0, locals := 167 } : Room)).room s m ([.ref (a o)] : List Value).toArray below meth c H locs 0 0 (MQ below (va_Qi (fun r (u : SX12) => (r, u) = rs) (fun u t => mB D s.heap.size (wX12 cy a o S) (wX12 cy a o u) t) (va_A (wX12 cy a o S) s.heap.size)) ([.ref (a o)] : List Value).toArray s 0 0 (va_A (wX12 cy a o S) s.heap.size)) (F0 m 135 ls [])) (f : Nat) (v2_23 : Int32) (S20 : SX12) (H : Heap) (locs : List Loc) (ls : Array Slot), DX12_close_L71 c1_19 k21 f v2_23 S20 = some rs → va_P D vwCl (wX12 cy a o S20) H → va_D (va_A (wX12 cy a o S) s.heap.size) (wX12 cy a o S20) → va_S (va_A (wX12 cy a o S) s.heap.size) s.heap H locs → lv_has ls 3 [(0, .ref (a o)), (1, .int c1_19), (2, .int v2_23)] → W p l e (headSpec wsX12_close ({ frames := 7, cells := 0, slots := 0, locals := 167 } : Room)).room s m ([.ref (a o)] : List Value).toArray below meth c H locs 0 0 (MQ below (va_Qi (fun r (u : SX12) => (r, u) = rs) (fun u t => mB D s.heap.size (wX12 cy a o S) (wX12 cy a o u) t) (va_A (wX12 cy a o S) s.heap.size)) ([.ref (a o)] : List Value).toArray s 0 0 (va_A (wX12 cy a o S) s.heap.size)) (F0 m 71 ls []) := by
          intro c1_19 k21 hk21 f
          induction f with
          | zero =>
            intro v2_23 S20 H locs ls h hP hD hS hl
            rw [DX12_close_L71] at h
            cases h
          | succ f ih =>
            intro v2_23 S20 H locs ls h hP hD hS hl
            rw [DX12_close_L71] at h
            refine lv_iload_n hx hb dX12_close_71 rfl (lv_at hl 2 rfl) ?_
            refine lv_aload_n hx hb dX12_close_72 rfl (lv_at hl 0 rfl) ?_
            refine va_get (D := D) (ci := 12) (v := .ref (a (o + 1))) (C := RX12) (T := TX12) (N := 12) hx hb hts hinX12 hown hK hP 0 rfl rfl 0 (by decide) hf7 (fun _ h9 => h9) rfl dX12_close_73 ?_
            refine lv_bipush (v := (6 : Int32)) hx hb dX12_close_76 (by decide) ?_
            refine r_ald (f := (gX12_m S20)) (n := 714) (v := ((gX12_m S20) 6)) hx hb hK hP 1 0 rfl rfl (vp_in_nI (n := 6) (N := 714) (by decide) (by decide)) (congrArg (gX12_m S20) (nI_clamp (n := 6) (by decide))) dX12_close_78 ?_
            refine lv_icmp_ge (tgt := 135) hx hb dX12_close_79 (by decide) (fun cc => ?_) (fun cc => ?_)
            · have h := ite_p cc h
              exact hk21 S20 H locs ls h hP hD hS (lv_sub hl [0, 1] rfl)
            · have h := ite_n cc h
              refine lv_aload_n hx hb dX12_close_82 rfl (lv_at hl 0 rfl) ?_
              refine va_get (D := D) (ci := 12) (v := .ref (a (o + 1))) (C := RX12) (T := TX12) (N := 12) hx hb hts hinX12 hown hK hP 0 rfl rfl 0 (by decide) hf7 (fun _ h9 => h9) rfl dX12_close_83 ?_
              refine lv_iconst (v := (3 : Int32)) hx hb dX12_close_86 (by decide) ?_
              refine r_ald (f := (gX12_m S20)) (n := 714) (v := ((gX12_m S20) 3)) hx hb hK hP 1 0 rfl rfl (vp_in_nI (n := 3) (N := 714) (by decide) (by decide)) (congrArg (gX12_m S20) (nI_clamp (n := 3) (by decide))) dX12_close_87 ?_
              refine lv_iconst (v := (1 : Int32)) hx hb dX12_close_88 (by decide) ?_
              refine lv_icmp_ne (tgt := 135) hx hb dX12_close_89 (by decide) (fun cc => ?_) (fun cc => ?_)
              · have h := ite_n cc h
                exact hk21 S20 H locs ls h hP hD hS (lv_sub hl [0, 1] rfl)
              · have h := ite_p cc h
                refine lv_aload_n hx hb dX12_close_92 rfl (lv_at hl 0 rfl) ?_
                refine va_get (D := D) (ci := 12) (v := .ref (a (o + 1))) (C := RX12) (T := TX12) (N := 12) hx hb hts hinX12 hown hK hP 0 rfl rfl 0 (by decide) hf7 (fun _ h9 => h9) rfl dX12_close_93 ?_
                refine lv_sipush (v := (666 : Int32)) hx hb dX12_close_96 (by decide) ?_
                refine lv_iconst (v := (4 : Int32)) hx hb dX12_close_99 (by decide) ?_
                refine lv_iload_n hx hb dX12_close_100 rfl (lv_at hl 2 rfl) ?_
                refine lv_imul hx hb dX12_close_101 ?_
                refine lv_iadd hx hb dX12_close_102 ?_
                refine lv_aload_n hx hb dX12_close_103 rfl (lv_at hl 0 rfl) ?_
                refine va_get (D := D) (ci := 12) (v := .ref (a (o + 1))) (C := RX12) (T := TX12) (N := 12) hx hb hts hinX12 hown hK hP 0 rfl rfl 0 (by decide) hf7 (fun _ h9 => h9) rfl dX12_close_104 ?_
                refine lv_iconst (v := (4 : Int32)) hx hb dX12_close_107 (by decide) ?_
                refine r_ald (f := (gX12_m S20)) (n := 714) (v := ((gX12_m S20) 4)) hx hb hK hP 1 0 rfl rfl (vp_in_nI (n := 4) (N := 714) (by decide) (by decide)) (congrArg (gX12_m S20) (nI_clamp (n := 4) (by decide))) dX12_close_108 ?_
                refine lv_iadd hx hb dX12_close_109 ?_
                refine lv_aload_n hx hb dX12_close_110 rfl (lv_at hl 0 rfl) ?_
                refine lv_iload_n hx hb dX12_close_111 rfl (lv_at hl 2 rfl) ?_
                obtain ⟨x24, e25, h⟩ := bd_some h
                refine pcV (As := [.int v2_23]) (rest := [.int (((666 : Int32) + ((4 : Int32) * v2_23)) + ((gX12_m S20) 4)), .ref (a (o + 1))]) (q0 := 0) (qX12_placeOf l D cy a o S20 v2_23 x24 e25) ⟨hx, hb, hml, hown, hts⟩ (cwV 1 hts gX12_close_X12_placeOf rfl rfl rfl (by decide +kernel) ⟨Nat.le_of_ble_eq_true rfl, Nat.le_of_ble_eq_true rfl⟩) hG hP rfl rfl rfl hl.1 rfl (Nat.le_of_ble_eq_true rfl) dX12_close_112 ⟨Nat.zero_le _, Nat.zero_le _⟩ ?_
                refine lv_iconst (v := (-1 : Int32)) hx hb dX12_close_115 (by decide) ?_
                obtain ⟨j27, hj27, h⟩ := jn_elim h
                have Jj27 : ∀ (x26 : Int32) (ls : Array Slot), j27 x26 = some rs → lv_has ls 3 [(0, .ref (a o)), (1, .int c1_19), (2, .int v2_23)] → W p l e (headSpec wsX12_close ({ frames := 7, cells := 0, slots := 0, locals := 167 } : Room)).room s m ([.ref (a o)] : List Value).toArray below meth c H locs 0 0 (MQ below (va_Qi (fun r (u : SX12) => (r, u) = rs) (fun u t => mB D s.heap.size (wX12 cy a o S) (wX12 cy a o u) t) (va_A (wX12 cy a o S) s.heap.size)) ([.ref (a o)] : List Value).toArray s 0 0 (va_A (wX12 cy a o S) s.heap.size)) (F0 m 128 ls [.int x26, .int (((666 : Int32) + ((4 : Int32) * v2_23)) + ((gX12_m S20) 4)), .ref (a (o + 1))]) := by
                  intro x26 ls h hl
                  rw [hj27] at h
                  obtain ⟨g28, h⟩ := gd_some h
                  refine r_ast (f := (gX12_m S20)) (f' := (upd (gX12_m S20) (((((666 : Int32) + ((4 : Int32) * v2_23)) + ((gX12_m S20) 4))).toNatClampNeg) x26)) (n := 714) (ws' := (wX12 cy a o (uX12_m S20 (upd (gX12_m S20) (((((666 : Int32) + ((4 : Int32) * v2_23)) + ((gX12_m S20) 4))).toNatClampNeg) x26)))) hx hb hK hP hD hS 1 0 rfl rfl (gIn_in g28) rfl rfl dX12_close_128 (fun H locs hP hD hS => ?_)
                  obtain ⟨S29, eS30, h⟩ := lt_elim h
                  have hP : va_P D vwCl (wX12 cy a o S29) H := by rw [eS30]; exact hP
                  have hD : va_D (va_A (wX12 cy a o S) s.heap.size) (wX12 cy a o S29) := by rw [eS30]; exact hD
                  refine lv_iinc (v := (v2_23 + (1 : Int32))) (lv' := [(2, .int (v2_23 + (1 : Int32))), (0, .ref (a o)), (1, .int c1_19)]) hx hb dX12_close_129 hl (k := 2) rfl (by rfl) (by decide) rfl (fun ls hl => ?_)
                  refine lv_goto (tgt := 71) hx hb dX12_close_132 (by decide) ?_
                  exact ih (v2_23 + (1 : Int32)) S29 H locs ls h hP hD hS (lv_sub hl [1, 2, 0] rfl)
                refine lv_icmp_ne (tgt := 123) hx hb dX12_close_116 (by decide) (fun cc => ?_) (fun cc => ?_)
                · have h := ite_n cc h
                  refine lv_aload_n hx hb dX12_close_123 rfl (lv_at hl 0 rfl) ?_
                  refine lv_iload_n hx hb dX12_close_124 rfl (lv_at hl 2 rfl) ?_
                  obtain ⟨x31, e32, h⟩ := bd_some h
                  refine pcV (As := [.int v2_23]) (rest := [.int (((666 : Int32) + ((4 : Int32) * v2_23)) + ((gX12_m S20) 4)), .ref (a (o + 1))]) (q0 := 0) (qX12_scoreOf l D cy a o S20 v2_23 x31 e32) ⟨hx, hb, hml, hown, hts⟩ (cwV 1 hts gX12_close_X12_scoreOf rfl rfl rfl (by decide +kernel) ⟨Nat.le_of_ble_eq_true rfl, Nat.le_of_ble_eq_true rfl⟩) hG hP rfl rfl rfl hl.1 rfl (Nat.le_of_ble_eq_true rfl) dX12_close_125 ⟨Nat.zero_le _, Nat.zero_le _⟩ ?_
                  exact Jj27 x31 ls h (lv_sub hl [0, 1, 2] rfl)
                · have h := ite_p cc h
                  refine lv_iconst (v := (-1 : Int32)) hx hb dX12_close_119 (by decide) ?_
                  refine lv_goto (tgt := 128) hx hb dX12_close_120 (by decide) ?_
                  exact Jj27 (-1 : Int32) ls h (lv_sub hl [0, 1, 2] rfl)
        exact L33 x9 _ Jj12 fu (0 : Int32) x7 H locs ls h hP hD hS (lv_sub hl [2, 1, 0] rfl)
      refine lv_icmp_ne (tgt := 61) hx hb dX12_close_36 (by decide) (fun cc => ?_) (fun cc => ?_)
      · have h := ite_n cc h
        refine lv_aload_n hx hb dX12_close_61 rfl (lv_at hl 0 rfl) ?_
        refine va_get (D := D) (ci := 12) (v := .ref (a (o + 1))) (C := RX12) (T := TX12) (N := 12) hx hb hts hinX12 hown hK hP 0 rfl rfl 0 (by decide) hf7 (fun _ h9 => h9) rfl dX12_close_62 ?_
        refine lv_bipush (v := (9 : Int32)) hx hb dX12_close_65 (by decide) ?_
        refine r_ald (f := (gX12_m x7)) (n := 714) (v := ((gX12_m x7) 9)) hx hb hK hP 1 0 rfl rfl (vp_in_nI (n := 9) (N := 714) (by decide) (by decide)) (congrArg (gX12_m x7) (nI_clamp (n := 9) (by decide))) dX12_close_67 ?_
        exact Jj10 ((gX12_m x7) 9) ls h (lv_sub hl [0] rfl)
      · have h := ite_p cc h
        refine lv_aload_n hx hb dX12_close_39 rfl (lv_at hl 0 rfl) ?_
        refine va_get (D := D) (ci := 12) (v := .ref (a (o + 1))) (C := RX12) (T := TX12) (N := 12) hx hb hts hinX12 hown hK hP 0 rfl rfl 0 (by decide) hf7 (fun _ h9 => h9) rfl dX12_close_40 ?_
        refine lv_bipush (v := (102 : Int32)) hx hb dX12_close_43 (by decide) ?_
        refine lv_bipush (v := (6 : Int32)) hx hb dX12_close_45 (by decide) ?_
        refine lv_aload_n hx hb dX12_close_47 rfl (lv_at hl 0 rfl) ?_
        refine va_get (D := D) (ci := 12) (v := .ref (a (o + 1))) (C := RX12) (T := TX12) (N := 12) hx hb hts hinX12 hown hK hP 0 rfl rfl 0 (by decide) hf7 (fun _ h9 => h9) rfl dX12_close_48 ?_
        refine lv_iconst (v := (4 : Int32)) hx hb dX12_close_51 (by decide) ?_
        refine r_ald (f := (gX12_m x7)) (n := 714) (v := ((gX12_m x7) 4)) hx hb hK hP 1 0 rfl rfl (vp_in_nI (n := 4) (N := 714) (by decide) (by decide)) (congrArg (gX12_m x7) (nI_clamp (n := 4) (by decide))) dX12_close_52 ?_
        refine lv_imul hx hb dX12_close_53 ?_
        refine lv_iadd hx hb dX12_close_54 ?_
        refine lv_iconst (v := (5 : Int32)) hx hb dX12_close_55 (by decide) ?_
        refine lv_iadd hx hb dX12_close_56 ?_
        obtain ⟨g34, h⟩ := gd_some h
        refine r_ald (f := (gX12_m x7)) (n := 714) (v := ((gX12_m x7) (((((102 : Int32) + ((6 : Int32) * ((gX12_m x7) 4))) + (5 : Int32))).toNatClampNeg))) hx hb hK hP 1 0 rfl rfl (gIn_in g34) rfl dX12_close_57 ?_
        refine lv_goto (tgt := 68) hx hb dX12_close_58 (by decide) ?_
        exact Jj10 ((gX12_m x7) (((((102 : Int32) + ((6 : Int32) * ((gX12_m x7) 4))) + (5 : Int32))).toNatClampNeg)) ls h (lv_sub hl [0] rfl)
    · have h := ite_n cc h
      refine lv_iconst (v := (0 : Int32)) hx hb dX12_close_23 (by decide) ?_
      exact W.iret (v := (0 : Int32)) hx hb hr (fun t ht hW => ⟨⟨(0 : Int32), S5, rfl, some_in h, by rw [ht]; exact hP, hD⟩, hS.F ht⟩) hS.2.2 dX12_close_24
  refine lv_if_eq (tgt := 12) hx hb dX12_close_5 (by decide) (fun cc => ?_) (fun cc => ?_)
  · have h := ite_p cc h
    refine lv_iconst (v := (1 : Int32)) hx hb dX12_close_12 (by decide) ?_
    exact Jj4 (1 : Int32) ls h (lv_sub hl [0] rfl)
  · have h := ite_n cc h
    refine lv_iconst (v := (0 : Int32)) hx hb dX12_close_8 (by decide) ?_
    refine lv_goto (tgt := 13) hx hb dX12_close_9 (by decide) ?_
    exact Jj4 (0 : Int32) ls h (lv_sub hl [0] rfl)
set_option maxHeartbeats 4000000 in
set_option maxRecDepth 100000 in
theorem qX12_mayWithdraw (l : Launch) (D : va_G) (cy : Nat → ClassId) (a : Nat → Nat) (o : Nat) (S : SX12) (p1 : Int32) (rs : Int32) (h : DX12_mayWithdraw S p1 = some rs) : Met l yX12_mayWithdraw wsX12_mayWithdraw ({ frames := 2, cells := 0, slots := 0, locals := 43 } : Room) (va_Pc [.ref (a o), .int p1] (fun U => va_P D vwCl (wX12 cy a o S) U.heap ∧ gK D cy U)) (vp_Si (fun z => z = rs)) 0 0 (fun _ => False) := by
  refine Met.ofW (cc := cX12_mayWithdraw) (maxL := 2) (ret := (some .boolean)) (by decide) rfl ?_
  intro p e s m args below meth c s₁ B hml hv
  obtain ⟨rfl, hP, hG⟩ := hv
  have hx := B.exec
  have hb := B.bytes
  have hr := B.returns
  have hts := atoms_spec (ws := wsX12_mayWithdraw) B.pre
  have hown : s.vm.findClass RX12 = some m.cls := findClass_of_methodNamed B.named
  have hlocks := B.notSynchronized
  have hK := hG.1
  have hinX12 := (by decide +kernel : ∀ w ∈ wsX120, w ∈ wsX12_mayWithdraw)
  have hf7 := hts (.fieldLink RX12 7 "PianoRoundsModel" "m" "[I") (by decide +kernel)
  have hl := lv_entry ([.ref (a o), .int p1]) (n := 2) (Nat.le_of_ble_eq_true rfl)
  rw [lg_entry_eq]
  generalize (lg_sl ([.ref (a o), .int p1]) ++ List.replicate (2 - (lg_sl ([.ref (a o), .int p1])).length) Slot.unset).toArray = ls at hl ⊢
  have hl : lv_has ls 2 [(0, .ref (a o)), (1, .int p1)] := hl
  rw [DX12_mayWithdraw] at h
  refine lv_aload_n hx hb dX12_mayWithdraw_0 rfl (lv_at hl 0 rfl) ?_
  refine va_get (D := D) (ci := 12) (v := .ref (a (o + 1))) (C := RX12) (T := TX12) (N := 12) hx hb hts hinX12 hown hK hP 0 rfl rfl 0 (by decide) hf7 (fun _ h9 => h9) rfl dX12_mayWithdraw_1 ?_
  refine lv_bipush (v := (126 : Int32)) hx hb dX12_mayWithdraw_4 (by decide) ?_
  refine lv_iload_n hx hb dX12_mayWithdraw_6 rfl (lv_at hl 1 rfl) ?_
  refine lv_iadd hx hb dX12_mayWithdraw_7 ?_
  obtain ⟨g1, h⟩ := gd_some h
  refine r_ald (f := (gX12_m S)) (n := 714) (v := ((gX12_m S) ((((126 : Int32) + p1)).toNatClampNeg))) hx hb hK hP 1 0 rfl rfl (gIn_in g1) rfl dX12_mayWithdraw_8 ?_
  refine lv_iconst (v := (1 : Int32)) hx hb dX12_mayWithdraw_9 (by decide) ?_
  obtain ⟨j3, hj3, h⟩ := jn_elim h
  have Jj3 : ∀ (x2 : Int32) (ls : Array Slot), j3 x2 = some rs → lv_has ls 2 [] → W p l e (headSpec wsX12_mayWithdraw ({ frames := 2, cells := 0, slots := 0, locals := 43 } : Room)).room s m ([.ref (a o), .int p1] : List Value).toArray below meth c s.heap [] 0 0 (MQ below (vp_Si (fun z => z = rs)) ([.ref (a o), .int p1] : List Value).toArray s 0 0 (fun _ => False)) (F0 m 46 ls [.int x2]) := by
    intro x2 ls h hl
    rw [hj3] at h
    obtain ⟨g4, h⟩ := gd_some h
    exact W.zret (v := x2) hx hb hr (zN g4) (fun t ht hW => ⟨x2, rfl, some_in h, ht⟩) (fun q hq => nomatch hq) dX12_mayWithdraw_46
  obtain ⟨j5, hj5, h⟩ := jn_elim h
  have Jj5 : ∀ (ls : Array Slot), j5 () = some rs → lv_has ls 2 [] → W p l e (headSpec wsX12_mayWithdraw ({ frames := 2, cells := 0, slots := 0, locals := 43 } : Room)).room s m ([.ref (a o), .int p1] : List Value).toArray below meth c s.heap [] 0 0 (MQ below (vp_Si (fun z => z = rs)) ([.ref (a o), .int p1] : List Value).toArray s 0 0 (fun _ => False)) (F0 m 45 ls []) := by
    intro ls h hl
    rw [hj5] at h
    refine lv_iconst (v := (0 : Int32)) hx hb dX12_mayWithdraw_45 (by decide) ?_
    exact Jj3 (0 : Int32) ls h (lv_sub hl [] rfl)
  refine lv_icmp_ne (tgt := 45) hx hb dX12_mayWithdraw_10 (by decide) (fun cc => ?_) (fun cc => ?_)
  · have h := ite_n cc h
    exact Jj5  ls h (lv_sub hl [] rfl)
  · have h := ite_p cc h
    refine lv_aload_n hx hb dX12_mayWithdraw_13 rfl (lv_at hl 0 rfl) ?_
    refine va_get (D := D) (ci := 12) (v := .ref (a (o + 1))) (C := RX12) (T := TX12) (N := 12) hx hb hts hinX12 hown hK hP 0 rfl rfl 0 (by decide) hf7 (fun _ h9 => h9) rfl dX12_mayWithdraw_14 ?_
    refine lv_iconst (v := (3 : Int32)) hx hb dX12_mayWithdraw_17 (by decide) ?_
    refine r_ald (f := (gX12_m S)) (n := 714) (v := ((gX12_m S) 3)) hx hb hK hP 1 0 rfl rfl (vp_in_nI (n := 3) (N := 714) (by decide) (by decide)) (congrArg (gX12_m S) (nI_clamp (n := 3) (by decide))) dX12_mayWithdraw_18 ?_
    refine lv_iconst (v := (2 : Int32)) hx hb dX12_mayWithdraw_19 (by decide) ?_
    refine lv_icmp_ge (tgt := 45) hx hb dX12_mayWithdraw_20 (by decide) (fun cc => ?_) (fun cc => ?_)
    · have h := ite_p cc h
      exact Jj5  ls h (lv_sub hl [] rfl)
    · have h := ite_n cc h
      refine lv_aload_n hx hb dX12_mayWithdraw_23 rfl (lv_at hl 0 rfl) ?_
      refine va_get (D := D) (ci := 12) (v := .ref (a (o + 1))) (C := RX12) (T := TX12) (N := 12) hx hb hts hinX12 hown hK hP 0 rfl rfl 0 (by decide) hf7 (fun _ h9 => h9) rfl dX12_mayWithdraw_24 ?_
      refine lv_iconst (v := (3 : Int32)) hx hb dX12_mayWithdraw_27 (by decide) ?_
      refine r_ald (f := (gX12_m S)) (n := 714) (v := ((gX12_m S) 3)) hx hb hK hP 1 0 rfl rfl (vp_in_nI (n := 3) (N := 714) (by decide) (by decide)) (congrArg (gX12_m S) (nI_clamp (n := 3) (by decide))) dX12_mayWithdraw_28 ?_
      refine lv_iconst (v := (1 : Int32)) hx hb dX12_mayWithdraw_29 (by decide) ?_
      obtain ⟨j6, hj6, h⟩ := jn_elim h
      have Jj6 : ∀ (ls : Array Slot), j6 () = some rs → lv_has ls 2 [] → W p l e (headSpec wsX12_mayWithdraw ({ frames := 2, cells := 0, slots := 0, locals := 43 } : Room)).room s m ([.ref (a o), .int p1] : List Value).toArray below meth c s.heap [] 0 0 (MQ below (vp_Si (fun z => z = rs)) ([.ref (a o), .int p1] : List Value).toArray s 0 0 (fun _ => False)) (F0 m 41 ls []) := by
        intro ls h hl
        rw [hj6] at h
        refine lv_iconst (v := (1 : Int32)) hx hb dX12_mayWithdraw_41 (by decide) ?_
        refine lv_goto (tgt := 46) hx hb dX12_mayWithdraw_42 (by decide) ?_
        exact Jj3 (1 : Int32) ls h (lv_sub hl [] rfl)
      refine lv_icmp_ne (tgt := 41) hx hb dX12_mayWithdraw_30 (by decide) (fun cc => ?_) (fun cc => ?_)
      · have h := ite_n cc h
        exact Jj6  ls h (lv_sub hl [] rfl)
      · have h := ite_p cc h
        refine lv_aload_n hx hb dX12_mayWithdraw_33 rfl (lv_at hl 0 rfl) ?_
        refine lv_iload_n hx hb dX12_mayWithdraw_34 rfl (lv_at hl 1 rfl) ?_
        obtain ⟨x7, e8, h⟩ := bd_some h
        refine pcV (As := [.int p1]) (rest := []) (q0 := 0) (qX12_hasPlayed l D cy a o S p1 x7 e8) ⟨hx, hb, hml, hown, hts⟩ (cwV 1 hts gX12_mayWithdraw_X12_hasPlayed rfl rfl rfl (by decide +kernel) ⟨Nat.le_of_ble_eq_true rfl, Nat.le_of_ble_eq_true rfl⟩) hG hP rfl rfl rfl hl.1 rfl (Nat.le_of_ble_eq_true rfl) dX12_mayWithdraw_35 ⟨Nat.zero_le _, Nat.zero_le _⟩ ?_
        refine lv_if_ne (tgt := 45) hx hb dX12_mayWithdraw_38 (by decide) (fun cc => ?_) (fun cc => ?_)
        · have h := ite_n cc h
          exact Jj5  ls h (lv_sub hl [] rfl)
        · have h := ite_p cc h
          exact Jj6  ls h (lv_sub hl [] rfl)
set_option maxHeartbeats 4000000 in
set_option maxRecDepth 100000 in
theorem qX12_countIn (l : Launch) (D : va_G) (cy : Nat → ClassId) (a : Nat → Nat) (o : Nat) (S : SX12)  (rs : Int32) (h : DX12_countIn S = some rs) : Met l yX12_countIn wsX12_countIn ({ frames := 0, cells := 0, slots := 0, locals := 0 } : Room) (va_Pc [.ref (a o)] (fun U => va_P D vwCl (wX12 cy a o S) U.heap ∧ gK D cy U)) (vp_Si (fun z => z = rs)) 0 0 (fun _ => False) := by
  refine Met.ofW (cc := cX12_countIn) (maxL := 3) (ret := (some .int)) (by decide) rfl ?_
  intro p e s m args below meth c s₁ B hml hv
  obtain ⟨rfl, hP, hG⟩ := hv
  have hx := B.exec
  have hb := B.bytes
  have hr := B.returns
  have hts := atoms_spec (ws := wsX12_countIn) B.pre
  have hown : s.vm.findClass RX12 = some m.cls := findClass_of_methodNamed B.named
  have hlocks := B.notSynchronized
  have hK := hG.1
  have hinX12 := (by decide +kernel : ∀ w ∈ wsX120, w ∈ wsX12_countIn)
  have hf7 := hts (.fieldLink RX12 7 "PianoRoundsModel" "m" "[I") (by decide +kernel)
  have hl := lv_entry ([.ref (a o)]) (n := 3) (Nat.le_of_ble_eq_true rfl)
  rw [lg_entry_eq]
  generalize (lg_sl ([.ref (a o)]) ++ List.replicate (3 - (lg_sl ([.ref (a o)])).length) Slot.unset).toArray = ls at hl ⊢
  have hl : lv_has ls 3 [(0, .ref (a o))] := hl
  rw [DX12_countIn] at h
  refine lv_iconst (v := (0 : Int32)) hx hb dX12_countIn_0 (by decide) ?_
  refine lv_istore_n (lv' := [(1, .int (0 : Int32)), (0, .ref (a o))]) hx hb dX12_countIn_1 rfl hl (by decide) rfl (fun ls hl => ?_)
  refine lv_iconst (v := (0 : Int32)) hx hb dX12_countIn_2 (by decide) ?_
  refine lv_istore_n (lv' := [(2, .int (0 : Int32)), (1, .int (0 : Int32)), (0, .ref (a o))]) hx hb dX12_countIn_3 rfl hl (by decide) rfl (fun ls hl => ?_)
  have L7 : ∀ (k1 : Int32 → Option (Int32)) (hk1 : ∀ (v1_2 : Int32) (ls : Array Slot), k1 v1_2 = some rs → lv_has ls 3 [(1, .int v1_2)] → W p l e (headSpec wsX12_countIn ({ frames := 0, cells := 0, slots := 0, locals := 0 } : Room)).room s m ([.ref (a o)] : List Value).toArray below meth c s.heap [] 0 0 (MQ below (vp_Si (fun z => z = rs)) ([.ref (a o)] : List Value).toArray s 0 0 (fun _ => False)) (F0 m 33 ls [])) (f : Nat) (v1_4 : Int32) (v2_5 : Int32) (ls : Array Slot), DX12_countIn_L4 S k1 f v1_4 v2_5 = some rs → lv_has ls 3 [(0, .ref (a o)), (1, .int v1_4), (2, .int v2_5)] → W p l e (headSpec wsX12_countIn ({ frames := 0, cells := 0, slots := 0, locals := 0 } : Room)).room s m ([.ref (a o)] : List Value).toArray below meth c s.heap [] 0 0 (MQ below (vp_Si (fun z => z = rs)) ([.ref (a o)] : List Value).toArray s 0 0 (fun _ => False)) (F0 m 4 ls []) := by
    intro k1 hk1 f
    induction f with
    | zero =>
      intro v1_4 v2_5 ls h hl
      rw [DX12_countIn_L4] at h
      cases h
    | succ f ih =>
      intro v1_4 v2_5 ls h hl
      rw [DX12_countIn_L4] at h
      refine lv_iload_n hx hb dX12_countIn_4 rfl (lv_at hl 2 rfl) ?_
      refine lv_aload_n hx hb dX12_countIn_5 rfl (lv_at hl 0 rfl) ?_
      refine va_get (D := D) (ci := 12) (v := .ref (a (o + 1))) (C := RX12) (T := TX12) (N := 12) hx hb hts hinX12 hown hK hP 0 rfl rfl 0 (by decide) hf7 (fun _ h9 => h9) rfl dX12_countIn_6 ?_
      refine lv_bipush (v := (6 : Int32)) hx hb dX12_countIn_9 (by decide) ?_
      refine r_ald (f := (gX12_m S)) (n := 714) (v := ((gX12_m S) 6)) hx hb hK hP 1 0 rfl rfl (vp_in_nI (n := 6) (N := 714) (by decide) (by decide)) (congrArg (gX12_m S) (nI_clamp (n := 6) (by decide))) dX12_countIn_11 ?_
      refine lv_icmp_ge (tgt := 33) hx hb dX12_countIn_12 (by decide) (fun cc => ?_) (fun cc => ?_)
      · have h := ite_p cc h
        exact hk1 v1_4 ls h (lv_sub hl [1] rfl)
      · have h := ite_n cc h
        refine lv_iload_n hx hb dX12_countIn_15 rfl (lv_at hl 1 rfl) ?_
        refine lv_aload_n hx hb dX12_countIn_16 rfl (lv_at hl 0 rfl) ?_
        refine va_get (D := D) (ci := 12) (v := .ref (a (o + 1))) (C := RX12) (T := TX12) (N := 12) hx hb hts hinX12 hown hK hP 0 rfl rfl 0 (by decide) hf7 (fun _ h9 => h9) rfl dX12_countIn_17 ?_
        refine lv_bipush (v := (126 : Int32)) hx hb dX12_countIn_20 (by decide) ?_
        refine lv_iload_n hx hb dX12_countIn_22 rfl (lv_at hl 2 rfl) ?_
        refine lv_iadd hx hb dX12_countIn_23 ?_
        obtain ⟨g6, h⟩ := gd_some h
        refine r_ald (f := (gX12_m S)) (n := 714) (v := ((gX12_m S) ((((126 : Int32) + v2_5)).toNatClampNeg))) hx hb hK hP 1 0 rfl rfl (gIn_in g6) rfl dX12_countIn_24 ?_
        refine lv_iadd hx hb dX12_countIn_25 ?_
        refine lv_istore_n (lv' := [(1, .int (v1_4 + ((gX12_m S) ((((126 : Int32) + v2_5)).toNatClampNeg)))), (0, .ref (a o)), (2, .int v2_5)]) hx hb dX12_countIn_26 rfl hl (by decide) rfl (fun ls hl => ?_)
        refine lv_iinc (v := (v2_5 + (1 : Int32))) (lv' := [(2, .int (v2_5 + (1 : Int32))), (1, .int (v1_4 + ((gX12_m S) ((((126 : Int32) + v2_5)).toNatClampNeg)))), (0, .ref (a o))]) hx hb dX12_countIn_27 hl (k := 2) rfl (by rfl) (by decide) rfl (fun ls hl => ?_)
        refine lv_goto (tgt := 4) hx hb dX12_countIn_30 (by decide) ?_
        exact ih (v1_4 + ((gX12_m S) ((((126 : Int32) + v2_5)).toNatClampNeg))) (v2_5 + (1 : Int32)) ls h (lv_sub hl [2, 1, 0] rfl)
  refine L7  _ ?_ fu (0 : Int32) (0 : Int32) ls h (lv_sub hl [2, 1, 0] rfl)
  intro v1_3 ls h hl
  refine lv_iload_n hx hb dX12_countIn_33 rfl (lv_at hl 0 rfl) ?_
  exact W.iret (v := v1_3) hx hb hr (fun t ht hW => ⟨v1_3, rfl, some_in h, ht⟩) (fun q hq => nomatch hq) dX12_countIn_34
set_option maxHeartbeats 4000000 in
set_option maxRecDepth 100000 in
theorem qX12_withdraw (l : Launch) (D : va_G) (cy : Nat → ClassId) (a : Nat → Nat) (o : Nat) (S : SX12) (p1 : Int32) (sz : Nat) (rs : Int32 × SX12) (h : DX12_withdraw S p1 = some rs) : Met l yX12_withdraw wsX12_withdraw ({ frames := 3, cells := 0, slots := 0, locals := 64 } : Room) (mP D cy sz [.ref (a o), .int p1] (wX12 cy a o S)) (va_Qi (fun r (u : SX12) => (r, u) = rs) (fun u t => mB D sz (wX12 cy a o S) (wX12 cy a o u) t) (va_A (wX12 cy a o S) sz)) 0 0 (va_A (wX12 cy a o S) sz) := by
  refine Met.ofW (cc := cX12_withdraw) (maxL := 4) (ret := (some .int)) (by decide) rfl ?_
  intro p e s m args below meth c s₁ B hml hv
  obtain ⟨rfl, hsz, hP, hG, hD0⟩ := hv
  have hx := B.exec
  have hb := B.bytes
  have hr := B.returns
  have hts := atoms_spec (ws := wsX12_withdraw) B.pre
  have hown : s.vm.findClass RX12 = some m.cls := findClass_of_methodNamed B.named
  have hlocks := B.notSynchronized
  have hK := hG.1
  subst hsz
  have hD := hD0.self (sz := s.heap.size)
  have hA : ∀ q : Nat, s.heap.size ≤ q → (va_A (wX12 cy a o S) s.heap.size) q := fun q h => Or.inr h
  have hS : va_S (va_A (wX12 cy a o S) s.heap.size) s.heap s.heap [] := va_S.rf
  have hinX12 := (by decide +kernel : ∀ w ∈ wsX120, w ∈ wsX12_withdraw)
  have hf31 := hts (.fieldLink RX12 31 "PianoRoundsModel" "code" "I") (by decide +kernel)
  have hf7 := hts (.fieldLink RX12 7 "PianoRoundsModel" "m" "[I") (by decide +kernel)
  have hl := lv_entry ([.ref (a o), .int p1]) (n := 4) (Nat.le_of_ble_eq_true rfl)
  rw [lg_entry_eq]
  generalize (lg_sl ([.ref (a o), .int p1]) ++ List.replicate (4 - (lg_sl ([.ref (a o), .int p1])).length) Slot.unset).toArray = ls at hl ⊢
  have hl : lv_has ls 4 [(0, .ref (a o)), (1, .int p1)] := hl
  rw [DX12_withdraw] at h
  refine lv_aload_n hx hb dX12_withdraw_0 rfl (lv_at hl 0 rfl) ?_
  refine lv_aload_n hx hb dX12_withdraw_1 rfl (lv_at hl 0 rfl) ?_
  refine lv_iload_n hx hb dX12_withdraw_2 rfl (lv_at hl 1 rfl) ?_
  obtain ⟨x1, e2, h⟩ := bd_some h
  refine pcV (As := [.int p1]) (rest := [.ref (a o)]) (q0 := 0) (qX12_isEntrant l D cy a o S p1 x1 e2) ⟨hx, hb, hml, hown, hts⟩ (cwV 1 hts gX12_withdraw_X12_isEntrant rfl rfl rfl (by decide +kernel) ⟨Nat.le_of_ble_eq_true rfl, Nat.le_of_ble_eq_true rfl⟩) hG hP rfl rfl rfl hl.1 rfl (Nat.le_of_ble_eq_true rfl) dX12_withdraw_3 ⟨Nat.zero_le _, Nat.zero_le _⟩ ?_
  obtain ⟨j4, hj4, h⟩ := jn_elim h
  have Jj4 : ∀ (x3 : Int32) (ls : Array Slot), j4 x3 = some rs → lv_has ls 4 [(0, .ref (a o)), (1, .int p1)] → W p l e (headSpec wsX12_withdraw ({ frames := 3, cells := 0, slots := 0, locals := 64 } : Room)).room s m ([.ref (a o), .int p1] : List Value).toArray below meth c s.heap [] 0 0 (MQ below (va_Qi (fun r (u : SX12) => (r, u) = rs) (fun u t => mB D s.heap.size (wX12 cy a o S) (wX12 cy a o u) t) (va_A (wX12 cy a o S) s.heap.size)) ([.ref (a o), .int p1] : List Value).toArray s 0 0 (va_A (wX12 cy a o S) s.heap.size)) (F0 m 26 ls [.int x3, .ref (a o)]) := by
    intro x3 ls h hl
    rw [hj4] at h
    refine va_put (D := D) (ci := 12) (v := .int x3) (ty := .int) (C := RX12) (T := TX12) (N := 12) hx hb hts hinX12 tyX12 tyX12_ok nmX12 hown hK hP hD hS 0 rfl rfl 5 (by decide) hf31 (fun _ h9 => h9) rfl (by decide +kernel) rfl rfl (Nat.le_of_ble_eq_true rfl) dX12_withdraw_26 (fun H locs hP hD hS => ?_)
    have hP : va_P D vwCl (wX12 cy a o (uX12_code S x3)) H := hP
    have hD : va_D (va_A (wX12 cy a o S) s.heap.size) (wX12 cy a o (uX12_code S x3)) := hD
    obtain ⟨S5, eS6, h⟩ := lt_elim h
    have hP : va_P D vwCl (wX12 cy a o S5) H := by rw [eS6]; exact hP
    have hD : va_D (va_A (wX12 cy a o S) s.heap.size) (wX12 cy a o S5) := by rw [eS6]; exact hD
    refine lv_aload_n hx hb dX12_withdraw_29 rfl (lv_at hl 0 rfl) ?_
    refine va_get (D := D) (ci := 12) (v := .int (gX12_code S5)) (C := RX12) (T := TX12) (N := 12) hx hb hts hinX12 hown hK hP 0 rfl rfl 5 (by decide) hf31 (fun _ h9 => h9) rfl dX12_withdraw_30 ?_
    refine lv_if_eq (tgt := 38) hx hb dX12_withdraw_33 (by decide) (fun cc => ?_) (fun cc => ?_)
    · have h := ite_p cc h
      refine lv_aload_n hx hb dX12_withdraw_38 rfl (lv_at hl 0 rfl) ?_
      obtain ⟨x7, e8, h⟩ := bd_some h
      refine smVv (As := []) (rest := []) (ws' := (wX12 cy a o x7)) (q0 := 0) (qX12_keep l D cy a o S5  (H).size x7 e8) ⟨hx, hb, hml, hown, hts⟩ (cwV 0 hts gX12_withdraw_X12_keep rfl rfl rfl (by decide +kernel) ⟨Nat.le_of_ble_eq_true rfl, Nat.le_of_ble_eq_true rfl⟩) hG hP hD hS hA (pm1 (X := ([] : va_W)) (c := (wX12 cy a o S5)) (Y := ([] : va_W)) (show (wX12 cy a o S5) = ([] : va_W) ++ ((wX12 cy a o S5) ++ ([] : va_W)) from by simp only [List.append_assoc, List.nil_append, List.append_nil] <;> rfl)) (pm1 (X := ([] : va_W)) (c := (wX12 cy a o x7)) (Y := ([] : va_W)) (show (wX12 cy a o x7) = ([] : va_W) ++ ((wX12 cy a o x7) ++ ([] : va_W)) from by simp only [List.append_assoc, List.nil_append, List.append_nil] <;> rfl)) rfl rfl rfl hl.1 rfl (Nat.le_of_ble_eq_true rfl) dX12_withdraw_39 ⟨Nat.zero_le _, Nat.zero_le _⟩ (fun H locs hP hD hS => ?_)
      refine lv_aload_n hx hb dX12_withdraw_42 rfl (lv_at hl 0 rfl) ?_
      refine va_get (D := D) (ci := 12) (v := .ref (a (o + 1))) (C := RX12) (T := TX12) (N := 12) hx hb hts hinX12 hown hK hP 0 rfl rfl 0 (by decide) hf7 (fun _ h9 => h9) rfl dX12_withdraw_43 ?_
      refine lv_bipush (v := (126 : Int32)) hx hb dX12_withdraw_46 (by decide) ?_
      refine lv_iload_n hx hb dX12_withdraw_48 rfl (lv_at hl 1 rfl) ?_
      refine lv_iadd hx hb dX12_withdraw_49 ?_
      refine lv_iconst (v := (0 : Int32)) hx hb dX12_withdraw_50 (by decide) ?_
      obtain ⟨g9, h⟩ := gd_some h
      refine r_ast (f := (gX12_m x7)) (f' := (upd (gX12_m x7) ((((126 : Int32) + p1)).toNatClampNeg) (0 : Int32))) (n := 714) (ws' := (wX12 cy a o (uX12_m x7 (upd (gX12_m x7) ((((126 : Int32) + p1)).toNatClampNeg) (0 : Int32))))) hx hb hK hP hD hS 1 0 rfl rfl (gIn_in g9) rfl rfl dX12_withdraw_51 (fun H locs hP hD hS => ?_)
      obtain ⟨S10, eS11, h⟩ := lt_elim h
      have hP : va_P D vwCl (wX12 cy a o S10) H := by rw [eS11]; exact hP
      have hD : va_D (va_A (wX12 cy a o S) s.heap.size) (wX12 cy a o S10) := by rw [eS11]; exact hD
      refine lv_aload_n hx hb dX12_withdraw_52 rfl (lv_at hl 0 rfl) ?_
      refine lv_iload_n hx hb dX12_withdraw_53 rfl (lv_at hl 1 rfl) ?_
      obtain ⟨x12, e13, h⟩ := bd_some h
      refine pcV (As := [.int p1]) (rest := []) (q0 := 0) (qX12_placeOf l D cy a o S10 p1 x12 e13) ⟨hx, hb, hml, hown, hts⟩ (cwV 1 hts gX12_withdraw_X12_placeOf rfl rfl rfl (by decide +kernel) ⟨Nat.le_of_ble_eq_true rfl, Nat.le_of_ble_eq_true rfl⟩) hG hP rfl rfl rfl hl.1 rfl (Nat.le_of_ble_eq_true rfl) dX12_withdraw_54 ⟨Nat.zero_le _, Nat.zero_le _⟩ ?_
      refine lv_istore_n (lv' := [(2, .int x12), (0, .ref (a o)), (1, .int p1)]) hx hb dX12_withdraw_57 rfl hl (by decide) rfl (fun ls hl => ?_)
      refine lv_iload_n hx hb dX12_withdraw_58 rfl (lv_at hl 0 rfl) ?_
      refine lv_iconst (v := (-1 : Int32)) hx hb dX12_withdraw_59 (by decide) ?_
      obtain ⟨j15, hj15, h⟩ := jn_elim h
      have Jj15 : ∀ (S14 : SX12) (H : Heap) (locs : List Loc) (ls : Array Slot), j15 S14 = some rs → va_P D vwCl (wX12 cy a o S14) H → va_D (va_A (wX12 cy a o S) s.heap.size) (wX12 cy a o S14) → va_S (va_A (wX12 cy a o S) s.heap.size) s.heap H locs → lv_has ls 4 [(0, .ref (a o))] → W p l e (headSpec wsX12_withdraw ({ frames := 3, cells := 0, slots := 0, locals := 64 } : Room)).room s m ([.ref (a o), .int p1] : List Value).toArray below meth c H locs 0 0 (MQ below (va_Qi (fun r (u : SX12) => (r, u) = rs) (fun u t => mB D s.heap.size (wX12 cy a o S) (wX12 cy a o u) t) (va_A (wX12 cy a o S) s.heap.size)) ([.ref (a o), .int p1] : List Value).toArray s 0 0 (va_A (wX12 cy a o S) s.heap.size)) (F0 m 141 ls []) := by
        intro S14 H locs ls h hP hD hS hl
        rw [hj15] at h
        refine lv_aload_n hx hb dX12_withdraw_141 rfl (lv_at hl 0 rfl) ?_
        obtain ⟨x16, e17, h⟩ := bd_some h
        refine pcV (As := []) (rest := []) (q0 := 0) (qX12_countIn l D cy a o S14  x16 e17) ⟨hx, hb, hml, hown, hts⟩ (cwV 0 hts gX12_withdraw_X12_countIn rfl rfl rfl (by decide +kernel) ⟨Nat.le_of_ble_eq_true rfl, Nat.le_of_ble_eq_true rfl⟩) hG hP rfl rfl rfl hl.1 rfl (Nat.le_of_ble_eq_true rfl) dX12_withdraw_142 ⟨Nat.zero_le _, Nat.zero_le _⟩ ?_
        exact W.iret (v := x16) hx hb hr (fun t ht hW => ⟨⟨x16, S14, rfl, some_in h, by rw [ht]; exact hP, hD⟩, hS.F ht⟩) hS.2.2 dX12_withdraw_145
      refine lv_icmp_eq (tgt := 141) hx hb dX12_withdraw_60 (by decide) (fun cc => ?_) (fun cc => ?_)
      · have h := ite_p cc h
        exact Jj15 S10 H locs ls h hP hD hS (lv_sub hl [1] rfl)
      · have h := ite_n cc h
        refine lv_aload_n hx hb dX12_withdraw_63 rfl (lv_at hl 1 rfl) ?_
        refine va_get (D := D) (ci := 12) (v := .ref (a (o + 1))) (C := RX12) (T := TX12) (N := 12) hx hb hts hinX12 hown hK hP 0 rfl rfl 0 (by decide) hf7 (fun _ h9 => h9) rfl dX12_withdraw_64 ?_
        refine lv_bipush (v := (7 : Int32)) hx hb dX12_withdraw_67 (by decide) ?_
        refine lv_dup2_11 hx hb dX12_withdraw_69 rfl rfl ?_
        refine r_ald (f := (gX12_m S10)) (n := 714) (v := ((gX12_m S10) 7)) hx hb hK hP 1 0 rfl rfl (vp_in_nI (n := 7) (N := 714) (by decide) (by decide)) (congrArg (gX12_m S10) (nI_clamp (n := 7) (by decide))) dX12_withdraw_70 ?_
        refine lv_iconst (v := (1 : Int32)) hx hb dX12_withdraw_71 (by decide) ?_
        refine lv_isub hx hb dX12_withdraw_72 ?_
        refine r_ast (f := (gX12_m S10)) (f' := (upd (gX12_m S10) 7 (((gX12_m S10) 7) - (1 : Int32)))) (n := 714) (ws' := (wX12 cy a o (uX12_m S10 (upd (gX12_m S10) 7 (((gX12_m S10) 7) - (1 : Int32)))))) hx hb hK hP hD hS 1 0 rfl rfl (vp_in_nI (n := 7) (N := 714) (by decide) (by decide)) (updc (nI_clamp (n := 7) (by decide))) rfl dX12_withdraw_73 (fun H locs hP hD hS => ?_)
        obtain ⟨S18, eS19, h⟩ := lt_elim h
        have hP : va_P D vwCl (wX12 cy a o S18) H := by rw [eS19]; exact hP
        have hD : va_D (va_A (wX12 cy a o S) s.heap.size) (wX12 cy a o S18) := by rw [eS19]; exact hD
        refine lv_iload_n hx hb dX12_withdraw_74 rfl (lv_at hl 0 rfl) ?_
        refine lv_istore_n (lv' := [(3, .int x12), (2, .int x12), (0, .ref (a o)), (1, .int p1)]) hx hb dX12_withdraw_75 rfl hl (by decide) rfl (fun ls hl => ?_)
        have L33 : ∀ (k21 : SX12 → Option (Int32 × SX12)) (hk21 : ∀ (S22 : SX12) (H : Heap) (locs : List Loc) (ls : Array Slot), k21 S22 = some rs → va_P D vwCl (wX12 cy a o S22) H → va_D (va_A (wX12 cy a o S) s.heap.size) (wX12 cy a o S22) → va_S (va_A (wX12 cy a o S) s.heap.size) s.heap H locs → lv_has ls 4 [(0, .ref (a o))] → W p l e (headSpec wsX12_withdraw ({ frames := 3, cells := 0, slots := 0, locals := 64 } : Room)).room s m ([.ref (a o), .int p1] : List Value).toArray below meth c H locs 0 0 (MQ below (va_Qi (fun r (u : SX12) => (r, u) = rs) (fun u t => mB D s.heap.size (wX12 cy a o S) (wX12 cy a o u) t) (va_A (wX12 cy a o S) s.heap.size)) ([.ref (a o), .int p1] : List Value).toArray s 0 0 (va_A (wX12 cy a o S) s.heap.size)) (F0 m 115 ls [])) (f : Nat) (v3_28 : Int32) (S20 : SX12) (H : Heap) (locs : List Loc) (ls : Array Slot), DX12_withdraw_L76 k21 f v3_28 S20 = some rs → va_P D vwCl (wX12 cy a o S20) H → va_D (va_A (wX12 cy a o S) s.heap.size) (wX12 cy a o S20) → va_S (va_A (wX12 cy a o S) s.heap.size) s.heap H locs → lv_has ls 4 [(0, .ref (a o)), (3, .int v3_28)] → W p l e (headSpec wsX12_withdraw ({ frames := 3, cells := 0, slots := 0, locals := 64 } : Room)).room s m ([.ref (a o), .int p1] : List Value).toArray below meth c H locs 0 0 (MQ below (va_Qi (fun r (u : SX12) => (r, u) = rs) (fun u t => mB D s.heap.size (wX12 cy a o S) (wX12 cy a o u) t) (va_A (wX12 cy a o S) s.heap.size)) ([.ref (a o), .int p1] : List Value).toArray s 0 0 (va_A (wX12 cy a o S) s.heap.size)) (F0 m 76 ls []) := by
          intro k21 hk21 f
          induction f with
          | zero =>
            intro v3_28 S20 H locs ls h hP hD hS hl
            rw [DX12_withdraw_L76] at h
            cases h
          | succ f ih =>
            intro v3_28 S20 H locs ls h hP hD hS hl
            rw [DX12_withdraw_L76] at h
            refine lv_iload_n hx hb dX12_withdraw_76 rfl (lv_at hl 1 rfl) ?_
            refine lv_aload_n hx hb dX12_withdraw_77 rfl (lv_at hl 0 rfl) ?_
            refine va_get (D := D) (ci := 12) (v := .ref (a (o + 1))) (C := RX12) (T := TX12) (N := 12) hx hb hts hinX12 hown hK hP 0 rfl rfl 0 (by decide) hf7 (fun _ h9 => h9) rfl dX12_withdraw_78 ?_
            refine lv_bipush (v := (7 : Int32)) hx hb dX12_withdraw_81 (by decide) ?_
            refine r_ald (f := (gX12_m S20)) (n := 714) (v := ((gX12_m S20) 7)) hx hb hK hP 1 0 rfl rfl (vp_in_nI (n := 7) (N := 714) (by decide) (by decide)) (congrArg (gX12_m S20) (nI_clamp (n := 7) (by decide))) dX12_withdraw_83 ?_
            refine lv_icmp_ge (tgt := 115) hx hb dX12_withdraw_84 (by decide) (fun cc => ?_) (fun cc => ?_)
            · have h := ite_p cc h
              exact hk21 S20 H locs ls h hP hD hS (lv_sub hl [0] rfl)
            · have h := ite_n cc h
              refine lv_aload_n hx hb dX12_withdraw_87 rfl (lv_at hl 0 rfl) ?_
              refine va_get (D := D) (ci := 12) (v := .ref (a (o + 1))) (C := RX12) (T := TX12) (N := 12) hx hb hts hinX12 hown hK hP 0 rfl rfl 0 (by decide) hf7 (fun _ h9 => h9) rfl dX12_withdraw_88 ?_
              refine lv_sipush (v := (462 : Int32)) hx hb dX12_withdraw_91 (by decide) ?_
              refine lv_iload_n hx hb dX12_withdraw_94 rfl (lv_at hl 1 rfl) ?_
              refine lv_iadd hx hb dX12_withdraw_95 ?_
              refine lv_aload_n hx hb dX12_withdraw_96 rfl (lv_at hl 0 rfl) ?_
              refine va_get (D := D) (ci := 12) (v := .ref (a (o + 1))) (C := RX12) (T := TX12) (N := 12) hx hb hts hinX12 hown hK hP 0 rfl rfl 0 (by decide) hf7 (fun _ h9 => h9) rfl dX12_withdraw_97 ?_
              refine lv_sipush (v := (462 : Int32)) hx hb dX12_withdraw_100 (by decide) ?_
              refine lv_iload_n hx hb dX12_withdraw_103 rfl (lv_at hl 1 rfl) ?_
              refine lv_iadd hx hb dX12_withdraw_104 ?_
              refine lv_iconst (v := (1 : Int32)) hx hb dX12_withdraw_105 (by decide) ?_
              refine lv_iadd hx hb dX12_withdraw_106 ?_
              obtain ⟨g29, h⟩ := gd_some h
              refine r_ald (f := (gX12_m S20)) (n := 714) (v := ((gX12_m S20) (((((462 : Int32) + v3_28) + (1 : Int32))).toNatClampNeg))) hx hb hK hP 1 0 rfl rfl (gIn_in g29) rfl dX12_withdraw_107 ?_
              obtain ⟨g30, h⟩ := gd_some h
              refine r_ast (f := (gX12_m S20)) (f' := (upd (gX12_m S20) ((((462 : Int32) + v3_28)).toNatClampNeg) ((gX12_m S20) (((((462 : Int32) + v3_28) + (1 : Int32))).toNatClampNeg)))) (n := 714) (ws' := (wX12 cy a o (uX12_m S20 (upd (gX12_m S20) ((((462 : Int32) + v3_28)).toNatClampNeg) ((gX12_m S20) (((((462 : Int32) + v3_28) + (1 : Int32))).toNatClampNeg)))))) hx hb hK hP hD hS 1 0 rfl rfl (gIn_in g30) rfl rfl dX12_withdraw_108 (fun H locs hP hD hS => ?_)
              obtain ⟨S31, eS32, h⟩ := lt_elim h
              have hP : va_P D vwCl (wX12 cy a o S31) H := by rw [eS32]; exact hP
              have hD : va_D (va_A (wX12 cy a o S) s.heap.size) (wX12 cy a o S31) := by rw [eS32]; exact hD
              refine lv_iinc (v := (v3_28 + (1 : Int32))) (lv' := [(3, .int (v3_28 + (1 : Int32))), (0, .ref (a o))]) hx hb dX12_withdraw_109 hl (k := 1) rfl (by rfl) (by decide) rfl (fun ls hl => ?_)
              refine lv_goto (tgt := 76) hx hb dX12_withdraw_112 (by decide) ?_
              exact ih (v3_28 + (1 : Int32)) S31 H locs ls h hP hD hS (lv_sub hl [1, 0] rfl)
        refine L33  _ ?_ fu x12 S18 H locs ls h hP hD hS (lv_sub hl [2, 0] rfl)
        intro S23 H locs ls h hP hD hS hl
        refine lv_aload_n hx hb dX12_withdraw_115 rfl (lv_at hl 0 rfl) ?_
        refine va_get (D := D) (ci := 12) (v := .ref (a (o + 1))) (C := RX12) (T := TX12) (N := 12) hx hb hts hinX12 hown hK hP 0 rfl rfl 0 (by decide) hf7 (fun _ h9 => h9) rfl dX12_withdraw_116 ?_
        refine lv_iconst (v := (3 : Int32)) hx hb dX12_withdraw_119 (by decide) ?_
        refine lv_aload_n hx hb dX12_withdraw_120 rfl (lv_at hl 0 rfl) ?_
        refine va_get (D := D) (ci := 12) (v := .ref (a (o + 1))) (C := RX12) (T := TX12) (N := 12) hx hb hts hinX12 hown hK hP 0 rfl rfl 0 (by decide) hf7 (fun _ h9 => h9) rfl dX12_withdraw_121 ?_
        refine lv_bipush (v := (7 : Int32)) hx hb dX12_withdraw_124 (by decide) ?_
        refine r_ald (f := (gX12_m S23)) (n := 714) (v := ((gX12_m S23) 7)) hx hb hK hP 1 0 rfl rfl (vp_in_nI (n := 7) (N := 714) (by decide) (by decide)) (congrArg (gX12_m S23) (nI_clamp (n := 7) (by decide))) dX12_withdraw_126 ?_
        obtain ⟨j25, hj25, h⟩ := jn_elim h
        have Jj25 : ∀ (x24 : Int32) (ls : Array Slot), j25 x24 = some rs → lv_has ls 4 [(0, .ref (a o))] → W p l e (headSpec wsX12_withdraw ({ frames := 3, cells := 0, slots := 0, locals := 64 } : Room)).room s m ([.ref (a o), .int p1] : List Value).toArray below meth c H locs 0 0 (MQ below (va_Qi (fun r (u : SX12) => (r, u) = rs) (fun u t => mB D s.heap.size (wX12 cy a o S) (wX12 cy a o u) t) (va_A (wX12 cy a o S) s.heap.size)) ([.ref (a o), .int p1] : List Value).toArray s 0 0 (va_A (wX12 cy a o S) s.heap.size)) (F0 m 140 ls [.int x24, .int (3 : Int32), .ref (a (o + 1))]) := by
          intro x24 ls h hl
          rw [hj25] at h
          refine r_ast (f := (gX12_m S23)) (f' := (upd (gX12_m S23) 3 x24)) (n := 714) (ws' := (wX12 cy a o (uX12_m S23 (upd (gX12_m S23) 3 x24)))) hx hb hK hP hD hS 1 0 rfl rfl (vp_in_nI (n := 3) (N := 714) (by decide) (by decide)) (updc (nI_clamp (n := 3) (by decide))) rfl dX12_withdraw_140 (fun H locs hP hD hS => ?_)
          obtain ⟨S26, eS27, h⟩ := lt_elim h
          have hP : va_P D vwCl (wX12 cy a o S26) H := by rw [eS27]; exact hP
          have hD : va_D (va_A (wX12 cy a o S) s.heap.size) (wX12 cy a o S26) := by rw [eS27]; exact hD
          exact Jj15 S26 H locs ls h hP hD hS (lv_sub hl [0] rfl)
        refine lv_if_ne (tgt := 134) hx hb dX12_withdraw_127 (by decide) (fun cc => ?_) (fun cc => ?_)
        · have h := ite_n cc h
          refine lv_aload_n hx hb dX12_withdraw_134 rfl (lv_at hl 0 rfl) ?_
          refine va_get (D := D) (ci := 12) (v := .ref (a (o + 1))) (C := RX12) (T := TX12) (N := 12) hx hb hts hinX12 hown hK hP 0 rfl rfl 0 (by decide) hf7 (fun _ h9 => h9) rfl dX12_withdraw_135 ?_
          refine lv_iconst (v := (3 : Int32)) hx hb dX12_withdraw_138 (by decide) ?_
          refine r_ald (f := (gX12_m S23)) (n := 714) (v := ((gX12_m S23) 3)) hx hb hK hP 1 0 rfl rfl (vp_in_nI (n := 3) (N := 714) (by decide) (by decide)) (congrArg (gX12_m S23) (nI_clamp (n := 3) (by decide))) dX12_withdraw_139 ?_
          exact Jj25 ((gX12_m S23) 3) ls h (lv_sub hl [0] rfl)
        · have h := ite_p cc h
          refine lv_iconst (v := (3 : Int32)) hx hb dX12_withdraw_130 (by decide) ?_
          refine lv_goto (tgt := 140) hx hb dX12_withdraw_131 (by decide) ?_
          exact Jj25 (3 : Int32) ls h (lv_sub hl [0] rfl)
    · have h := ite_n cc h
      refine lv_iconst (v := (0 : Int32)) hx hb dX12_withdraw_36 (by decide) ?_
      exact W.iret (v := (0 : Int32)) hx hb hr (fun t ht hW => ⟨⟨(0 : Int32), S5, rfl, some_in h, by rw [ht]; exact hP, hD⟩, hS.F ht⟩) hS.2.2 dX12_withdraw_37
  refine lv_if_ne (tgt := 13) hx hb dX12_withdraw_6 (by decide) (fun cc => ?_) (fun cc => ?_)
  · have h := ite_n cc h
    refine lv_aload_n hx hb dX12_withdraw_13 rfl (lv_at hl 0 rfl) ?_
    refine lv_iload_n hx hb dX12_withdraw_14 rfl (lv_at hl 1 rfl) ?_
    obtain ⟨x34, e35, h⟩ := bd_some h
    refine pcV (As := [.int p1]) (rest := [.ref (a o)]) (q0 := 0) (qX12_mayWithdraw l D cy a o S p1 x34 e35) ⟨hx, hb, hml, hown, hts⟩ (cwV 1 hts gX12_withdraw_X12_mayWithdraw rfl rfl rfl (by decide +kernel) ⟨Nat.le_of_ble_eq_true rfl, Nat.le_of_ble_eq_true rfl⟩) hG hP rfl rfl rfl hl.1 rfl (Nat.le_of_ble_eq_true rfl) dX12_withdraw_15 ⟨Nat.zero_le _, Nat.zero_le _⟩ ?_
    refine lv_if_eq (tgt := 25) hx hb dX12_withdraw_18 (by decide) (fun cc => ?_) (fun cc => ?_)
    · have h := ite_p cc h
      refine lv_iconst (v := (2 : Int32)) hx hb dX12_withdraw_25 (by decide) ?_
      exact Jj4 (2 : Int32) ls h (lv_sub hl [0, 1] rfl)
    · have h := ite_n cc h
      refine lv_iconst (v := (0 : Int32)) hx hb dX12_withdraw_21 (by decide) ?_
      refine lv_goto (tgt := 26) hx hb dX12_withdraw_22 (by decide) ?_
      exact Jj4 (0 : Int32) ls h (lv_sub hl [0, 1] rfl)
  · have h := ite_p cc h
    refine lv_iconst (v := (1 : Int32)) hx hb dX12_withdraw_9 (by decide) ?_
    refine lv_goto (tgt := 26) hx hb dX12_withdraw_10 (by decide) ?_
    exact Jj4 (1 : Int32) ls h (lv_sub hl [0, 1] rfl)
set_option maxHeartbeats 4000000 in
set_option maxRecDepth 100000 in
theorem qX12_tied (l : Launch) (D : va_G) (cy : Nat → ClassId) (a : Nat → Nat) (o : Nat) (S : SX12)  (rs : Int32) (h : DX12_tied S = some rs) : Met l yX12_tied wsX12_tied ({ frames := 0, cells := 0, slots := 0, locals := 0 } : Room) (va_Pc [.ref (a o)] (fun U => va_P D vwCl (wX12 cy a o S) U.heap ∧ gK D cy U)) (vp_Si (fun z => z = rs)) 0 0 (fun _ => False) := by
  refine Met.ofW (cc := cX12_tied) (maxL := 3) (ret := (some .int)) (by decide) rfl ?_
  intro p e s m args below meth c s₁ B hml hv
  obtain ⟨rfl, hP, hG⟩ := hv
  have hx := B.exec
  have hb := B.bytes
  have hr := B.returns
  have hts := atoms_spec (ws := wsX12_tied) B.pre
  have hown : s.vm.findClass RX12 = some m.cls := findClass_of_methodNamed B.named
  have hlocks := B.notSynchronized
  have hK := hG.1
  have hinX12 := (by decide +kernel : ∀ w ∈ wsX120, w ∈ wsX12_tied)
  have hf7 := hts (.fieldLink RX12 7 "PianoRoundsModel" "m" "[I") (by decide +kernel)
  have hl := lv_entry ([.ref (a o)]) (n := 3) (Nat.le_of_ble_eq_true rfl)
  rw [lg_entry_eq]
  generalize (lg_sl ([.ref (a o)]) ++ List.replicate (3 - (lg_sl ([.ref (a o)])).length) Slot.unset).toArray = ls at hl ⊢
  have hl : lv_has ls 3 [(0, .ref (a o))] := hl
  rw [DX12_tied] at h
  refine lv_iconst (v := (0 : Int32)) hx hb dX12_tied_0 (by decide) ?_
  refine lv_istore_n (lv' := [(1, .int (0 : Int32)), (0, .ref (a o))]) hx hb dX12_tied_1 rfl hl (by decide) rfl (fun ls hl => ?_)
  refine lv_iconst (v := (0 : Int32)) hx hb dX12_tied_2 (by decide) ?_
  refine lv_istore_n (lv' := [(2, .int (0 : Int32)), (1, .int (0 : Int32)), (0, .ref (a o))]) hx hb dX12_tied_3 rfl hl (by decide) rfl (fun ls hl => ?_)
  have L7 : ∀ (k1 : Int32 → Option (Int32)) (hk1 : ∀ (v1_2 : Int32) (ls : Array Slot), k1 v1_2 = some rs → lv_has ls 3 [(1, .int v1_2)] → W p l e (headSpec wsX12_tied ({ frames := 0, cells := 0, slots := 0, locals := 0 } : Room)).room s m ([.ref (a o)] : List Value).toArray below meth c s.heap [] 0 0 (MQ below (vp_Si (fun z => z = rs)) ([.ref (a o)] : List Value).toArray s 0 0 (fun _ => False)) (F0 m 34 ls [])) (f : Nat) (v1_4 : Int32) (v2_5 : Int32) (ls : Array Slot), DX12_tied_L4 S k1 f v1_4 v2_5 = some rs → lv_has ls 3 [(0, .ref (a o)), (1, .int v1_4), (2, .int v2_5)] → W p l e (headSpec wsX12_tied ({ frames := 0, cells := 0, slots := 0, locals := 0 } : Room)).room s m ([.ref (a o)] : List Value).toArray below meth c s.heap [] 0 0 (MQ below (vp_Si (fun z => z = rs)) ([.ref (a o)] : List Value).toArray s 0 0 (fun _ => False)) (F0 m 4 ls []) := by
    intro k1 hk1 f
    induction f with
    | zero =>
      intro v1_4 v2_5 ls h hl
      rw [DX12_tied_L4] at h
      cases h
    | succ f ih =>
      intro v1_4 v2_5 ls h hl
      rw [DX12_tied_L4] at h
      refine lv_iload_n hx hb dX12_tied_4 rfl (lv_at hl 2 rfl) ?_
      refine lv_aload_n hx hb dX12_tied_5 rfl (lv_at hl 0 rfl) ?_
      refine va_get (D := D) (ci := 12) (v := .ref (a (o + 1))) (C := RX12) (T := TX12) (N := 12) hx hb hts hinX12 hown hK hP 0 rfl rfl 0 (by decide) hf7 (fun _ h9 => h9) rfl dX12_tied_6 ?_
      refine lv_bipush (v := (6 : Int32)) hx hb dX12_tied_9 (by decide) ?_
      refine r_ald (f := (gX12_m S)) (n := 714) (v := ((gX12_m S) 6)) hx hb hK hP 1 0 rfl rfl (vp_in_nI (n := 6) (N := 714) (by decide) (by decide)) (congrArg (gX12_m S) (nI_clamp (n := 6) (by decide))) dX12_tied_11 ?_
      refine lv_icmp_ge (tgt := 34) hx hb dX12_tied_12 (by decide) (fun cc => ?_) (fun cc => ?_)
      · have h := ite_p cc h
        exact hk1 v1_4 ls h (lv_sub hl [1] rfl)
      · have h := ite_n cc h
        refine lv_iload_n hx hb dX12_tied_15 rfl (lv_at hl 1 rfl) ?_
        refine lv_aload_n hx hb dX12_tied_16 rfl (lv_at hl 0 rfl) ?_
        refine va_get (D := D) (ci := 12) (v := .ref (a (o + 1))) (C := RX12) (T := TX12) (N := 12) hx hb hts hinX12 hown hK hP 0 rfl rfl 0 (by decide) hf7 (fun _ h9 => h9) rfl dX12_tied_17 ?_
        refine lv_sipush (v := (654 : Int32)) hx hb dX12_tied_20 (by decide) ?_
        refine lv_iload_n hx hb dX12_tied_23 rfl (lv_at hl 2 rfl) ?_
        refine lv_iadd hx hb dX12_tied_24 ?_
        obtain ⟨g6, h⟩ := gd_some h
        refine r_ald (f := (gX12_m S)) (n := 714) (v := ((gX12_m S) ((((654 : Int32) + v2_5)).toNatClampNeg))) hx hb hK hP 1 0 rfl rfl (gIn_in g6) rfl dX12_tied_25 ?_
        refine lv_iadd hx hb dX12_tied_26 ?_
        refine lv_istore_n (lv' := [(1, .int (v1_4 + ((gX12_m S) ((((654 : Int32) + v2_5)).toNatClampNeg)))), (0, .ref (a o)), (2, .int v2_5)]) hx hb dX12_tied_27 rfl hl (by decide) rfl (fun ls hl => ?_)
        refine lv_iinc (v := (v2_5 + (1 : Int32))) (lv' := [(2, .int (v2_5 + (1 : Int32))), (1, .int (v1_4 + ((gX12_m S) ((((654 : Int32) + v2_5)).toNatClampNeg)))), (0, .ref (a o))]) hx hb dX12_tied_28 hl (k := 2) rfl (by rfl) (by decide) rfl (fun ls hl => ?_)
        refine lv_goto (tgt := 4) hx hb dX12_tied_31 (by decide) ?_
        exact ih (v1_4 + ((gX12_m S) ((((654 : Int32) + v2_5)).toNatClampNeg))) (v2_5 + (1 : Int32)) ls h (lv_sub hl [2, 1, 0] rfl)
  refine L7  _ ?_ fu (0 : Int32) (0 : Int32) ls h (lv_sub hl [2, 1, 0] rfl)
  intro v1_3 ls h hl
  refine lv_iload_n hx hb dX12_tied_34 rfl (lv_at hl 0 rfl) ?_
  exact W.iret (v := v1_3) hx hb hr (fun t ht hW => ⟨v1_3, rfl, some_in h, ht⟩) (fun q hq => nomatch hq) dX12_tied_35
set_option maxHeartbeats 4000000 in
set_option maxRecDepth 100000 in
theorem qX12_infoOf (l : Launch) (D : va_G) (cy : Nat → ClassId) (a : Nat → Nat) (o : Nat) (S : SX12) (p1 : Int32) (rs : Int32) (h : DX12_infoOf S p1 = some rs) : Met l yX12_infoOf wsX12_infoOf ({ frames := 1, cells := 0, slots := 0, locals := 22 } : Room) (va_Pc [.ref (a o), .int p1] (fun U => va_P D vwCl (wX12 cy a o S) U.heap ∧ gK D cy U)) (vp_Si (fun z => z = rs)) 0 0 (fun _ => False) := by
  refine Met.ofW (cc := cX12_infoOf) (maxL := 2) (ret := (some .int)) (by decide) rfl ?_
  intro p e s m args below meth c s₁ B hml hv
  obtain ⟨rfl, hP, hG⟩ := hv
  have hx := B.exec
  have hb := B.bytes
  have hr := B.returns
  have hts := atoms_spec (ws := wsX12_infoOf) B.pre
  have hown : s.vm.findClass RX12 = some m.cls := findClass_of_methodNamed B.named
  have hlocks := B.notSynchronized
  have hK := hG.1
  have hinX12 := (by decide +kernel : ∀ w ∈ wsX120, w ∈ wsX12_infoOf)
  have hf7 := hts (.fieldLink RX12 7 "PianoRoundsModel" "m" "[I") (by decide +kernel)
  have hl := lv_entry ([.ref (a o), .int p1]) (n := 2) (Nat.le_of_ble_eq_true rfl)
  rw [lg_entry_eq]
  generalize (lg_sl ([.ref (a o), .int p1]) ++ List.replicate (2 - (lg_sl ([.ref (a o), .int p1])).length) Slot.unset).toArray = ls at hl ⊢
  have hl : lv_has ls 2 [(0, .ref (a o)), (1, .int p1)] := hl
  rw [DX12_infoOf] at h
  refine lv_iload_n hx hb dX12_infoOf_0 rfl (lv_at hl 1 rfl) ?_
  by_cases c0 : p1 = (7 : Int32)
  · have h := ite_p c0 h
    refine lv_tableIn (tgt := 40) (off := 39) hx hb dX12_infoOf_1 (by rw [c0]; decide) (by rw [c0]; decide) (by rw [c0]; rfl) (by decide) ?_
    refine lv_aload_n hx hb dX12_infoOf_40 rfl (lv_at hl 0 rfl) ?_
    obtain ⟨x1, e2, h⟩ := bd_some h
    refine pcV (As := []) (rest := []) (q0 := 0) (qX12_countIn l D cy a o S  x1 e2) ⟨hx, hb, hml, hown, hts⟩ (cwV 0 hts gX12_infoOf_X12_countIn rfl rfl rfl (by decide +kernel) ⟨Nat.le_of_ble_eq_true rfl, Nat.le_of_ble_eq_true rfl⟩) hG hP rfl rfl rfl hl.1 rfl (Nat.le_of_ble_eq_true rfl) dX12_infoOf_41 ⟨Nat.zero_le _, Nat.zero_le _⟩ ?_
    exact W.iret (v := x1) hx hb hr (fun t ht hW => ⟨x1, rfl, some_in h, ht⟩) (fun q hq => nomatch hq) dX12_infoOf_44
  have h := ite_n c0 h
  by_cases c1 : p1 = (8 : Int32)
  · have h := ite_p c1 h
    refine lv_tableIn (tgt := 45) (off := 44) hx hb dX12_infoOf_1 (by rw [c1]; decide) (by rw [c1]; decide) (by rw [c1]; rfl) (by decide) ?_
    refine lv_aload_n hx hb dX12_infoOf_45 rfl (lv_at hl 0 rfl) ?_
    refine va_get (D := D) (ci := 12) (v := .ref (a (o + 1))) (C := RX12) (T := TX12) (N := 12) hx hb hts hinX12 hown hK hP 0 rfl rfl 0 (by decide) hf7 (fun _ h9 => h9) rfl dX12_infoOf_46 ?_
    refine lv_bipush (v := (7 : Int32)) hx hb dX12_infoOf_49 (by decide) ?_
    refine r_ald (f := (gX12_m S)) (n := 714) (v := ((gX12_m S) 7)) hx hb hK hP 1 0 rfl rfl (vp_in_nI (n := 7) (N := 714) (by decide) (by decide)) (congrArg (gX12_m S) (nI_clamp (n := 7) (by decide))) dX12_infoOf_51 ?_
    exact W.iret (v := ((gX12_m S) 7)) hx hb hr (fun t ht hW => ⟨((gX12_m S) 7), rfl, some_in h, ht⟩) (fun q hq => nomatch hq) dX12_infoOf_52
  have h := ite_n c1 h
  by_cases c2 : p1 = (9 : Int32)
  · have h := ite_p c2 h
    refine lv_tableIn (tgt := 53) (off := 52) hx hb dX12_infoOf_1 (by rw [c2]; decide) (by rw [c2]; decide) (by rw [c2]; rfl) (by decide) ?_
    refine lv_aload_n hx hb dX12_infoOf_53 rfl (lv_at hl 0 rfl) ?_
    refine va_get (D := D) (ci := 12) (v := .ref (a (o + 1))) (C := RX12) (T := TX12) (N := 12) hx hb hts hinX12 hown hK hP 0 rfl rfl 0 (by decide) hf7 (fun _ h9 => h9) rfl dX12_infoOf_54 ?_
    refine lv_bipush (v := (8 : Int32)) hx hb dX12_infoOf_57 (by decide) ?_
    refine r_ald (f := (gX12_m S)) (n := 714) (v := ((gX12_m S) 8)) hx hb hK hP 1 0 rfl rfl (vp_in_nI (n := 8) (N := 714) (by decide) (by decide)) (congrArg (gX12_m S) (nI_clamp (n := 8) (by decide))) dX12_infoOf_59 ?_
    exact W.iret (v := ((gX12_m S) 8)) hx hb hr (fun t ht hW => ⟨((gX12_m S) 8), rfl, some_in h, ht⟩) (fun q hq => nomatch hq) dX12_infoOf_60
  have h := ite_n c2 h
  by_cases c3 : p1 = (10 : Int32)
  · have h := ite_p c3 h
    refine lv_tableIn (tgt := 61) (off := 60) hx hb dX12_infoOf_1 (by rw [c3]; decide) (by rw [c3]; decide) (by rw [c3]; rfl) (by decide) ?_
    refine lv_aload_n hx hb dX12_infoOf_61 rfl (lv_at hl 0 rfl) ?_
    obtain ⟨x3, e4, h⟩ := bd_some h
    refine pcV (As := []) (rest := []) (q0 := 0) (qX12_tied l D cy a o S  x3 e4) ⟨hx, hb, hml, hown, hts⟩ (cwV 0 hts gX12_infoOf_X12_tied rfl rfl rfl (by decide +kernel) ⟨Nat.le_of_ble_eq_true rfl, Nat.le_of_ble_eq_true rfl⟩) hG hP rfl rfl rfl hl.1 rfl (Nat.le_of_ble_eq_true rfl) dX12_infoOf_62 ⟨Nat.zero_le _, Nat.zero_le _⟩ ?_
    exact W.iret (v := x3) hx hb hr (fun t ht hW => ⟨x3, rfl, some_in h, ht⟩) (fun q hq => nomatch hq) dX12_infoOf_65
  have h := ite_n c3 h
  by_cases c4 : p1 = (11 : Int32)
  · have h := ite_p c4 h
    refine lv_tableIn (tgt := 66) (off := 65) hx hb dX12_infoOf_1 (by rw [c4]; decide) (by rw [c4]; decide) (by rw [c4]; rfl) (by decide) ?_
    refine lv_aload_n hx hb dX12_infoOf_66 rfl (lv_at hl 0 rfl) ?_
    refine va_get (D := D) (ci := 12) (v := .ref (a (o + 1))) (C := RX12) (T := TX12) (N := 12) hx hb hts hinX12 hown hK hP 0 rfl rfl 0 (by decide) hf7 (fun _ h9 => h9) rfl dX12_infoOf_67 ?_
    refine lv_bipush (v := (9 : Int32)) hx hb dX12_infoOf_70 (by decide) ?_
    refine r_ald (f := (gX12_m S)) (n := 714) (v := ((gX12_m S) 9)) hx hb hK hP 1 0 rfl rfl (vp_in_nI (n := 9) (N := 714) (by decide) (by decide)) (congrArg (gX12_m S) (nI_clamp (n := 9) (by decide))) dX12_infoOf_72 ?_
    exact W.iret (v := ((gX12_m S) 9)) hx hb hr (fun t ht hW => ⟨((gX12_m S) 9), rfl, some_in h, ht⟩) (fun q hq => nomatch hq) dX12_infoOf_73
  have h := ite_n c4 h
  by_cases c5 : p1 = (12 : Int32)
  · have h := ite_p c5 h
    refine lv_tableIn (tgt := 74) (off := 73) hx hb dX12_infoOf_1 (by rw [c5]; decide) (by rw [c5]; decide) (by rw [c5]; rfl) (by decide) ?_
    refine lv_aload_n hx hb dX12_infoOf_74 rfl (lv_at hl 0 rfl) ?_
    refine va_get (D := D) (ci := 12) (v := .ref (a (o + 1))) (C := RX12) (T := TX12) (N := 12) hx hb hts hinX12 hown hK hP 0 rfl rfl 0 (by decide) hf7 (fun _ h9 => h9) rfl dX12_infoOf_75 ?_
    refine lv_bipush (v := (10 : Int32)) hx hb dX12_infoOf_78 (by decide) ?_
    refine r_ald (f := (gX12_m S)) (n := 714) (v := ((gX12_m S) 10)) hx hb hK hP 1 0 rfl rfl (vp_in_nI (n := 10) (N := 714) (by decide) (by decide)) (congrArg (gX12_m S) (nI_clamp (n := 10) (by decide))) dX12_infoOf_80 ?_
    exact W.iret (v := ((gX12_m S) 10)) hx hb hr (fun t ht hW => ⟨((gX12_m S) 10), rfl, some_in h, ht⟩) (fun q hq => nomatch hq) dX12_infoOf_81
  have h := ite_n c5 h
  refine lv_tableOut (tgt := 82) hx hb dX12_infoOf_1 (by have n0 := lv_neT (a := 7) c0 (by decide); have n1 := lv_neT (a := 8) c1 (by decide); have n2 := lv_neT (a := 9) c2 (by decide); have n3 := lv_neT (a := 10) c3 (by decide); have n4 := lv_neT (a := 11) c4 (by decide); have n5 := lv_neT (a := 12) c5 (by decide); omega) (by decide) ?_
  refine lv_aload_n hx hb dX12_infoOf_82 rfl (lv_at hl 0 rfl) ?_
  refine va_get (D := D) (ci := 12) (v := .ref (a (o + 1))) (C := RX12) (T := TX12) (N := 12) hx hb hts hinX12 hown hK hP 0 rfl rfl 0 (by decide) hf7 (fun _ h9 => h9) rfl dX12_infoOf_83 ?_
  refine lv_iload_n hx hb dX12_infoOf_86 rfl (lv_at hl 1 rfl) ?_
  obtain ⟨g5, h⟩ := gd_some h
  refine r_ald (f := (gX12_m S)) (n := 714) (v := ((gX12_m S) ((p1).toNatClampNeg))) hx hb hK hP 1 0 rfl rfl (gIn_in g5) rfl dX12_infoOf_87 ?_
  exact W.iret (v := ((gX12_m S) ((p1).toNatClampNeg))) hx hb hr (fun t ht hW => ⟨((gX12_m S) ((p1).toNatClampNeg)), rfl, some_in h, ht⟩) (fun q hq => nomatch hq) dX12_infoOf_88
set_option maxHeartbeats 4000000 in
set_option maxRecDepth 100000 in
theorem qX12_info (l : Launch) (D : va_G) (cy : Nat → ClassId) (a : Nat → Nat) (o : Nat) (S : SX12) (p1 : Int32) (sz : Nat) (rs : Int32 × SX12) (h : DX12_info S p1 = some rs) : Met l yX12_info wsX12_info ({ frames := 2, cells := 0, slots := 0, locals := 43 } : Room) (mP D cy sz [.ref (a o), .int p1] (wX12 cy a o S)) (va_Qi (fun r (u : SX12) => (r, u) = rs) (fun u t => mB D sz (wX12 cy a o S) (wX12 cy a o u) t) (va_A (wX12 cy a o S) sz)) 0 0 (va_A (wX12 cy a o S) sz) := by
  refine Met.ofW (cc := cX12_info) (maxL := 2) (ret := (some .int)) (by decide) rfl ?_
  intro p e s m args below meth c s₁ B hml hv
  obtain ⟨rfl, hsz, hP, hG, hD0⟩ := hv
  have hx := B.exec
  have hb := B.bytes
  have hr := B.returns
  have hts := atoms_spec (ws := wsX12_info) B.pre
  have hown : s.vm.findClass RX12 = some m.cls := findClass_of_methodNamed B.named
  have hlocks := B.notSynchronized
  have hK := hG.1
  subst hsz
  have hD := hD0.self (sz := s.heap.size)
  have hA : ∀ q : Nat, s.heap.size ≤ q → (va_A (wX12 cy a o S) s.heap.size) q := fun q h => Or.inr h
  have hS : va_S (va_A (wX12 cy a o S) s.heap.size) s.heap s.heap [] := va_S.rf
  have hinX12 := (by decide +kernel : ∀ w ∈ wsX120, w ∈ wsX12_info)
  have hf31 := hts (.fieldLink RX12 31 "PianoRoundsModel" "code" "I") (by decide +kernel)
  have hl := lv_entry ([.ref (a o), .int p1]) (n := 2) (Nat.le_of_ble_eq_true rfl)
  rw [lg_entry_eq]
  generalize (lg_sl ([.ref (a o), .int p1]) ++ List.replicate (2 - (lg_sl ([.ref (a o), .int p1])).length) Slot.unset).toArray = ls at hl ⊢
  have hl : lv_has ls 2 [(0, .ref (a o)), (1, .int p1)] := hl
  rw [DX12_info] at h
  refine lv_aload_n hx hb dX12_info_0 rfl (lv_at hl 0 rfl) ?_
  refine lv_iload_n hx hb dX12_info_1 rfl (lv_at hl 1 rfl) ?_
  refine lv_iconst (v := (0 : Int32)) hx hb dX12_info_2 (by decide) ?_
  refine lv_bipush (v := (12 : Int32)) hx hb dX12_info_3 (by decide) ?_
  obtain ⟨x1, e2, h⟩ := bd_some h
  refine pcS (As := [.int p1, .int (0 : Int32), .int (12 : Int32)]) (rest := [.ref (a o)]) (qX12_in l D cy  p1 (0 : Int32) (12 : Int32) x1 e2) ⟨hx, hb, hml, hown, hts⟩ (va_cwS 3 hts gX12_info_X12_in rfl rfl rfl (by decide +kernel) ⟨Nat.le_of_ble_eq_true rfl, Nat.le_of_ble_eq_true rfl⟩) hG (hP.sub [] rfl) rfl hl.1 rfl (Nat.le_of_ble_eq_true rfl) dX12_info_5 ⟨Nat.zero_le _, Nat.zero_le _⟩ ?_
  obtain ⟨j4, hj4, h⟩ := jn_elim h
  have Jj4 : ∀ (x3 : Int32) (ls : Array Slot), j4 x3 = some rs → lv_has ls 2 [(0, .ref (a o)), (1, .int p1)] → W p l e (headSpec wsX12_info ({ frames := 2, cells := 0, slots := 0, locals := 43 } : Room)).room s m ([.ref (a o), .int p1] : List Value).toArray below meth c s.heap [] 0 0 (MQ below (va_Qi (fun r (u : SX12) => (r, u) = rs) (fun u t => mB D s.heap.size (wX12 cy a o S) (wX12 cy a o u) t) (va_A (wX12 cy a o S) s.heap.size)) ([.ref (a o), .int p1] : List Value).toArray s 0 0 (va_A (wX12 cy a o S) s.heap.size)) (F0 m 16 ls [.int x3, .ref (a o)]) := by
    intro x3 ls h hl
    rw [hj4] at h
    refine va_put (D := D) (ci := 12) (v := .int x3) (ty := .int) (C := RX12) (T := TX12) (N := 12) hx hb hts hinX12 tyX12 tyX12_ok nmX12 hown hK hP hD hS 0 rfl rfl 5 (by decide) hf31 (fun _ h9 => h9) rfl (by decide +kernel) rfl rfl (Nat.le_of_ble_eq_true rfl) dX12_info_16 (fun H locs hP hD hS => ?_)
    have hP : va_P D vwCl (wX12 cy a o (uX12_code S x3)) H := hP
    have hD : va_D (va_A (wX12 cy a o S) s.heap.size) (wX12 cy a o (uX12_code S x3)) := hD
    obtain ⟨S5, eS6, h⟩ := lt_elim h
    have hP : va_P D vwCl (wX12 cy a o S5) H := by rw [eS6]; exact hP
    have hD : va_D (va_A (wX12 cy a o S) s.heap.size) (wX12 cy a o S5) := by rw [eS6]; exact hD
    refine lv_aload_n hx hb dX12_info_19 rfl (lv_at hl 0 rfl) ?_
    refine va_get (D := D) (ci := 12) (v := .int (gX12_code S5)) (C := RX12) (T := TX12) (N := 12) hx hb hts hinX12 hown hK hP 0 rfl rfl 5 (by decide) hf31 (fun _ h9 => h9) rfl dX12_info_20 ?_
    obtain ⟨j8, hj8, h⟩ := jn_elim h
    have Jj8 : ∀ (x7 : Int32) (ls : Array Slot), j8 x7 = some rs → lv_has ls 2 [] → W p l e (headSpec wsX12_info ({ frames := 2, cells := 0, slots := 0, locals := 43 } : Room)).room s m ([.ref (a o), .int p1] : List Value).toArray below meth c H locs 0 0 (MQ below (va_Qi (fun r (u : SX12) => (r, u) = rs) (fun u t => mB D s.heap.size (wX12 cy a o S) (wX12 cy a o u) t) (va_A (wX12 cy a o S) s.heap.size)) ([.ref (a o), .int p1] : List Value).toArray s 0 0 (va_A (wX12 cy a o S) s.heap.size)) (F0 m 35 ls [.int x7]) := by
      intro x7 ls h hl
      rw [hj8] at h
      exact W.iret (v := x7) hx hb hr (fun t ht hW => ⟨⟨x7, S5, rfl, some_in h, by rw [ht]; exact hP, hD⟩, hS.F ht⟩) hS.2.2 dX12_info_35
    refine lv_if_eq (tgt := 30) hx hb dX12_info_23 (by decide) (fun cc => ?_) (fun cc => ?_)
    · have h := ite_p cc h
      refine lv_aload_n hx hb dX12_info_30 rfl (lv_at hl 0 rfl) ?_
      refine lv_iload_n hx hb dX12_info_31 rfl (lv_at hl 1 rfl) ?_
      obtain ⟨x9, e10, h⟩ := bd_some h
      refine pcV (As := [.int p1]) (rest := []) (q0 := 0) (qX12_infoOf l D cy a o S5 p1 x9 e10) ⟨hx, hb, hml, hown, hts⟩ (cwV 1 hts gX12_info_X12_infoOf rfl rfl rfl (by decide +kernel) ⟨Nat.le_of_ble_eq_true rfl, Nat.le_of_ble_eq_true rfl⟩) hG hP rfl rfl rfl hl.1 rfl (Nat.le_of_ble_eq_true rfl) dX12_info_32 ⟨Nat.zero_le _, Nat.zero_le _⟩ ?_
      exact Jj8 x9 ls h (lv_sub hl [] rfl)
    · have h := ite_n cc h
      refine lv_iconst (v := (0 : Int32)) hx hb dX12_info_26 (by decide) ?_
      refine lv_goto (tgt := 35) hx hb dX12_info_27 (by decide) ?_
      exact Jj8 (0 : Int32) ls h (lv_sub hl [] rfl)
  refine lv_if_eq (tgt := 15) hx hb dX12_info_8 (by decide) (fun cc => ?_) (fun cc => ?_)
  · have h := ite_p cc h
    refine lv_iconst (v := (1 : Int32)) hx hb dX12_info_15 (by decide) ?_
    exact Jj4 (1 : Int32) ls h (lv_sub hl [0, 1] rfl)
  · have h := ite_n cc h
    refine lv_iconst (v := (0 : Int32)) hx hb dX12_info_11 (by decide) ?_
    refine lv_goto (tgt := 16) hx hb dX12_info_12 (by decide) ?_
    exact Jj4 (0 : Int32) ls h (lv_sub hl [0, 1] rfl)
set_option maxHeartbeats 4000000 in
set_option maxRecDepth 100000 in
theorem qX12_ofEntrant (l : Launch) (D : va_G) (cy : Nat → ClassId) (a : Nat → Nat) (o : Nat) (S : SX12) (p1 : Int32) (p2 : Int32) (rs : Int32) (h : DX12_ofEntrant S p1 p2 = some rs) : Met l yX12_ofEntrant wsX12_ofEntrant ({ frames := 6, cells := 0, slots := 0, locals := 135 } : Room) (va_Pc [.ref (a o), .int p1, .int p2] (fun U => va_P D vwCl (wX12 cy a o S) U.heap ∧ gK D cy U)) (vp_Si (fun z => z = rs)) 0 0 (fun _ => False) := by
  refine Met.ofW (cc := cX12_ofEntrant) (maxL := 3) (ret := (some .int)) (by decide) rfl ?_
  intro p e s m args below meth c s₁ B hml hv
  obtain ⟨rfl, hP, hG⟩ := hv
  have hx := B.exec
  have hb := B.bytes
  have hr := B.returns
  have hts := atoms_spec (ws := wsX12_ofEntrant) B.pre
  have hown : s.vm.findClass RX12 = some m.cls := findClass_of_methodNamed B.named
  have hlocks := B.notSynchronized
  have hK := hG.1
  have hinX12 := (by decide +kernel : ∀ w ∈ wsX120, w ∈ wsX12_ofEntrant)
  have hf7 := hts (.fieldLink RX12 7 "PianoRoundsModel" "m" "[I") (by decide +kernel)
  have hl := lv_entry ([.ref (a o), .int p1, .int p2]) (n := 3) (Nat.le_of_ble_eq_true rfl)
  rw [lg_entry_eq]
  generalize (lg_sl ([.ref (a o), .int p1, .int p2]) ++ List.replicate (3 - (lg_sl ([.ref (a o), .int p1, .int p2])).length) Slot.unset).toArray = ls at hl ⊢
  have hl : lv_has ls 3 [(0, .ref (a o)), (1, .int p1), (2, .int p2)] := hl
  rw [DX12_ofEntrant] at h
  refine lv_iload_n hx hb dX12_ofEntrant_0 rfl (lv_at hl 2 rfl) ?_
  by_cases c0 : p2 = (0 : Int32)
  · have h := ite_p c0 h
    refine lv_tableIn (tgt := 44) (off := 43) hx hb dX12_ofEntrant_1 (by rw [c0]; decide) (by rw [c0]; decide) (by rw [c0]; rfl) (by decide) ?_
    refine lv_aload_n hx hb dX12_ofEntrant_44 rfl (lv_at hl 0 rfl) ?_
    refine va_get (D := D) (ci := 12) (v := .ref (a (o + 1))) (C := RX12) (T := TX12) (N := 12) hx hb hts hinX12 hown hK hP 0 rfl rfl 0 (by decide) hf7 (fun _ h9 => h9) rfl dX12_ofEntrant_45 ?_
    refine lv_bipush (v := (126 : Int32)) hx hb dX12_ofEntrant_48 (by decide) ?_
    refine lv_iload_n hx hb dX12_ofEntrant_50 rfl (lv_at hl 1 rfl) ?_
    refine lv_iadd hx hb dX12_ofEntrant_51 ?_
    obtain ⟨g1, h⟩ := gd_some h
    refine r_ald (f := (gX12_m S)) (n := 714) (v := ((gX12_m S) ((((126 : Int32) + p1)).toNatClampNeg))) hx hb hK hP 1 0 rfl rfl (gIn_in g1) rfl dX12_ofEntrant_52 ?_
    exact W.iret (v := ((gX12_m S) ((((126 : Int32) + p1)).toNatClampNeg))) hx hb hr (fun t ht hW => ⟨((gX12_m S) ((((126 : Int32) + p1)).toNatClampNeg)), rfl, some_in h, ht⟩) (fun q hq => nomatch hq) dX12_ofEntrant_53
  have h := ite_n c0 h
  by_cases c1 : p2 = (1 : Int32)
  · have h := ite_p c1 h
    refine lv_tableIn (tgt := 54) (off := 53) hx hb dX12_ofEntrant_1 (by rw [c1]; decide) (by rw [c1]; decide) (by rw [c1]; rfl) (by decide) ?_
    refine lv_aload_n hx hb dX12_ofEntrant_54 rfl (lv_at hl 0 rfl) ?_
    refine lv_iload_n hx hb dX12_ofEntrant_55 rfl (lv_at hl 1 rfl) ?_
    obtain ⟨x2, e3, h⟩ := bd_some h
    refine pcV (As := [.int p1]) (rest := []) (q0 := 0) (qX12_placeOf l D cy a o S p1 x2 e3) ⟨hx, hb, hml, hown, hts⟩ (cwV 1 hts gX12_ofEntrant_X12_placeOf rfl rfl rfl (by decide +kernel) ⟨Nat.le_of_ble_eq_true rfl, Nat.le_of_ble_eq_true rfl⟩) hG hP rfl rfl rfl hl.1 rfl (Nat.le_of_ble_eq_true rfl) dX12_ofEntrant_56 ⟨Nat.zero_le _, Nat.zero_le _⟩ ?_
    exact W.iret (v := x2) hx hb hr (fun t ht hW => ⟨x2, rfl, some_in h, ht⟩) (fun q hq => nomatch hq) dX12_ofEntrant_59
  have h := ite_n c1 h
  by_cases c2 : p2 = (2 : Int32)
  · have h := ite_p c2 h
    refine lv_tableIn (tgt := 60) (off := 59) hx hb dX12_ofEntrant_1 (by rw [c2]; decide) (by rw [c2]; decide) (by rw [c2]; rfl) (by decide) ?_
    refine lv_aload_n hx hb dX12_ofEntrant_60 rfl (lv_at hl 0 rfl) ?_
    refine lv_iload_n hx hb dX12_ofEntrant_61 rfl (lv_at hl 1 rfl) ?_
    obtain ⟨x4, e5, h⟩ := bd_some h
    refine pcV (As := [.int p1]) (rest := []) (q0 := 0) (qX12_hasPlayed l D cy a o S p1 x4 e5) ⟨hx, hb, hml, hown, hts⟩ (cwV 1 hts gX12_ofEntrant_X12_hasPlayed rfl rfl rfl (by decide +kernel) ⟨Nat.le_of_ble_eq_true rfl, Nat.le_of_ble_eq_true rfl⟩) hG hP rfl rfl rfl hl.1 rfl (Nat.le_of_ble_eq_true rfl) dX12_ofEntrant_62 ⟨Nat.zero_le _, Nat.zero_le _⟩ ?_
    obtain ⟨j7, hj7, h⟩ := jn_elim h
    have Jj7 : ∀ (x6 : Int32) (ls : Array Slot), j7 x6 = some rs → lv_has ls 3 [] → W p l e (headSpec wsX12_ofEntrant ({ frames := 6, cells := 0, slots := 0, locals := 135 } : Room)).room s m ([.ref (a o), .int p1, .int p2] : List Value).toArray below meth c s.heap [] 0 0 (MQ below (vp_Si (fun z => z = rs)) ([.ref (a o), .int p1, .int p2] : List Value).toArray s 0 0 (fun _ => False)) (F0 m 82 ls [.int x6]) := by
      intro x6 ls h hl
      rw [hj7] at h
      exact W.iret (v := x6) hx hb hr (fun t ht hW => ⟨x6, rfl, some_in h, ht⟩) (fun q hq => nomatch hq) dX12_ofEntrant_82
    refine lv_if_eq (tgt := 81) hx hb dX12_ofEntrant_65 (by decide) (fun cc => ?_) (fun cc => ?_)
    · have h := ite_p cc h
      refine lv_iconst (v := (-1 : Int32)) hx hb dX12_ofEntrant_81 (by decide) ?_
      exact Jj7 (-1 : Int32) ls h (lv_sub hl [] rfl)
    · have h := ite_n cc h
      refine lv_aload_n hx hb dX12_ofEntrant_68 rfl (lv_at hl 0 rfl) ?_
      refine va_get (D := D) (ci := 12) (v := .ref (a (o + 1))) (C := RX12) (T := TX12) (N := 12) hx hb hts hinX12 hown hK hP 0 rfl rfl 0 (by decide) hf7 (fun _ h9 => h9) rfl dX12_ofEntrant_69 ?_
      refine lv_sipush (v := (474 : Int32)) hx hb dX12_ofEntrant_72 (by decide) ?_
      refine lv_iload_n hx hb dX12_ofEntrant_75 rfl (lv_at hl 1 rfl) ?_
      refine lv_iadd hx hb dX12_ofEntrant_76 ?_
      obtain ⟨g8, h⟩ := gd_some h
      refine r_ald (f := (gX12_m S)) (n := 714) (v := ((gX12_m S) ((((474 : Int32) + p1)).toNatClampNeg))) hx hb hK hP 1 0 rfl rfl (gIn_in g8) rfl dX12_ofEntrant_77 ?_
      refine lv_goto (tgt := 82) hx hb dX12_ofEntrant_78 (by decide) ?_
      exact Jj7 ((gX12_m S) ((((474 : Int32) + p1)).toNatClampNeg)) ls h (lv_sub hl [] rfl)
  have h := ite_n c2 h
  by_cases c3 : p2 = (3 : Int32)
  · have h := ite_p c3 h
    refine lv_tableIn (tgt := 83) (off := 82) hx hb dX12_ofEntrant_1 (by rw [c3]; decide) (by rw [c3]; decide) (by rw [c3]; rfl) (by decide) ?_
    refine lv_aload_n hx hb dX12_ofEntrant_83 rfl (lv_at hl 0 rfl) ?_
    refine lv_aload_n hx hb dX12_ofEntrant_84 rfl (lv_at hl 0 rfl) ?_
    refine va_get (D := D) (ci := 12) (v := .ref (a (o + 1))) (C := RX12) (T := TX12) (N := 12) hx hb hts hinX12 hown hK hP 0 rfl rfl 0 (by decide) hf7 (fun _ h9 => h9) rfl dX12_ofEntrant_85 ?_
    refine lv_iconst (v := (3 : Int32)) hx hb dX12_ofEntrant_88 (by decide) ?_
    refine r_ald (f := (gX12_m S)) (n := 714) (v := ((gX12_m S) 3)) hx hb hK hP 1 0 rfl rfl (vp_in_nI (n := 3) (N := 714) (by decide) (by decide)) (congrArg (gX12_m S) (nI_clamp (n := 3) (by decide))) dX12_ofEntrant_89 ?_
    refine lv_iconst (v := (2 : Int32)) hx hb dX12_ofEntrant_90 (by decide) ?_
    obtain ⟨j10, hj10, h⟩ := jn_elim h
    have Jj10 : ∀ (x9 : Int32) (ls : Array Slot), j10 x9 = some rs → lv_has ls 3 [(1, .int p1)] → W p l e (headSpec wsX12_ofEntrant ({ frames := 6, cells := 0, slots := 0, locals := 135 } : Room)).room s m ([.ref (a o), .int p1, .int p2] : List Value).toArray below meth c s.heap [] 0 0 (MQ below (vp_Si (fun z => z = rs)) ([.ref (a o), .int p1, .int p2] : List Value).toArray s 0 0 (fun _ => False)) (F0 m 103 ls [.int x9, .ref (a o)]) := by
      intro x9 ls h hl
      rw [hj10] at h
      refine lv_iload_n hx hb dX12_ofEntrant_103 rfl (lv_at hl 0 rfl) ?_
      obtain ⟨x11, e12, h⟩ := bd_some h
      refine pcV (As := [.int x9, .int p1]) (rest := []) (q0 := 0) (qX12_counting l D cy a o S x9 p1 x11 e12) ⟨hx, hb, hml, hown, hts⟩ (cwV 2 hts gX12_ofEntrant_X12_counting rfl rfl rfl (by decide +kernel) ⟨Nat.le_of_ble_eq_true rfl, Nat.le_of_ble_eq_true rfl⟩) hG hP rfl rfl rfl hl.1 rfl (Nat.le_of_ble_eq_true rfl) dX12_ofEntrant_104 ⟨Nat.zero_le _, Nat.zero_le _⟩ ?_
      exact W.iret (v := x11) hx hb hr (fun t ht hW => ⟨x11, rfl, some_in h, ht⟩) (fun q hq => nomatch hq) dX12_ofEntrant_107
    refine lv_icmp_ne (tgt := 100) hx hb dX12_ofEntrant_91 (by decide) (fun cc => ?_) (fun cc => ?_)
    · have h := ite_n cc h
      refine lv_sipush (v := (486 : Int32)) hx hb dX12_ofEntrant_100 (by decide) ?_
      exact Jj10 (486 : Int32) ls h (lv_sub hl [1] rfl)
    · have h := ite_p cc h
      refine lv_sipush (v := (570 : Int32)) hx hb dX12_ofEntrant_94 (by decide) ?_
      refine lv_goto (tgt := 103) hx hb dX12_ofEntrant_97 (by decide) ?_
      exact Jj10 (570 : Int32) ls h (lv_sub hl [1] rfl)
  have h := ite_n c3 h
  by_cases c4 : p2 = (4 : Int32)
  · have h := ite_p c4 h
    refine lv_tableIn (tgt := 108) (off := 107) hx hb dX12_ofEntrant_1 (by rw [c4]; decide) (by rw [c4]; decide) (by rw [c4]; rfl) (by decide) ?_
    refine lv_aload_n hx hb dX12_ofEntrant_108 rfl (lv_at hl 0 rfl) ?_
    refine lv_iload_n hx hb dX12_ofEntrant_109 rfl (lv_at hl 1 rfl) ?_
    obtain ⟨x13, e14, h⟩ := bd_some h
    refine pcV (As := [.int p1]) (rest := []) (q0 := 0) (qX12_scoreOf l D cy a o S p1 x13 e14) ⟨hx, hb, hml, hown, hts⟩ (cwV 1 hts gX12_ofEntrant_X12_scoreOf rfl rfl rfl (by decide +kernel) ⟨Nat.le_of_ble_eq_true rfl, Nat.le_of_ble_eq_true rfl⟩) hG hP rfl rfl rfl hl.1 rfl (Nat.le_of_ble_eq_true rfl) dX12_ofEntrant_110 ⟨Nat.zero_le _, Nat.zero_le _⟩ ?_
    exact W.iret (v := x13) hx hb hr (fun t ht hW => ⟨x13, rfl, some_in h, ht⟩) (fun q hq => nomatch hq) dX12_ofEntrant_113
  have h := ite_n c4 h
  by_cases c5 : p2 = (5 : Int32)
  · have h := ite_p c5 h
    refine lv_tableIn (tgt := 114) (off := 113) hx hb dX12_ofEntrant_1 (by rw [c5]; decide) (by rw [c5]; decide) (by rw [c5]; rfl) (by decide) ?_
    refine lv_aload_n hx hb dX12_ofEntrant_114 rfl (lv_at hl 0 rfl) ?_
    refine lv_iload_n hx hb dX12_ofEntrant_115 rfl (lv_at hl 1 rfl) ?_
    obtain ⟨x15, e16, h⟩ := bd_some h
    refine pcV (As := [.int p1]) (rest := []) (q0 := 0) (qX12_isComplete l D cy a o S p1 x15 e16) ⟨hx, hb, hml, hown, hts⟩ (cwV 1 hts gX12_ofEntrant_X12_isComplete rfl rfl rfl (by decide +kernel) ⟨Nat.le_of_ble_eq_true rfl, Nat.le_of_ble_eq_true rfl⟩) hG hP rfl rfl rfl hl.1 rfl (Nat.le_of_ble_eq_true rfl) dX12_ofEntrant_116 ⟨Nat.zero_le _, Nat.zero_le _⟩ ?_
    obtain ⟨j18, hj18, h⟩ := jn_elim h
    have Jj18 : ∀ (x17 : Int32) (ls : Array Slot), j18 x17 = some rs → lv_has ls 3 [] → W p l e (headSpec wsX12_ofEntrant ({ frames := 6, cells := 0, slots := 0, locals := 135 } : Room)).room s m ([.ref (a o), .int p1, .int p2] : List Value).toArray below meth c s.heap [] 0 0 (MQ below (vp_Si (fun z => z = rs)) ([.ref (a o), .int p1, .int p2] : List Value).toArray s 0 0 (fun _ => False)) (F0 m 127 ls [.int x17]) := by
      intro x17 ls h hl
      rw [hj18] at h
      exact W.iret (v := x17) hx hb hr (fun t ht hW => ⟨x17, rfl, some_in h, ht⟩) (fun q hq => nomatch hq) dX12_ofEntrant_127
    refine lv_if_eq (tgt := 126) hx hb dX12_ofEntrant_119 (by decide) (fun cc => ?_) (fun cc => ?_)
    · have h := ite_p cc h
      refine lv_iconst (v := (0 : Int32)) hx hb dX12_ofEntrant_126 (by decide) ?_
      exact Jj18 (0 : Int32) ls h (lv_sub hl [] rfl)
    · have h := ite_n cc h
      refine lv_iconst (v := (1 : Int32)) hx hb dX12_ofEntrant_122 (by decide) ?_
      refine lv_goto (tgt := 127) hx hb dX12_ofEntrant_123 (by decide) ?_
      exact Jj18 (1 : Int32) ls h (lv_sub hl [] rfl)
  have h := ite_n c5 h
  by_cases c6 : p2 = (6 : Int32)
  · have h := ite_p c6 h
    refine lv_tableIn (tgt := 128) (off := 127) hx hb dX12_ofEntrant_1 (by rw [c6]; decide) (by rw [c6]; decide) (by rw [c6]; rfl) (by decide) ?_
    refine lv_aload_n hx hb dX12_ofEntrant_128 rfl (lv_at hl 0 rfl) ?_
    refine va_get (D := D) (ci := 12) (v := .ref (a (o + 1))) (C := RX12) (T := TX12) (N := 12) hx hb hts hinX12 hown hK hP 0 rfl rfl 0 (by decide) hf7 (fun _ h9 => h9) rfl dX12_ofEntrant_129 ?_
    refine lv_sipush (v := (654 : Int32)) hx hb dX12_ofEntrant_132 (by decide) ?_
    refine lv_iload_n hx hb dX12_ofEntrant_135 rfl (lv_at hl 1 rfl) ?_
    refine lv_iadd hx hb dX12_ofEntrant_136 ?_
    obtain ⟨g19, h⟩ := gd_some h
    refine r_ald (f := (gX12_m S)) (n := 714) (v := ((gX12_m S) ((((654 : Int32) + p1)).toNatClampNeg))) hx hb hK hP 1 0 rfl rfl (gIn_in g19) rfl dX12_ofEntrant_137 ?_
    exact W.iret (v := ((gX12_m S) ((((654 : Int32) + p1)).toNatClampNeg))) hx hb hr (fun t ht hW => ⟨((gX12_m S) ((((654 : Int32) + p1)).toNatClampNeg)), rfl, some_in h, ht⟩) (fun q hq => nomatch hq) dX12_ofEntrant_138
  have h := ite_n c6 h
  refine lv_tableOut (tgt := 139) hx hb dX12_ofEntrant_1 (by have n0 := lv_neT (a := 0) c0 (by decide); have n1 := lv_neT (a := 1) c1 (by decide); have n2 := lv_neT (a := 2) c2 (by decide); have n3 := lv_neT (a := 3) c3 (by decide); have n4 := lv_neT (a := 4) c4 (by decide); have n5 := lv_neT (a := 5) c5 (by decide); have n6 := lv_neT (a := 6) c6 (by decide); omega) (by decide) ?_
  refine lv_aload_n hx hb dX12_ofEntrant_139 rfl (lv_at hl 0 rfl) ?_
  refine va_get (D := D) (ci := 12) (v := .ref (a (o + 1))) (C := RX12) (T := TX12) (N := 12) hx hb hts hinX12 hown hK hP 0 rfl rfl 0 (by decide) hf7 (fun _ h9 => h9) rfl dX12_ofEntrant_140 ?_
  refine lv_sipush (v := (654 : Int32)) hx hb dX12_ofEntrant_143 (by decide) ?_
  refine lv_iload_n hx hb dX12_ofEntrant_146 rfl (lv_at hl 1 rfl) ?_
  refine lv_iadd hx hb dX12_ofEntrant_147 ?_
  obtain ⟨g20, h⟩ := gd_some h
  refine r_ald (f := (gX12_m S)) (n := 714) (v := ((gX12_m S) ((((654 : Int32) + p1)).toNatClampNeg))) hx hb hK hP 1 0 rfl rfl (gIn_in g20) rfl dX12_ofEntrant_148 ?_
  refine lv_iconst (v := (1 : Int32)) hx hb dX12_ofEntrant_149 (by decide) ?_
  obtain ⟨j22, hj22, h⟩ := jn_elim h
  have Jj22 : ∀ (x21 : Int32) (ls : Array Slot), j22 x21 = some rs → lv_has ls 3 [] → W p l e (headSpec wsX12_ofEntrant ({ frames := 6, cells := 0, slots := 0, locals := 135 } : Room)).room s m ([.ref (a o), .int p1, .int p2] : List Value).toArray below meth c s.heap [] 0 0 (MQ below (vp_Si (fun z => z = rs)) ([.ref (a o), .int p1, .int p2] : List Value).toArray s 0 0 (fun _ => False)) (F0 m 166 ls [.int x21]) := by
    intro x21 ls h hl
    rw [hj22] at h
    exact W.iret (v := x21) hx hb hr (fun t ht hW => ⟨x21, rfl, some_in h, ht⟩) (fun q hq => nomatch hq) dX12_ofEntrant_166
  refine lv_icmp_ne (tgt := 165) hx hb dX12_ofEntrant_150 (by decide) (fun cc => ?_) (fun cc => ?_)
  · have h := ite_n cc h
    refine lv_iconst (v := (-1 : Int32)) hx hb dX12_ofEntrant_165 (by decide) ?_
    exact Jj22 (-1 : Int32) ls h (lv_sub hl [] rfl)
  · have h := ite_p cc h
    refine lv_aload_n hx hb dX12_ofEntrant_153 rfl (lv_at hl 0 rfl) ?_
    refine lv_sipush (v := (570 : Int32)) hx hb dX12_ofEntrant_154 (by decide) ?_
    refine lv_iload_n hx hb dX12_ofEntrant_157 rfl (lv_at hl 1 rfl) ?_
    refine lv_iconst (v := (-1 : Int32)) hx hb dX12_ofEntrant_158 (by decide) ?_
    obtain ⟨x23, e24, h⟩ := bd_some h
    refine pcV (As := [.int (570 : Int32), .int p1, .int (-1 : Int32)]) (rest := []) (q0 := 0) (qX12_mean l D cy a o S (570 : Int32) p1 (-1 : Int32) x23 e24) ⟨hx, hb, hml, hown, hts⟩ (cwV 3 hts gX12_ofEntrant_X12_mean rfl rfl rfl (by decide +kernel) ⟨Nat.le_of_ble_eq_true rfl, Nat.le_of_ble_eq_true rfl⟩) hG hP rfl rfl rfl hl.1 rfl (Nat.le_of_ble_eq_true rfl) dX12_ofEntrant_159 ⟨Nat.zero_le _, Nat.zero_le _⟩ ?_
    refine lv_goto (tgt := 166) hx hb dX12_ofEntrant_162 (by decide) ?_
    exact Jj22 x23 ls h (lv_sub hl [] rfl)
set_option maxHeartbeats 4000000 in
set_option maxRecDepth 100000 in
theorem qX12_entrant (l : Launch) (D : va_G) (cy : Nat → ClassId) (a : Nat → Nat) (o : Nat) (S : SX12) (p1 : Int32) (p2 : Int32) (sz : Nat) (rs : Int32 × SX12) (h : DX12_entrant S p1 p2 = some rs) : Met l yX12_entrant wsX12_entrant ({ frames := 7, cells := 0, slots := 0, locals := 157 } : Room) (mP D cy sz [.ref (a o), .int p1, .int p2] (wX12 cy a o S)) (va_Qi (fun r (u : SX12) => (r, u) = rs) (fun u t => mB D sz (wX12 cy a o S) (wX12 cy a o u) t) (va_A (wX12 cy a o S) sz)) 0 0 (va_A (wX12 cy a o S) sz) := by
  refine Met.ofW (cc := cX12_entrant) (maxL := 3) (ret := (some .int)) (by decide) rfl ?_
  intro p e s m args below meth c s₁ B hml hv
  obtain ⟨rfl, hsz, hP, hG, hD0⟩ := hv
  have hx := B.exec
  have hb := B.bytes
  have hr := B.returns
  have hts := atoms_spec (ws := wsX12_entrant) B.pre
  have hown : s.vm.findClass RX12 = some m.cls := findClass_of_methodNamed B.named
  have hlocks := B.notSynchronized
  have hK := hG.1
  subst hsz
  have hD := hD0.self (sz := s.heap.size)
  have hA : ∀ q : Nat, s.heap.size ≤ q → (va_A (wX12 cy a o S) s.heap.size) q := fun q h => Or.inr h
  have hS : va_S (va_A (wX12 cy a o S) s.heap.size) s.heap s.heap [] := va_S.rf
  have hinX12 := (by decide +kernel : ∀ w ∈ wsX120, w ∈ wsX12_entrant)
  have hf31 := hts (.fieldLink RX12 31 "PianoRoundsModel" "code" "I") (by decide +kernel)
  have hl := lv_entry ([.ref (a o), .int p1, .int p2]) (n := 3) (Nat.le_of_ble_eq_true rfl)
  rw [lg_entry_eq]
  generalize (lg_sl ([.ref (a o), .int p1, .int p2]) ++ List.replicate (3 - (lg_sl ([.ref (a o), .int p1, .int p2])).length) Slot.unset).toArray = ls at hl ⊢
  have hl : lv_has ls 3 [(0, .ref (a o)), (1, .int p1), (2, .int p2)] := hl
  rw [DX12_entrant] at h
  refine lv_aload_n hx hb dX12_entrant_0 rfl (lv_at hl 0 rfl) ?_
  refine lv_aload_n hx hb dX12_entrant_1 rfl (lv_at hl 0 rfl) ?_
  refine lv_iload_n hx hb dX12_entrant_2 rfl (lv_at hl 1 rfl) ?_
  obtain ⟨x1, e2, h⟩ := bd_some h
  refine pcV (As := [.int p1]) (rest := [.ref (a o)]) (q0 := 0) (qX12_isEntrant l D cy a o S p1 x1 e2) ⟨hx, hb, hml, hown, hts⟩ (cwV 1 hts gX12_entrant_X12_isEntrant rfl rfl rfl (by decide +kernel) ⟨Nat.le_of_ble_eq_true rfl, Nat.le_of_ble_eq_true rfl⟩) hG hP rfl rfl rfl hl.1 rfl (Nat.le_of_ble_eq_true rfl) dX12_entrant_3 ⟨Nat.zero_le _, Nat.zero_le _⟩ ?_
  obtain ⟨j4, hj4, h⟩ := jn_elim h
  have Jj4 : ∀ (x3 : Int32) (ls : Array Slot), j4 x3 = some rs → lv_has ls 3 [(0, .ref (a o)), (1, .int p1), (2, .int p2)] → W p l e (headSpec wsX12_entrant ({ frames := 7, cells := 0, slots := 0, locals := 157 } : Room)).room s m ([.ref (a o), .int p1, .int p2] : List Value).toArray below meth c s.heap [] 0 0 (MQ below (va_Qi (fun r (u : SX12) => (r, u) = rs) (fun u t => mB D s.heap.size (wX12 cy a o S) (wX12 cy a o u) t) (va_A (wX12 cy a o S) s.heap.size)) ([.ref (a o), .int p1, .int p2] : List Value).toArray s 0 0 (va_A (wX12 cy a o S) s.heap.size)) (F0 m 28 ls [.int x3, .ref (a o)]) := by
    intro x3 ls h hl
    rw [hj4] at h
    refine va_put (D := D) (ci := 12) (v := .int x3) (ty := .int) (C := RX12) (T := TX12) (N := 12) hx hb hts hinX12 tyX12 tyX12_ok nmX12 hown hK hP hD hS 0 rfl rfl 5 (by decide) hf31 (fun _ h9 => h9) rfl (by decide +kernel) rfl rfl (Nat.le_of_ble_eq_true rfl) dX12_entrant_28 (fun H locs hP hD hS => ?_)
    have hP : va_P D vwCl (wX12 cy a o (uX12_code S x3)) H := hP
    have hD : va_D (va_A (wX12 cy a o S) s.heap.size) (wX12 cy a o (uX12_code S x3)) := hD
    obtain ⟨S5, eS6, h⟩ := lt_elim h
    have hP : va_P D vwCl (wX12 cy a o S5) H := by rw [eS6]; exact hP
    have hD : va_D (va_A (wX12 cy a o S) s.heap.size) (wX12 cy a o S5) := by rw [eS6]; exact hD
    refine lv_aload_n hx hb dX12_entrant_31 rfl (lv_at hl 0 rfl) ?_
    refine va_get (D := D) (ci := 12) (v := .int (gX12_code S5)) (C := RX12) (T := TX12) (N := 12) hx hb hts hinX12 hown hK hP 0 rfl rfl 5 (by decide) hf31 (fun _ h9 => h9) rfl dX12_entrant_32 ?_
    obtain ⟨j8, hj8, h⟩ := jn_elim h
    have Jj8 : ∀ (x7 : Int32) (ls : Array Slot), j8 x7 = some rs → lv_has ls 3 [] → W p l e (headSpec wsX12_entrant ({ frames := 7, cells := 0, slots := 0, locals := 157 } : Room)).room s m ([.ref (a o), .int p1, .int p2] : List Value).toArray below meth c H locs 0 0 (MQ below (va_Qi (fun r (u : SX12) => (r, u) = rs) (fun u t => mB D s.heap.size (wX12 cy a o S) (wX12 cy a o u) t) (va_A (wX12 cy a o S) s.heap.size)) ([.ref (a o), .int p1, .int p2] : List Value).toArray s 0 0 (va_A (wX12 cy a o S) s.heap.size)) (F0 m 48 ls [.int x7]) := by
      intro x7 ls h hl
      rw [hj8] at h
      exact W.iret (v := x7) hx hb hr (fun t ht hW => ⟨⟨x7, S5, rfl, some_in h, by rw [ht]; exact hP, hD⟩, hS.F ht⟩) hS.2.2 dX12_entrant_48
    refine lv_if_eq (tgt := 42) hx hb dX12_entrant_35 (by decide) (fun cc => ?_) (fun cc => ?_)
    · have h := ite_p cc h
      refine lv_aload_n hx hb dX12_entrant_42 rfl (lv_at hl 0 rfl) ?_
      refine lv_iload_n hx hb dX12_entrant_43 rfl (lv_at hl 1 rfl) ?_
      refine lv_iload_n hx hb dX12_entrant_44 rfl (lv_at hl 2 rfl) ?_
      obtain ⟨x9, e10, h⟩ := bd_some h
      refine pcV (As := [.int p1, .int p2]) (rest := []) (q0 := 0) (qX12_ofEntrant l D cy a o S5 p1 p2 x9 e10) ⟨hx, hb, hml, hown, hts⟩ (cwV 2 hts gX12_entrant_X12_ofEntrant rfl rfl rfl (by decide +kernel) ⟨Nat.le_of_ble_eq_true rfl, Nat.le_of_ble_eq_true rfl⟩) hG hP rfl rfl rfl hl.1 rfl (Nat.le_of_ble_eq_true rfl) dX12_entrant_45 ⟨Nat.zero_le _, Nat.zero_le _⟩ ?_
      exact Jj8 x9 ls h (lv_sub hl [] rfl)
    · have h := ite_n cc h
      refine lv_iconst (v := (0 : Int32)) hx hb dX12_entrant_38 (by decide) ?_
      refine lv_goto (tgt := 48) hx hb dX12_entrant_39 (by decide) ?_
      exact Jj8 (0 : Int32) ls h (lv_sub hl [] rfl)
  refine lv_if_ne (tgt := 13) hx hb dX12_entrant_6 (by decide) (fun cc => ?_) (fun cc => ?_)
  · have h := ite_n cc h
    refine lv_iload_n hx hb dX12_entrant_13 rfl (lv_at hl 2 rfl) ?_
    refine lv_iconst (v := (0 : Int32)) hx hb dX12_entrant_14 (by decide) ?_
    refine lv_bipush (v := (7 : Int32)) hx hb dX12_entrant_15 (by decide) ?_
    obtain ⟨x11, e12, h⟩ := bd_some h
    refine pcS (As := [.int p2, .int (0 : Int32), .int (7 : Int32)]) (rest := [.ref (a o)]) (qX12_in l D cy  p2 (0 : Int32) (7 : Int32) x11 e12) ⟨hx, hb, hml, hown, hts⟩ (va_cwS 3 hts gX12_entrant_X12_in rfl rfl rfl (by decide +kernel) ⟨Nat.le_of_ble_eq_true rfl, Nat.le_of_ble_eq_true rfl⟩) hG (hP.sub [] rfl) rfl hl.1 rfl (Nat.le_of_ble_eq_true rfl) dX12_entrant_17 ⟨Nat.zero_le _, Nat.zero_le _⟩ ?_
    refine lv_if_eq (tgt := 27) hx hb dX12_entrant_20 (by decide) (fun cc => ?_) (fun cc => ?_)
    · have h := ite_p cc h
      refine lv_iconst (v := (2 : Int32)) hx hb dX12_entrant_27 (by decide) ?_
      exact Jj4 (2 : Int32) ls h (lv_sub hl [0, 1, 2] rfl)
    · have h := ite_n cc h
      refine lv_iconst (v := (0 : Int32)) hx hb dX12_entrant_23 (by decide) ?_
      refine lv_goto (tgt := 28) hx hb dX12_entrant_24 (by decide) ?_
      exact Jj4 (0 : Int32) ls h (lv_sub hl [0, 1, 2] rfl)
  · have h := ite_p cc h
    refine lv_iconst (v := (1 : Int32)) hx hb dX12_entrant_9 (by decide) ?_
    refine lv_goto (tgt := 28) hx hb dX12_entrant_10 (by decide) ?_
    exact Jj4 (1 : Int32) ls h (lv_sub hl [0, 1, 2] rfl)
set_option maxHeartbeats 4000000 in
set_option maxRecDepth 100000 in
theorem qX12_marked (l : Launch) (D : va_G) (cy : Nat → ClassId) (a : Nat → Nat) (o : Nat) (S : SX12) (p1 : Int32) (p2 : Int32) (p3 : Int32) (sz : Nat) (rs : Int32 × SX12) (h : DX12_marked S p1 p2 p3 = some rs) : Met l yX12_marked wsX12_marked ({ frames := 2, cells := 0, slots := 0, locals := 43 } : Room) (mP D cy sz [.ref (a o), .int p1, .int p2, .int p3] (wX12 cy a o S)) (va_Qi (fun r (u : SX12) => (r, u) = rs) (fun u t => mB D sz (wX12 cy a o S) (wX12 cy a o u) t) (va_A (wX12 cy a o S) sz)) 0 0 (va_A (wX12 cy a o S) sz) := by
  refine Met.ofW (cc := cX12_marked) (maxL := 4) (ret := (some .int)) (by decide) rfl ?_
  intro p e s m args below meth c s₁ B hml hv
  obtain ⟨rfl, hsz, hP, hG, hD0⟩ := hv
  have hx := B.exec
  have hb := B.bytes
  have hr := B.returns
  have hts := atoms_spec (ws := wsX12_marked) B.pre
  have hown : s.vm.findClass RX12 = some m.cls := findClass_of_methodNamed B.named
  have hlocks := B.notSynchronized
  have hK := hG.1
  subst hsz
  have hD := hD0.self (sz := s.heap.size)
  have hA : ∀ q : Nat, s.heap.size ≤ q → (va_A (wX12 cy a o S) s.heap.size) q := fun q h => Or.inr h
  have hS : va_S (va_A (wX12 cy a o S) s.heap.size) s.heap s.heap [] := va_S.rf
  have hinX12 := (by decide +kernel : ∀ w ∈ wsX120, w ∈ wsX12_marked)
  have hf31 := hts (.fieldLink RX12 31 "PianoRoundsModel" "code" "I") (by decide +kernel)
  have hf7 := hts (.fieldLink RX12 7 "PianoRoundsModel" "m" "[I") (by decide +kernel)
  have hl := lv_entry ([.ref (a o), .int p1, .int p2, .int p3]) (n := 4) (Nat.le_of_ble_eq_true rfl)
  rw [lg_entry_eq]
  generalize (lg_sl ([.ref (a o), .int p1, .int p2, .int p3]) ++ List.replicate (4 - (lg_sl ([.ref (a o), .int p1, .int p2, .int p3])).length) Slot.unset).toArray = ls at hl ⊢
  have hl : lv_has ls 4 [(0, .ref (a o)), (1, .int p1), (2, .int p2), (3, .int p3)] := hl
  rw [DX12_marked] at h
  refine lv_aload_n hx hb dX12_marked_0 rfl (lv_at hl 0 rfl) ?_
  refine lv_aload_n hx hb dX12_marked_1 rfl (lv_at hl 0 rfl) ?_
  refine lv_iload_n hx hb dX12_marked_2 rfl (lv_at hl 1 rfl) ?_
  obtain ⟨x1, e2, h⟩ := bd_some h
  refine pcV (As := [.int p1]) (rest := [.ref (a o)]) (q0 := 0) (qX12_isJuror l D cy a o S p1 x1 e2) ⟨hx, hb, hml, hown, hts⟩ (cwV 1 hts gX12_marked_X12_isJuror rfl rfl rfl (by decide +kernel) ⟨Nat.le_of_ble_eq_true rfl, Nat.le_of_ble_eq_true rfl⟩) hG hP rfl rfl rfl hl.1 rfl (Nat.le_of_ble_eq_true rfl) dX12_marked_3 ⟨Nat.zero_le _, Nat.zero_le _⟩ ?_
  obtain ⟨j4, hj4, h⟩ := jn_elim h
  have Jj4 : ∀ (x3 : Int32) (ls : Array Slot), j4 x3 = some rs → lv_has ls 4 [(0, .ref (a o)), (1, .int p1), (2, .int p2), (3, .int p3)] → W p l e (headSpec wsX12_marked ({ frames := 2, cells := 0, slots := 0, locals := 43 } : Room)).room s m ([.ref (a o), .int p1, .int p2, .int p3] : List Value).toArray below meth c s.heap [] 0 0 (MQ below (va_Qi (fun r (u : SX12) => (r, u) = rs) (fun u t => mB D s.heap.size (wX12 cy a o S) (wX12 cy a o u) t) (va_A (wX12 cy a o S) s.heap.size)) ([.ref (a o), .int p1, .int p2, .int p3] : List Value).toArray s 0 0 (va_A (wX12 cy a o S) s.heap.size)) (F0 m 22 ls [.int x3, .ref (a o)]) := by
    intro x3 ls h hl
    rw [hj4] at h
    refine va_put (D := D) (ci := 12) (v := .int x3) (ty := .int) (C := RX12) (T := TX12) (N := 12) hx hb hts hinX12 tyX12 tyX12_ok nmX12 hown hK hP hD hS 0 rfl rfl 5 (by decide) hf31 (fun _ h9 => h9) rfl (by decide +kernel) rfl rfl (Nat.le_of_ble_eq_true rfl) dX12_marked_22 (fun H locs hP hD hS => ?_)
    have hP : va_P D vwCl (wX12 cy a o (uX12_code S x3)) H := hP
    have hD : va_D (va_A (wX12 cy a o S) s.heap.size) (wX12 cy a o (uX12_code S x3)) := hD
    obtain ⟨S5, eS6, h⟩ := lt_elim h
    have hP : va_P D vwCl (wX12 cy a o S5) H := by rw [eS6]; exact hP
    have hD : va_D (va_A (wX12 cy a o S) s.heap.size) (wX12 cy a o S5) := by rw [eS6]; exact hD
    refine lv_aload_n hx hb dX12_marked_25 rfl (lv_at hl 0 rfl) ?_
    refine va_get (D := D) (ci := 12) (v := .int (gX12_code S5)) (C := RX12) (T := TX12) (N := 12) hx hb hts hinX12 hown hK hP 0 rfl rfl 5 (by decide) hf31 (fun _ h9 => h9) rfl dX12_marked_26 ?_
    obtain ⟨j8, hj8, h⟩ := jn_elim h
    have Jj8 : ∀ (x7 : Int32) (ls : Array Slot), j8 x7 = some rs → lv_has ls 4 [] → W p l e (headSpec wsX12_marked ({ frames := 2, cells := 0, slots := 0, locals := 43 } : Room)).room s m ([.ref (a o), .int p1, .int p2, .int p3] : List Value).toArray below meth c H locs 0 0 (MQ below (va_Qi (fun r (u : SX12) => (r, u) = rs) (fun u t => mB D s.heap.size (wX12 cy a o S) (wX12 cy a o u) t) (va_A (wX12 cy a o S) s.heap.size)) ([.ref (a o), .int p1, .int p2, .int p3] : List Value).toArray s 0 0 (va_A (wX12 cy a o S) s.heap.size)) (F0 m 60 ls [.int x7]) := by
      intro x7 ls h hl
      rw [hj8] at h
      exact W.iret (v := x7) hx hb hr (fun t ht hW => ⟨⟨x7, S5, rfl, some_in h, by rw [ht]; exact hP, hD⟩, hS.F ht⟩) hS.2.2 dX12_marked_60
    refine lv_if_eq (tgt := 36) hx hb dX12_marked_29 (by decide) (fun cc => ?_) (fun cc => ?_)
    · have h := ite_p cc h
      refine lv_aload_n hx hb dX12_marked_36 rfl (lv_at hl 0 rfl) ?_
      refine va_get (D := D) (ci := 12) (v := .ref (a (o + 1))) (C := RX12) (T := TX12) (N := 12) hx hb hts hinX12 hown hK hP 0 rfl rfl 0 (by decide) hf7 (fun _ h9 => h9) rfl dX12_marked_37 ?_
      refine lv_iload_n hx hb dX12_marked_40 rfl (lv_at hl 3 rfl) ?_
      obtain ⟨j10, hj10, h⟩ := jn_elim h
      have Jj10 : ∀ (x9 : Int32) (ls : Array Slot), j10 x9 = some rs → lv_has ls 4 [(1, .int p1), (2, .int p2)] → W p l e (headSpec wsX12_marked ({ frames := 2, cells := 0, slots := 0, locals := 43 } : Room)).room s m ([.ref (a o), .int p1, .int p2, .int p3] : List Value).toArray below meth c H locs 0 0 (MQ below (va_Qi (fun r (u : SX12) => (r, u) = rs) (fun u t => mB D s.heap.size (wX12 cy a o S) (wX12 cy a o u) t) (va_A (wX12 cy a o S) s.heap.size)) ([.ref (a o), .int p1, .int p2, .int p3] : List Value).toArray s 0 0 (va_A (wX12 cy a o S) s.heap.size)) (F0 m 53 ls [.int x9, .ref (a (o + 1))]) := by
        intro x9 ls h hl
        rw [hj10] at h
        refine lv_iload_n hx hb dX12_marked_53 rfl (lv_at hl 0 rfl) ?_
        refine lv_iload_n hx hb dX12_marked_54 rfl (lv_at hl 1 rfl) ?_
        obtain ⟨x11, e12, h⟩ := bd_some h
        refine pcS (As := [.int p1, .int p2]) (rest := [.int x9, .ref (a (o + 1))]) (qX12_seat l D cy  p1 p2 x11 e12) ⟨hx, hb, hml, hown, hts⟩ (va_cwS 2 hts gX12_marked_X12_seat rfl rfl rfl (by decide +kernel) ⟨Nat.le_of_ble_eq_true rfl, Nat.le_of_ble_eq_true rfl⟩) hG (hP.sub [] rfl) rfl hl.1 rfl (Nat.le_of_ble_eq_true rfl) dX12_marked_55 ⟨Nat.zero_le _, Nat.zero_le _⟩ ?_
        refine lv_iadd hx hb dX12_marked_58 ?_
        obtain ⟨g13, h⟩ := gd_some h
        refine r_ald (f := (gX12_m S5)) (n := 714) (v := ((gX12_m S5) (((x9 + x11)).toNatClampNeg))) hx hb hK hP 1 0 rfl rfl (gIn_in g13) rfl dX12_marked_59 ?_
        exact Jj8 ((gX12_m S5) (((x9 + x11)).toNatClampNeg)) ls h (lv_sub hl [] rfl)
      refine lv_if_eq (tgt := 50) hx hb dX12_marked_41 (by decide) (fun cc => ?_) (fun cc => ?_)
      · have h := ite_p cc h
        refine lv_sipush (v := (486 : Int32)) hx hb dX12_marked_50 (by decide) ?_
        exact Jj10 (486 : Int32) ls h (lv_sub hl [1, 2] rfl)
      · have h := ite_n cc h
        refine lv_sipush (v := (570 : Int32)) hx hb dX12_marked_44 (by decide) ?_
        refine lv_goto (tgt := 53) hx hb dX12_marked_47 (by decide) ?_
        exact Jj10 (570 : Int32) ls h (lv_sub hl [1, 2] rfl)
    · have h := ite_n cc h
      refine lv_iconst (v := (0 : Int32)) hx hb dX12_marked_32 (by decide) ?_
      refine lv_goto (tgt := 60) hx hb dX12_marked_33 (by decide) ?_
      exact Jj8 (0 : Int32) ls h (lv_sub hl [] rfl)
  obtain ⟨j14, hj14, h⟩ := jn_elim h
  have Jj14 : ∀ (ls : Array Slot), j14 () = some rs → lv_has ls 4 [(0, .ref (a o)), (1, .int p1), (2, .int p2), (3, .int p3)] → W p l e (headSpec wsX12_marked ({ frames := 2, cells := 0, slots := 0, locals := 43 } : Room)).room s m ([.ref (a o), .int p1, .int p2, .int p3] : List Value).toArray below meth c s.heap [] 0 0 (MQ below (va_Qi (fun r (u : SX12) => (r, u) = rs) (fun u t => mB D s.heap.size (wX12 cy a o S) (wX12 cy a o u) t) (va_A (wX12 cy a o S) s.heap.size)) ([.ref (a o), .int p1, .int p2, .int p3] : List Value).toArray s 0 0 (va_A (wX12 cy a o S) s.heap.size)) (F0 m 21 ls [.ref (a o)]) := by
    intro ls h hl
    rw [hj14] at h
    refine lv_iconst (v := (1 : Int32)) hx hb dX12_marked_21 (by decide) ?_
    exact Jj4 (1 : Int32) ls h (lv_sub hl [0, 1, 2, 3] rfl)
  refine lv_if_eq (tgt := 21) hx hb dX12_marked_6 (by decide) (fun cc => ?_) (fun cc => ?_)
  · have h := ite_p cc h
    exact Jj14  ls h (lv_sub hl [0, 1, 2, 3] rfl)
  · have h := ite_n cc h
    refine lv_aload_n hx hb dX12_marked_9 rfl (lv_at hl 0 rfl) ?_
    refine lv_iload_n hx hb dX12_marked_10 rfl (lv_at hl 2 rfl) ?_
    obtain ⟨x15, e16, h⟩ := bd_some h
    refine pcV (As := [.int p2]) (rest := [.ref (a o)]) (q0 := 0) (qX12_isEntrant l D cy a o S p2 x15 e16) ⟨hx, hb, hml, hown, hts⟩ (cwV 1 hts gX12_marked_X12_isEntrant rfl rfl rfl (by decide +kernel) ⟨Nat.le_of_ble_eq_true rfl, Nat.le_of_ble_eq_true rfl⟩) hG hP rfl rfl rfl hl.1 rfl (Nat.le_of_ble_eq_true rfl) dX12_marked_11 ⟨Nat.zero_le _, Nat.zero_le _⟩ ?_
    refine lv_if_eq (tgt := 21) hx hb dX12_marked_14 (by decide) (fun cc => ?_) (fun cc => ?_)
    · have h := ite_p cc h
      exact Jj14  ls h (lv_sub hl [0, 1, 2, 3] rfl)
    · have h := ite_n cc h
      refine lv_iconst (v := (0 : Int32)) hx hb dX12_marked_17 (by decide) ?_
      refine lv_goto (tgt := 22) hx hb dX12_marked_18 (by decide) ?_
      exact Jj4 (0 : Int32) ls h (lv_sub hl [0, 1, 2, 3] rfl)
set_option maxHeartbeats 4000000 in
set_option maxRecDepth 100000 in
theorem qX12_history (l : Launch) (D : va_G) (cy : Nat → ClassId) (a : Nat → Nat) (o : Nat) (S : SX12) (p1 : Int32) (p2 : Int32) (sz : Nat) (rs : Int32 × SX12) (h : DX12_history S p1 p2 = some rs) : Met l yX12_history wsX12_history ({ frames := 2, cells := 0, slots := 0, locals := 43 } : Room) (mP D cy sz [.ref (a o), .int p1, .int p2] (wX12 cy a o S)) (va_Qi (fun r (u : SX12) => (r, u) = rs) (fun u t => mB D sz (wX12 cy a o S) (wX12 cy a o u) t) (va_A (wX12 cy a o S) sz)) 0 0 (va_A (wX12 cy a o S) sz) := by
  refine Met.ofW (cc := cX12_history) (maxL := 3) (ret := (some .int)) (by decide) rfl ?_
  intro p e s m args below meth c s₁ B hml hv
  obtain ⟨rfl, hsz, hP, hG, hD0⟩ := hv
  have hx := B.exec
  have hb := B.bytes
  have hr := B.returns
  have hts := atoms_spec (ws := wsX12_history) B.pre
  have hown : s.vm.findClass RX12 = some m.cls := findClass_of_methodNamed B.named
  have hlocks := B.notSynchronized
  have hK := hG.1
  subst hsz
  have hD := hD0.self (sz := s.heap.size)
  have hA : ∀ q : Nat, s.heap.size ≤ q → (va_A (wX12 cy a o S) s.heap.size) q := fun q h => Or.inr h
  have hS : va_S (va_A (wX12 cy a o S) s.heap.size) s.heap s.heap [] := va_S.rf
  have hinX12 := (by decide +kernel : ∀ w ∈ wsX120, w ∈ wsX12_history)
  have hf31 := hts (.fieldLink RX12 31 "PianoRoundsModel" "code" "I") (by decide +kernel)
  have hf7 := hts (.fieldLink RX12 7 "PianoRoundsModel" "m" "[I") (by decide +kernel)
  have hl := lv_entry ([.ref (a o), .int p1, .int p2]) (n := 3) (Nat.le_of_ble_eq_true rfl)
  rw [lg_entry_eq]
  generalize (lg_sl ([.ref (a o), .int p1, .int p2]) ++ List.replicate (3 - (lg_sl ([.ref (a o), .int p1, .int p2])).length) Slot.unset).toArray = ls at hl ⊢
  have hl : lv_has ls 3 [(0, .ref (a o)), (1, .int p1), (2, .int p2)] := hl
  rw [DX12_history] at h
  refine lv_aload_n hx hb dX12_history_0 rfl (lv_at hl 0 rfl) ?_
  refine lv_aload_n hx hb dX12_history_1 rfl (lv_at hl 0 rfl) ?_
  refine lv_iload_n hx hb dX12_history_2 rfl (lv_at hl 1 rfl) ?_
  obtain ⟨x1, e2, h⟩ := bd_some h
  refine pcV (As := [.int p1]) (rest := [.ref (a o)]) (q0 := 0) (qX12_isEntrant l D cy a o S p1 x1 e2) ⟨hx, hb, hml, hown, hts⟩ (cwV 1 hts gX12_history_X12_isEntrant rfl rfl rfl (by decide +kernel) ⟨Nat.le_of_ble_eq_true rfl, Nat.le_of_ble_eq_true rfl⟩) hG hP rfl rfl rfl hl.1 rfl (Nat.le_of_ble_eq_true rfl) dX12_history_3 ⟨Nat.zero_le _, Nat.zero_le _⟩ ?_
  obtain ⟨j4, hj4, h⟩ := jn_elim h
  have Jj4 : ∀ (x3 : Int32) (ls : Array Slot), j4 x3 = some rs → lv_has ls 3 [(0, .ref (a o)), (1, .int p1), (2, .int p2)] → W p l e (headSpec wsX12_history ({ frames := 2, cells := 0, slots := 0, locals := 43 } : Room)).room s m ([.ref (a o), .int p1, .int p2] : List Value).toArray below meth c s.heap [] 0 0 (MQ below (va_Qi (fun r (u : SX12) => (r, u) = rs) (fun u t => mB D s.heap.size (wX12 cy a o S) (wX12 cy a o u) t) (va_A (wX12 cy a o S) s.heap.size)) ([.ref (a o), .int p1, .int p2] : List Value).toArray s 0 0 (va_A (wX12 cy a o S) s.heap.size)) (F0 m 21 ls [.int x3, .ref (a o)]) := by
    intro x3 ls h hl
    rw [hj4] at h
    refine va_put (D := D) (ci := 12) (v := .int x3) (ty := .int) (C := RX12) (T := TX12) (N := 12) hx hb hts hinX12 tyX12 tyX12_ok nmX12 hown hK hP hD hS 0 rfl rfl 5 (by decide) hf31 (fun _ h9 => h9) rfl (by decide +kernel) rfl rfl (Nat.le_of_ble_eq_true rfl) dX12_history_21 (fun H locs hP hD hS => ?_)
    have hP : va_P D vwCl (wX12 cy a o (uX12_code S x3)) H := hP
    have hD : va_D (va_A (wX12 cy a o S) s.heap.size) (wX12 cy a o (uX12_code S x3)) := hD
    obtain ⟨S5, eS6, h⟩ := lt_elim h
    have hP : va_P D vwCl (wX12 cy a o S5) H := by rw [eS6]; exact hP
    have hD : va_D (va_A (wX12 cy a o S) s.heap.size) (wX12 cy a o S5) := by rw [eS6]; exact hD
    refine lv_aload_n hx hb dX12_history_24 rfl (lv_at hl 0 rfl) ?_
    refine va_get (D := D) (ci := 12) (v := .int (gX12_code S5)) (C := RX12) (T := TX12) (N := 12) hx hb hts hinX12 hown hK hP 0 rfl rfl 5 (by decide) hf31 (fun _ h9 => h9) rfl dX12_history_25 ?_
    obtain ⟨j8, hj8, h⟩ := jn_elim h
    have Jj8 : ∀ (x7 : Int32) (ls : Array Slot), j8 x7 = some rs → lv_has ls 3 [] → W p l e (headSpec wsX12_history ({ frames := 2, cells := 0, slots := 0, locals := 43 } : Room)).room s m ([.ref (a o), .int p1, .int p2] : List Value).toArray below meth c H locs 0 0 (MQ below (va_Qi (fun r (u : SX12) => (r, u) = rs) (fun u t => mB D s.heap.size (wX12 cy a o S) (wX12 cy a o u) t) (va_A (wX12 cy a o S) s.heap.size)) ([.ref (a o), .int p1, .int p2] : List Value).toArray s 0 0 (va_A (wX12 cy a o S) s.heap.size)) (F0 m 49 ls [.int x7]) := by
      intro x7 ls h hl
      rw [hj8] at h
      exact W.iret (v := x7) hx hb hr (fun t ht hW => ⟨⟨x7, S5, rfl, some_in h, by rw [ht]; exact hP, hD⟩, hS.F ht⟩) hS.2.2 dX12_history_49
    refine lv_if_eq (tgt := 35) hx hb dX12_history_28 (by decide) (fun cc => ?_) (fun cc => ?_)
    · have h := ite_p cc h
      refine lv_aload_n hx hb dX12_history_35 rfl (lv_at hl 0 rfl) ?_
      refine va_get (D := D) (ci := 12) (v := .ref (a (o + 1))) (C := RX12) (T := TX12) (N := 12) hx hb hts hinX12 hown hK hP 0 rfl rfl 0 (by decide) hf7 (fun _ h9 => h9) rfl dX12_history_36 ?_
      refine lv_sipush (v := (666 : Int32)) hx hb dX12_history_39 (by decide) ?_
      refine lv_iconst (v := (4 : Int32)) hx hb dX12_history_42 (by decide) ?_
      refine lv_iload_n hx hb dX12_history_43 rfl (lv_at hl 1 rfl) ?_
      refine lv_imul hx hb dX12_history_44 ?_
      refine lv_iadd hx hb dX12_history_45 ?_
      refine lv_iload_n hx hb dX12_history_46 rfl (lv_at hl 2 rfl) ?_
      refine lv_iadd hx hb dX12_history_47 ?_
      obtain ⟨g9, h⟩ := gd_some h
      refine r_ald (f := (gX12_m S5)) (n := 714) (v := ((gX12_m S5) (((((666 : Int32) + ((4 : Int32) * p1)) + p2)).toNatClampNeg))) hx hb hK hP 1 0 rfl rfl (gIn_in g9) rfl dX12_history_48 ?_
      exact Jj8 ((gX12_m S5) (((((666 : Int32) + ((4 : Int32) * p1)) + p2)).toNatClampNeg)) ls h (lv_sub hl [] rfl)
    · have h := ite_n cc h
      refine lv_iconst (v := (0 : Int32)) hx hb dX12_history_31 (by decide) ?_
      refine lv_goto (tgt := 49) hx hb dX12_history_32 (by decide) ?_
      exact Jj8 (0 : Int32) ls h (lv_sub hl [] rfl)
  obtain ⟨j10, hj10, h⟩ := jn_elim h
  have Jj10 : ∀ (ls : Array Slot), j10 () = some rs → lv_has ls 3 [(0, .ref (a o)), (1, .int p1), (2, .int p2)] → W p l e (headSpec wsX12_history ({ frames := 2, cells := 0, slots := 0, locals := 43 } : Room)).room s m ([.ref (a o), .int p1, .int p2] : List Value).toArray below meth c s.heap [] 0 0 (MQ below (va_Qi (fun r (u : SX12) => (r, u) = rs) (fun u t => mB D s.heap.size (wX12 cy a o S) (wX12 cy a o u) t) (va_A (wX12 cy a o S) s.heap.size)) ([.ref (a o), .int p1, .int p2] : List Value).toArray s 0 0 (va_A (wX12 cy a o S) s.heap.size)) (F0 m 20 ls [.ref (a o)]) := by
    intro ls h hl
    rw [hj10] at h
    refine lv_iconst (v := (1 : Int32)) hx hb dX12_history_20 (by decide) ?_
    exact Jj4 (1 : Int32) ls h (lv_sub hl [0, 1, 2] rfl)
  refine lv_if_eq (tgt := 20) hx hb dX12_history_6 (by decide) (fun cc => ?_) (fun cc => ?_)
  · have h := ite_p cc h
    exact Jj10  ls h (lv_sub hl [0, 1, 2] rfl)
  · have h := ite_n cc h
    refine lv_iload_n hx hb dX12_history_9 rfl (lv_at hl 2 rfl) ?_
    obtain ⟨x11, e12, h⟩ := bd_some h
    refine pcS (As := [.int p2]) (rest := [.ref (a o)]) (qX12_isRound l D cy  p2 x11 e12) ⟨hx, hb, hml, hown, hts⟩ (va_cwS 1 hts gX12_history_X12_isRound rfl rfl rfl (by decide +kernel) ⟨Nat.le_of_ble_eq_true rfl, Nat.le_of_ble_eq_true rfl⟩) hG (hP.sub [] rfl) rfl hl.1 rfl (Nat.le_of_ble_eq_true rfl) dX12_history_10 ⟨Nat.zero_le _, Nat.zero_le _⟩ ?_
    refine lv_if_eq (tgt := 20) hx hb dX12_history_13 (by decide) (fun cc => ?_) (fun cc => ?_)
    · have h := ite_p cc h
      exact Jj10  ls h (lv_sub hl [0, 1, 2] rfl)
    · have h := ite_n cc h
      refine lv_iconst (v := (0 : Int32)) hx hb dX12_history_16 (by decide) ?_
      refine lv_goto (tgt := 21) hx hb dX12_history_17 (by decide) ?_
      exact Jj4 (0 : Int32) ls h (lv_sub hl [0, 1, 2] rfl)
set_option maxHeartbeats 4000000 in
set_option maxRecDepth 100000 in
theorem qX12_stage (l : Launch) (D : va_G) (cy : Nat → ClassId) (a : Nat → Nat) (o : Nat) (S : SX12) (p1 : Int32) (sz : Nat) (rs : Int32 × SX12) (h : DX12_stage S p1 = some rs) : Met l yX12_stage wsX12_stage ({ frames := 1, cells := 0, slots := 0, locals := 22 } : Room) (mP D cy sz [.ref (a o), .int p1] (wX12 cy a o S)) (va_Qi (fun r (u : SX12) => (r, u) = rs) (fun u t => mB D sz (wX12 cy a o S) (wX12 cy a o u) t) (va_A (wX12 cy a o S) sz)) 0 0 (va_A (wX12 cy a o S) sz) := by
  refine Met.ofW (cc := cX12_stage) (maxL := 2) (ret := (some .int)) (by decide) rfl ?_
  intro p e s m args below meth c s₁ B hml hv
  obtain ⟨rfl, hsz, hP, hG, hD0⟩ := hv
  have hx := B.exec
  have hb := B.bytes
  have hr := B.returns
  have hts := atoms_spec (ws := wsX12_stage) B.pre
  have hown : s.vm.findClass RX12 = some m.cls := findClass_of_methodNamed B.named
  have hlocks := B.notSynchronized
  have hK := hG.1
  subst hsz
  have hD := hD0.self (sz := s.heap.size)
  have hA : ∀ q : Nat, s.heap.size ≤ q → (va_A (wX12 cy a o S) s.heap.size) q := fun q h => Or.inr h
  have hS : va_S (va_A (wX12 cy a o S) s.heap.size) s.heap s.heap [] := va_S.rf
  have hinX12 := (by decide +kernel : ∀ w ∈ wsX120, w ∈ wsX12_stage)
  have hf31 := hts (.fieldLink RX12 31 "PianoRoundsModel" "code" "I") (by decide +kernel)
  have hf7 := hts (.fieldLink RX12 7 "PianoRoundsModel" "m" "[I") (by decide +kernel)
  have hl := lv_entry ([.ref (a o), .int p1]) (n := 2) (Nat.le_of_ble_eq_true rfl)
  rw [lg_entry_eq]
  generalize (lg_sl ([.ref (a o), .int p1]) ++ List.replicate (2 - (lg_sl ([.ref (a o), .int p1])).length) Slot.unset).toArray = ls at hl ⊢
  have hl : lv_has ls 2 [(0, .ref (a o)), (1, .int p1)] := hl
  rw [DX12_stage] at h
  refine lv_aload_n hx hb dX12_stage_0 rfl (lv_at hl 0 rfl) ?_
  refine lv_iconst (v := (0 : Int32)) hx hb dX12_stage_1 (by decide) ?_
  refine va_put (D := D) (ci := 12) (v := .int (0 : Int32)) (ty := .int) (C := RX12) (T := TX12) (N := 12) hx hb hts hinX12 tyX12 tyX12_ok nmX12 hown hK hP hD hS 0 rfl rfl 5 (by decide) hf31 (fun _ h9 => h9) rfl (by decide +kernel) rfl rfl (Nat.le_of_ble_eq_true rfl) dX12_stage_2 (fun H locs hP hD hS => ?_)
  have hP : va_P D vwCl (wX12 cy a o (uX12_code S (0 : Int32))) H := hP
  have hD : va_D (va_A (wX12 cy a o S) s.heap.size) (wX12 cy a o (uX12_code S (0 : Int32))) := hD
  obtain ⟨S1, eS2, h⟩ := lt_elim h
  have hP : va_P D vwCl (wX12 cy a o S1) H := by rw [eS2]; exact hP
  have hD : va_D (va_A (wX12 cy a o S) s.heap.size) (wX12 cy a o S1) := by rw [eS2]; exact hD
  refine lv_iload_n hx hb dX12_stage_5 rfl (lv_at hl 1 rfl) ?_
  refine lv_iconst (v := (0 : Int32)) hx hb dX12_stage_6 (by decide) ?_
  refine lv_aload_n hx hb dX12_stage_7 rfl (lv_at hl 0 rfl) ?_
  refine va_get (D := D) (ci := 12) (v := .ref (a (o + 1))) (C := RX12) (T := TX12) (N := 12) hx hb hts hinX12 hown hK hP 0 rfl rfl 0 (by decide) hf7 (fun _ h9 => h9) rfl dX12_stage_8 ?_
  refine lv_bipush (v := (7 : Int32)) hx hb dX12_stage_11 (by decide) ?_
  refine r_ald (f := (gX12_m S1)) (n := 714) (v := ((gX12_m S1) 7)) hx hb hK hP 1 0 rfl rfl (vp_in_nI (n := 7) (N := 714) (by decide) (by decide)) (congrArg (gX12_m S1) (nI_clamp (n := 7) (by decide))) dX12_stage_13 ?_
  refine lv_iconst (v := (1 : Int32)) hx hb dX12_stage_14 (by decide) ?_
  refine lv_isub hx hb dX12_stage_15 ?_
  obtain ⟨x3, e4, h⟩ := bd_some h
  refine pcS (As := [.int p1, .int (0 : Int32), .int (((gX12_m S1) 7) - (1 : Int32))]) (rest := []) (qX12_in l D cy  p1 (0 : Int32) (((gX12_m S1) 7) - (1 : Int32)) x3 e4) ⟨hx, hb, hml, hown, hts⟩ (va_cwS 3 hts gX12_stage_X12_in rfl rfl rfl (by decide +kernel) ⟨Nat.le_of_ble_eq_true rfl, Nat.le_of_ble_eq_true rfl⟩) hG (hP.sub [] rfl) rfl hl.1 rfl (Nat.le_of_ble_eq_true rfl) dX12_stage_16 ⟨Nat.zero_le _, Nat.zero_le _⟩ ?_
  obtain ⟨j6, hj6, h⟩ := jn_elim h
  have Jj6 : ∀ (x5 : Int32) (ls : Array Slot), j6 x5 = some rs → lv_has ls 2 [] → W p l e (headSpec wsX12_stage ({ frames := 1, cells := 0, slots := 0, locals := 22 } : Room)).room s m ([.ref (a o), .int p1] : List Value).toArray below meth c H locs 0 0 (MQ below (va_Qi (fun r (u : SX12) => (r, u) = rs) (fun u t => mB D s.heap.size (wX12 cy a o S) (wX12 cy a o u) t) (va_A (wX12 cy a o S) s.heap.size)) ([.ref (a o), .int p1] : List Value).toArray s 0 0 (va_A (wX12 cy a o S) s.heap.size)) (F0 m 36 ls [.int x5]) := by
    intro x5 ls h hl
    rw [hj6] at h
    exact W.iret (v := x5) hx hb hr (fun t ht hW => ⟨⟨x5, S1, rfl, some_in h, by rw [ht]; exact hP, hD⟩, hS.F ht⟩) hS.2.2 dX12_stage_36
  refine lv_if_eq (tgt := 35) hx hb dX12_stage_19 (by decide) (fun cc => ?_) (fun cc => ?_)
  · have h := ite_p cc h
    refine lv_iconst (v := (-1 : Int32)) hx hb dX12_stage_35 (by decide) ?_
    exact Jj6 (-1 : Int32) ls h (lv_sub hl [] rfl)
  · have h := ite_n cc h
    refine lv_aload_n hx hb dX12_stage_22 rfl (lv_at hl 0 rfl) ?_
    refine va_get (D := D) (ci := 12) (v := .ref (a (o + 1))) (C := RX12) (T := TX12) (N := 12) hx hb hts hinX12 hown hK hP 0 rfl rfl 0 (by decide) hf7 (fun _ h9 => h9) rfl dX12_stage_23 ?_
    refine lv_sipush (v := (462 : Int32)) hx hb dX12_stage_26 (by decide) ?_
    refine lv_iload_n hx hb dX12_stage_29 rfl (lv_at hl 1 rfl) ?_
    refine lv_iadd hx hb dX12_stage_30 ?_
    obtain ⟨g7, h⟩ := gd_some h
    refine r_ald (f := (gX12_m S1)) (n := 714) (v := ((gX12_m S1) ((((462 : Int32) + p1)).toNatClampNeg))) hx hb hK hP 1 0 rfl rfl (gIn_in g7) rfl dX12_stage_31 ?_
    refine lv_goto (tgt := 36) hx hb dX12_stage_32 (by decide) ?_
    exact Jj6 ((gX12_m S1) ((((462 : Int32) + p1)).toNatClampNeg)) ls h (lv_sub hl [] rfl)
set_option maxHeartbeats 4000000 in
set_option maxRecDepth 100000 in
theorem qX12_wouldBe (l : Launch) (D : va_G) (cy : Nat → ClassId) (a : Nat → Nat) (o : Nat) (S : SX12) (p1 : Int32) (sz : Nat) (rs : Int32 × SX12) (h : DX12_wouldBe S p1 = some rs) : Met l yX12_wouldBe wsX12_wouldBe ({ frames := 7, cells := 0, slots := 0, locals := 167 } : Room) (mP D cy sz [.ref (a o), .int p1] (wX12 cy a o S)) (va_Qi (fun r (u : SX12) => (r, u) = rs) (fun u t => mB D sz (wX12 cy a o S) (wX12 cy a o u) t) (va_A (wX12 cy a o S) sz)) 0 0 (va_A (wX12 cy a o S) sz) := by
  refine Met.ofW (cc := cX12_wouldBe) (maxL := 2) (ret := (some .int)) (by decide) rfl ?_
  intro p e s m args below meth c s₁ B hml hv
  obtain ⟨rfl, hsz, hP, hG, hD0⟩ := hv
  have hx := B.exec
  have hb := B.bytes
  have hr := B.returns
  have hts := atoms_spec (ws := wsX12_wouldBe) B.pre
  have hown : s.vm.findClass RX12 = some m.cls := findClass_of_methodNamed B.named
  have hlocks := B.notSynchronized
  have hK := hG.1
  subst hsz
  have hD := hD0.self (sz := s.heap.size)
  have hA : ∀ q : Nat, s.heap.size ≤ q → (va_A (wX12 cy a o S) s.heap.size) q := fun q h => Or.inr h
  have hS : va_S (va_A (wX12 cy a o S) s.heap.size) s.heap s.heap [] := va_S.rf
  have hinX12 := (by decide +kernel : ∀ w ∈ wsX120, w ∈ wsX12_wouldBe)
  have hf31 := hts (.fieldLink RX12 31 "PianoRoundsModel" "code" "I") (by decide +kernel)
  have hf7 := hts (.fieldLink RX12 7 "PianoRoundsModel" "m" "[I") (by decide +kernel)
  have hf22 := hts (.fieldLink RX12 22 "PianoRoundsModel" "fates" "[I") (by decide +kernel)
  have hl := lv_entry ([.ref (a o), .int p1]) (n := 2) (Nat.le_of_ble_eq_true rfl)
  rw [lg_entry_eq]
  generalize (lg_sl ([.ref (a o), .int p1]) ++ List.replicate (2 - (lg_sl ([.ref (a o), .int p1])).length) Slot.unset).toArray = ls at hl ⊢
  have hl : lv_has ls 2 [(0, .ref (a o)), (1, .int p1)] := hl
  rw [DX12_wouldBe] at h
  refine lv_aload_n hx hb dX12_wouldBe_0 rfl (lv_at hl 0 rfl) ?_
  refine lv_iload_n hx hb dX12_wouldBe_1 rfl (lv_at hl 1 rfl) ?_
  refine lv_iconst (v := (0 : Int32)) hx hb dX12_wouldBe_2 (by decide) ?_
  refine lv_iconst (v := (2 : Int32)) hx hb dX12_wouldBe_3 (by decide) ?_
  obtain ⟨x1, e2, h⟩ := bd_some h
  refine pcS (As := [.int p1, .int (0 : Int32), .int (2 : Int32)]) (rest := [.ref (a o)]) (qX12_in l D cy  p1 (0 : Int32) (2 : Int32) x1 e2) ⟨hx, hb, hml, hown, hts⟩ (va_cwS 3 hts gX12_wouldBe_X12_in rfl rfl rfl (by decide +kernel) ⟨Nat.le_of_ble_eq_true rfl, Nat.le_of_ble_eq_true rfl⟩) hG (hP.sub [] rfl) rfl hl.1 rfl (Nat.le_of_ble_eq_true rfl) dX12_wouldBe_4 ⟨Nat.zero_le _, Nat.zero_le _⟩ ?_
  obtain ⟨j4, hj4, h⟩ := jn_elim h
  have Jj4 : ∀ (x3 : Int32) (ls : Array Slot), j4 x3 = some rs → lv_has ls 2 [(0, .ref (a o)), (1, .int p1)] → W p l e (headSpec wsX12_wouldBe ({ frames := 7, cells := 0, slots := 0, locals := 167 } : Room)).room s m ([.ref (a o), .int p1] : List Value).toArray below meth c s.heap [] 0 0 (MQ below (va_Qi (fun r (u : SX12) => (r, u) = rs) (fun u t => mB D s.heap.size (wX12 cy a o S) (wX12 cy a o u) t) (va_A (wX12 cy a o S) s.heap.size)) ([.ref (a o), .int p1] : List Value).toArray s 0 0 (va_A (wX12 cy a o S) s.heap.size)) (F0 m 15 ls [.int x3, .ref (a o)]) := by
    intro x3 ls h hl
    rw [hj4] at h
    refine va_put (D := D) (ci := 12) (v := .int x3) (ty := .int) (C := RX12) (T := TX12) (N := 12) hx hb hts hinX12 tyX12 tyX12_ok nmX12 hown hK hP hD hS 0 rfl rfl 5 (by decide) hf31 (fun _ h9 => h9) rfl (by decide +kernel) rfl rfl (Nat.le_of_ble_eq_true rfl) dX12_wouldBe_15 (fun H locs hP hD hS => ?_)
    have hP : va_P D vwCl (wX12 cy a o (uX12_code S x3)) H := hP
    have hD : va_D (va_A (wX12 cy a o S) s.heap.size) (wX12 cy a o (uX12_code S x3)) := hD
    obtain ⟨S5, eS6, h⟩ := lt_elim h
    have hP : va_P D vwCl (wX12 cy a o S5) H := by rw [eS6]; exact hP
    have hD : va_D (va_A (wX12 cy a o S) s.heap.size) (wX12 cy a o S5) := by rw [eS6]; exact hD
    refine lv_aload_n hx hb dX12_wouldBe_18 rfl (lv_at hl 0 rfl) ?_
    refine va_get (D := D) (ci := 12) (v := .int (gX12_code S5)) (C := RX12) (T := TX12) (N := 12) hx hb hts hinX12 hown hK hP 0 rfl rfl 5 (by decide) hf31 (fun _ h9 => h9) rfl dX12_wouldBe_19 ?_
    obtain ⟨j7, hj7, h⟩ := jn_elim h
    have Jj7 : ∀ (ls : Array Slot), j7 () = some rs → lv_has ls 2 [(0, .ref (a o))] → W p l e (headSpec wsX12_wouldBe ({ frames := 7, cells := 0, slots := 0, locals := 167 } : Room)).room s m ([.ref (a o), .int p1] : List Value).toArray below meth c H locs 0 0 (MQ below (va_Qi (fun r (u : SX12) => (r, u) = rs) (fun u t => mB D s.heap.size (wX12 cy a o S) (wX12 cy a o u) t) (va_A (wX12 cy a o S) s.heap.size)) ([.ref (a o), .int p1] : List Value).toArray s 0 0 (va_A (wX12 cy a o S) s.heap.size)) (F0 m 42 ls []) := by
      intro ls h hl
      rw [hj7] at h
      refine lv_aload_n hx hb dX12_wouldBe_42 rfl (lv_at hl 0 rfl) ?_
      refine va_get (D := D) (ci := 12) (v := .int (gX12_code S5)) (C := RX12) (T := TX12) (N := 12) hx hb hts hinX12 hown hK hP 0 rfl rfl 5 (by decide) hf31 (fun _ h9 => h9) rfl dX12_wouldBe_43 ?_
      obtain ⟨j9, hj9, h⟩ := jn_elim h
      have Jj9 : ∀ (x8 : Int32) (ls : Array Slot), j9 x8 = some rs → lv_has ls 2 [] → W p l e (headSpec wsX12_wouldBe ({ frames := 7, cells := 0, slots := 0, locals := 167 } : Room)).room s m ([.ref (a o), .int p1] : List Value).toArray below meth c H locs 0 0 (MQ below (va_Qi (fun r (u : SX12) => (r, u) = rs) (fun u t => mB D s.heap.size (wX12 cy a o S) (wX12 cy a o u) t) (va_A (wX12 cy a o S) s.heap.size)) ([.ref (a o), .int p1] : List Value).toArray s 0 0 (va_A (wX12 cy a o S) s.heap.size)) (F0 m 54 ls [.int x8]) := by
        intro x8 ls h hl
        rw [hj9] at h
        exact W.iret (v := x8) hx hb hr (fun t ht hW => ⟨⟨x8, S5, rfl, some_in h, by rw [ht]; exact hP, hD⟩, hS.F ht⟩) hS.2.2 dX12_wouldBe_54
      refine lv_if_eq (tgt := 53) hx hb dX12_wouldBe_46 (by decide) (fun cc => ?_) (fun cc => ?_)
      · have h := ite_p cc h
        refine lv_iconst (v := (-1 : Int32)) hx hb dX12_wouldBe_53 (by decide) ?_
        exact Jj9 (-1 : Int32) ls h (lv_sub hl [] rfl)
      · have h := ite_n cc h
        refine lv_iconst (v := (0 : Int32)) hx hb dX12_wouldBe_49 (by decide) ?_
        refine lv_goto (tgt := 54) hx hb dX12_wouldBe_50 (by decide) ?_
        exact Jj9 (0 : Int32) ls h (lv_sub hl [] rfl)
    refine lv_if_ne (tgt := 42) hx hb dX12_wouldBe_22 (by decide) (fun cc => ?_) (fun cc => ?_)
    · have h := ite_n cc h
      exact Jj7  ls h (lv_sub hl [0] rfl)
    · have h := ite_p cc h
      refine lv_aload_n hx hb dX12_wouldBe_25 rfl (lv_at hl 0 rfl) ?_
      refine va_get (D := D) (ci := 12) (v := .ref (a (o + 1))) (C := RX12) (T := TX12) (N := 12) hx hb hts hinX12 hown hK hP 0 rfl rfl 0 (by decide) hf7 (fun _ h9 => h9) rfl dX12_wouldBe_26 ?_
      refine lv_iconst (v := (3 : Int32)) hx hb dX12_wouldBe_29 (by decide) ?_
      refine r_ald (f := (gX12_m S5)) (n := 714) (v := ((gX12_m S5) 3)) hx hb hK hP 1 0 rfl rfl (vp_in_nI (n := 3) (N := 714) (by decide) (by decide)) (congrArg (gX12_m S5) (nI_clamp (n := 3) (by decide))) dX12_wouldBe_30 ?_
      refine lv_iconst (v := (1 : Int32)) hx hb dX12_wouldBe_31 (by decide) ?_
      refine lv_icmp_ne (tgt := 42) hx hb dX12_wouldBe_32 (by decide) (fun cc => ?_) (fun cc => ?_)
      · have h := ite_n cc h
        exact Jj7  ls h (lv_sub hl [0] rfl)
      · have h := ite_p cc h
        refine lv_aload_n hx hb dX12_wouldBe_35 rfl (lv_at hl 0 rfl) ?_
        obtain ⟨x10, e11, h⟩ := bd_some h
        refine pcV (As := []) (rest := []) (q0 := 0) (qX12_isClosable l D cy a o S5  x10 e11) ⟨hx, hb, hml, hown, hts⟩ (cwV 0 hts gX12_wouldBe_X12_isClosable rfl rfl rfl (by decide +kernel) ⟨Nat.le_of_ble_eq_true rfl, Nat.le_of_ble_eq_true rfl⟩) hG hP rfl rfl rfl hl.1 rfl (Nat.le_of_ble_eq_true rfl) dX12_wouldBe_36 ⟨Nat.zero_le _, Nat.zero_le _⟩ ?_
        refine lv_if_ne (tgt := 55) hx hb dX12_wouldBe_39 (by decide) (fun cc => ?_) (fun cc => ?_)
        · have h := ite_n cc h
          refine lv_aload_n hx hb dX12_wouldBe_55 rfl (lv_at hl 0 rfl) ?_
          refine lv_sipush (v := (486 : Int32)) hx hb dX12_wouldBe_56 (by decide) ?_
          refine lv_aload_n hx hb dX12_wouldBe_59 rfl (lv_at hl 0 rfl) ?_
          refine va_get (D := D) (ci := 12) (v := .ref (a (o + 1))) (C := RX12) (T := TX12) (N := 12) hx hb hts hinX12 hown hK hP 0 rfl rfl 0 (by decide) hf7 (fun _ h9 => h9) rfl dX12_wouldBe_60 ?_
          refine lv_bipush (v := (102 : Int32)) hx hb dX12_wouldBe_63 (by decide) ?_
          refine lv_bipush (v := (6 : Int32)) hx hb dX12_wouldBe_65 (by decide) ?_
          refine lv_aload_n hx hb dX12_wouldBe_67 rfl (lv_at hl 0 rfl) ?_
          refine va_get (D := D) (ci := 12) (v := .ref (a (o + 1))) (C := RX12) (T := TX12) (N := 12) hx hb hts hinX12 hown hK hP 0 rfl rfl 0 (by decide) hf7 (fun _ h9 => h9) rfl dX12_wouldBe_68 ?_
          refine lv_iconst (v := (4 : Int32)) hx hb dX12_wouldBe_71 (by decide) ?_
          refine r_ald (f := (gX12_m S5)) (n := 714) (v := ((gX12_m S5) 4)) hx hb hK hP 1 0 rfl rfl (vp_in_nI (n := 4) (N := 714) (by decide) (by decide)) (congrArg (gX12_m S5) (nI_clamp (n := 4) (by decide))) dX12_wouldBe_72 ?_
          refine lv_imul hx hb dX12_wouldBe_73 ?_
          refine lv_iadd hx hb dX12_wouldBe_74 ?_
          refine lv_iconst (v := (5 : Int32)) hx hb dX12_wouldBe_75 (by decide) ?_
          refine lv_iadd hx hb dX12_wouldBe_76 ?_
          obtain ⟨g12, h⟩ := gd_some h
          refine r_ald (f := (gX12_m S5)) (n := 714) (v := ((gX12_m S5) (((((102 : Int32) + ((6 : Int32) * ((gX12_m S5) 4))) + (5 : Int32))).toNatClampNeg))) hx hb hK hP 1 0 rfl rfl (gIn_in g12) rfl dX12_wouldBe_77 ?_
          obtain ⟨x13, e14, h⟩ := bd_some h
          refine smVv (As := [.int (486 : Int32), .int ((gX12_m S5) (((((102 : Int32) + ((6 : Int32) * ((gX12_m S5) 4))) + (5 : Int32))).toNatClampNeg))]) (rest := []) (ws' := (wX12 cy a o x13)) (q0 := 0) (qX12_decide l D cy a o S5 (486 : Int32) ((gX12_m S5) (((((102 : Int32) + ((6 : Int32) * ((gX12_m S5) 4))) + (5 : Int32))).toNatClampNeg)) (H).size x13 e14) ⟨hx, hb, hml, hown, hts⟩ (cwV 2 hts gX12_wouldBe_X12_decide rfl rfl rfl (by decide +kernel) ⟨Nat.le_of_ble_eq_true rfl, Nat.le_of_ble_eq_true rfl⟩) hG hP hD hS hA (pm1 (X := ([] : va_W)) (c := (wX12 cy a o S5)) (Y := ([] : va_W)) (show (wX12 cy a o S5) = ([] : va_W) ++ ((wX12 cy a o S5) ++ ([] : va_W)) from by simp only [List.append_assoc, List.nil_append, List.append_nil] <;> rfl)) (pm1 (X := ([] : va_W)) (c := (wX12 cy a o x13)) (Y := ([] : va_W)) (show (wX12 cy a o x13) = ([] : va_W) ++ ((wX12 cy a o x13) ++ ([] : va_W)) from by simp only [List.append_assoc, List.nil_append, List.append_nil] <;> rfl)) rfl rfl rfl hl.1 rfl (Nat.le_of_ble_eq_true rfl) dX12_wouldBe_78 ⟨Nat.zero_le _, Nat.zero_le _⟩ (fun H locs hP hD hS => ?_)
          refine lv_aload_n hx hb dX12_wouldBe_81 rfl (lv_at hl 0 rfl) ?_
          refine va_get (D := D) (ci := 12) (v := .ref (a (o + 5))) (C := RX12) (T := TX12) (N := 12) hx hb hts hinX12 hown hK hP 0 rfl rfl 7 (by decide) hf22 (fun _ h9 => h9) rfl dX12_wouldBe_82 ?_
          refine lv_iload_n hx hb dX12_wouldBe_85 rfl (lv_at hl 1 rfl) ?_
          obtain ⟨g15, h⟩ := gd_some h
          refine r_ald (f := (gX12_fates x13)) (n := 3) (v := ((gX12_fates x13) ((p1).toNatClampNeg))) hx hb hK hP 5 0 rfl rfl (gIn_in g15) rfl dX12_wouldBe_86 ?_
          exact W.iret (v := ((gX12_fates x13) ((p1).toNatClampNeg))) hx hb hr (fun t ht hW => ⟨⟨((gX12_fates x13) ((p1).toNatClampNeg)), x13, rfl, some_in h, by rw [ht]; exact hP, hD⟩, hS.F ht⟩) hS.2.2 dX12_wouldBe_87
        · have h := ite_p cc h
          exact Jj7  ls h (lv_sub hl [0] rfl)
  refine lv_if_eq (tgt := 14) hx hb dX12_wouldBe_7 (by decide) (fun cc => ?_) (fun cc => ?_)
  · have h := ite_p cc h
    refine lv_iconst (v := (1 : Int32)) hx hb dX12_wouldBe_14 (by decide) ?_
    exact Jj4 (1 : Int32) ls h (lv_sub hl [0, 1] rfl)
  · have h := ite_n cc h
    refine lv_iconst (v := (0 : Int32)) hx hb dX12_wouldBe_10 (by decide) ?_
    refine lv_goto (tgt := 15) hx hb dX12_wouldBe_11 (by decide) ?_
    exact Jj4 (0 : Int32) ls h (lv_sub hl [0, 1] rfl)
