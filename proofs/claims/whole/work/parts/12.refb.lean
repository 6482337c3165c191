set_option maxHeartbeats 4000000 in
set_option maxRecDepth 100000 in
theorem qX12_isFit (l : Launch) (D : va_G) (cy : Nat → ClassId) (a : Nat → Nat) (o : Nat) (S : SX12) (p1 : Int32) (rs : Int32) (h : DX12_isFit S p1 = some rs) : Met l yX12_isFit wsX12_isFit ({ frames := 0, cells := 0, slots := 0, locals := 0 } : Room) (va_Pc [.ref (a o), .int p1] (fun U => va_P D vwCl (wX12 cy a o S) U.heap ∧ gK D cy U)) (vp_Si (fun z => z = rs)) 0 0 (fun _ => False) := by
  refine Met.ofW (cc := cX12_isFit) (maxL := 4) (ret := (some .boolean)) (by decide) rfl ?_
  intro p e s m args below meth c s₁ B hml hv
  obtain ⟨rfl, hP, hG⟩ := hv
  have hx := B.exec
  have hb := B.bytes
  have hr := B.returns
  have hts := atoms_spec (ws := wsX12_isFit) B.pre
  have hown : s.vm.findClass RX12 = some m.cls := findClass_of_methodNamed B.named
  have hlocks := B.notSynchronized
  have hK := hG.1
  have hinX12 := (by decide +kernel : ∀ w ∈ wsX120, w ∈ wsX12_isFit)
  have hf7 := hts (.fieldLink RX12 7 "PianoRoundsModel" "m" "[I") (by decide +kernel)
  have hf76 := hts (.fieldLink RX12 76 "PianoRoundsModel" "found" "I") (by decide +kernel)
  have hf25 := hts (.fieldLink RX12 25 "PianoRoundsModel" "draft" "[I") (by decide +kernel)
  have hl := lv_entry ([.ref (a o), .int p1]) (n := 4) (Nat.le_of_ble_eq_true rfl)
  rw [lg_entry_eq]
  generalize (lg_sl ([.ref (a o), .int p1]) ++ List.replicate (4 - (lg_sl ([.ref (a o), .int p1])).length) Slot.unset).toArray = ls at hl ⊢
  have hl : lv_has ls 4 [(0, .ref (a o)), (1, .int p1)] := hl
  rw [DX12_isFit] at h
  refine lv_iload_n hx hb dX12_isFit_0 rfl (lv_at hl 1 rfl) ?_
  refine lv_aload_n hx hb dX12_isFit_1 rfl (lv_at hl 0 rfl) ?_
  refine va_get (D := D) (ci := 12) (v := .ref (a (o + 1))) (C := RX12) (T := TX12) (N := 12) hx hb hts hinX12 hown hK hP 0 rfl rfl 0 (by decide) hf7 (fun _ h9 => h9) rfl dX12_isFit_2 ?_
  refine lv_iconst (v := (5 : Int32)) hx hb dX12_isFit_5 (by decide) ?_
  refine r_ald (f := (gX12_m S)) (n := 714) (v := ((gX12_m S) 5)) hx hb hK hP 1 0 rfl rfl (vp_in_nI (n := 5) (N := 714) (by decide) (by decide)) (congrArg (gX12_m S) (nI_clamp (n := 5) (by decide))) dX12_isFit_6 ?_
  obtain ⟨j2, hj2, h⟩ := jn_elim h
  have Jj2 : ∀ (x1 : Int32) (ls : Array Slot), j2 x1 = some rs → lv_has ls 4 [(0, .ref (a o)), (1, .int p1)] → W p l e (headSpec wsX12_isFit ({ frames := 0, cells := 0, slots := 0, locals := 0 } : Room)).room s m ([.ref (a o), .int p1] : List Value).toArray below meth c s.heap [] 0 0 (MQ below (vp_Si (fun z => z = rs)) ([.ref (a o), .int p1] : List Value).toArray s 0 0 (fun _ => False)) (F0 m 15 ls [.int x1]) := by
    intro x1 ls h hl
    rw [hj2] at h
    refine lv_istore_n (lv' := [(2, .int x1), (0, .ref (a o)), (1, .int p1)]) hx hb dX12_isFit_15 rfl hl (by decide) rfl (fun ls hl => ?_)
    refine lv_iconst (v := (0 : Int32)) hx hb dX12_isFit_16 (by decide) ?_
    refine lv_istore_n (lv' := [(3, .int (0 : Int32)), (2, .int x1), (0, .ref (a o)), (1, .int p1)]) hx hb dX12_isFit_17 rfl hl (by decide) rfl (fun ls hl => ?_)
    have L14 : ∀ (c1_3 : Int32) (k4 : Int32 → Option (Int32)) (hk4 : ∀ (v2_5 : Int32) (ls : Array Slot), k4 v2_5 = some rs → lv_has ls 4 [(2, .int v2_5)] → W p l e (headSpec wsX12_isFit ({ frames := 0, cells := 0, slots := 0, locals := 0 } : Room)).room s m ([.ref (a o), .int p1] : List Value).toArray below meth c s.heap [] 0 0 (MQ below (vp_Si (fun z => z = rs)) ([.ref (a o), .int p1] : List Value).toArray s 0 0 (fun _ => False)) (F0 m 52 ls [])) (f : Nat) (v2_8 : Int32) (v3_9 : Int32) (ls : Array Slot), DX12_isFit_L18 S c1_3 k4 f v2_8 v3_9 = some rs → lv_has ls 4 [(0, .ref (a o)), (1, .int c1_3), (2, .int v2_8), (3, .int v3_9)] → W p l e (headSpec wsX12_isFit ({ frames := 0, cells := 0, slots := 0, locals := 0 } : Room)).room s m ([.ref (a o), .int p1] : List Value).toArray below meth c s.heap [] 0 0 (MQ below (vp_Si (fun z => z = rs)) ([.ref (a o), .int p1] : List Value).toArray s 0 0 (fun _ => False)) (F0 m 18 ls []) := by
      intro c1_3 k4 hk4 f
      induction f with
      | zero =>
        intro v2_8 v3_9 ls h hl
        rw [DX12_isFit_L18] at h
        cases h
      | succ f ih =>
        intro v2_8 v3_9 ls h hl
        rw [DX12_isFit_L18] at h
        refine lv_iload_n hx hb dX12_isFit_18 rfl (lv_at hl 3 rfl) ?_
        refine lv_aload_n hx hb dX12_isFit_19 rfl (lv_at hl 0 rfl) ?_
        refine va_get (D := D) (ci := 12) (v := .int (gX12_found S)) (C := RX12) (T := TX12) (N := 12) hx hb hts hinX12 hown hK hP 0 rfl rfl 9 (by decide) hf76 (fun _ h9 => h9) rfl dX12_isFit_20 ?_
        refine lv_icmp_ge (tgt := 52) hx hb dX12_isFit_23 (by decide) (fun cc => ?_) (fun cc => ?_)
        · have h := ite_p cc h
          exact hk4 v2_8 ls h (lv_sub hl [2] rfl)
        · have h := ite_n cc h
          refine lv_iload_n hx hb dX12_isFit_26 rfl (lv_at hl 2 rfl) ?_
          obtain ⟨j11, hj11, h⟩ := jn_elim h
          have Jj11 : ∀ (x10 : Int32) (ls : Array Slot), j11 x10 = some rs → lv_has ls 4 [(0, .ref (a o)), (1, .int c1_3), (3, .int v3_9)] → W p l e (headSpec wsX12_isFit ({ frames := 0, cells := 0, slots := 0, locals := 0 } : Room)).room s m ([.ref (a o), .int p1] : List Value).toArray below meth c s.heap [] 0 0 (MQ below (vp_Si (fun z => z = rs)) ([.ref (a o), .int p1] : List Value).toArray s 0 0 (fun _ => False)) (F0 m 45 ls [.int x10]) := by
            intro x10 ls h hl
            rw [hj11] at h
            refine lv_istore_n (lv' := [(2, .int x10), (0, .ref (a o)), (1, .int c1_3), (3, .int v3_9)]) hx hb dX12_isFit_45 rfl hl (by decide) rfl (fun ls hl => ?_)
            refine lv_iinc (v := (v3_9 + (1 : Int32))) (lv' := [(3, .int (v3_9 + (1 : Int32))), (2, .int x10), (0, .ref (a o)), (1, .int c1_3)]) hx hb dX12_isFit_46 hl (k := 3) rfl (by rfl) (by decide) rfl (fun ls hl => ?_)
            refine lv_goto (tgt := 18) hx hb dX12_isFit_49 (by decide) ?_
            exact ih x10 (v3_9 + (1 : Int32)) ls h (lv_sub hl [2, 3, 1, 0] rfl)
          obtain ⟨j12, hj12, h⟩ := jn_elim h
          have Jj12 : ∀ (ls : Array Slot), j12 () = some rs → lv_has ls 4 [(0, .ref (a o)), (1, .int c1_3), (3, .int v3_9)] → W p l e (headSpec wsX12_isFit ({ frames := 0, cells := 0, slots := 0, locals := 0 } : Room)).room s m ([.ref (a o), .int p1] : List Value).toArray below meth c s.heap [] 0 0 (MQ below (vp_Si (fun z => z = rs)) ([.ref (a o), .int p1] : List Value).toArray s 0 0 (fun _ => False)) (F0 m 44 ls []) := by
            intro ls h hl
            rw [hj12] at h
            refine lv_iconst (v := (0 : Int32)) hx hb dX12_isFit_44 (by decide) ?_
            exact Jj11 (0 : Int32) ls h (lv_sub hl [0, 1, 2] rfl)
          refine lv_if_eq (tgt := 44) hx hb dX12_isFit_27 (by decide) (fun cc => ?_) (fun cc => ?_)
          · have h := ite_p cc h
            exact Jj12  ls h (lv_sub hl [0, 1, 3] rfl)
          · have h := ite_n cc h
            refine lv_aload_n hx hb dX12_isFit_30 rfl (lv_at hl 0 rfl) ?_
            refine va_get (D := D) (ci := 12) (v := .ref (a (o + 6))) (C := RX12) (T := TX12) (N := 12) hx hb hts hinX12 hown hK hP 0 rfl rfl 8 (by decide) hf25 (fun _ h9 => h9) rfl dX12_isFit_31 ?_
            refine lv_iload_n hx hb dX12_isFit_34 rfl (lv_at hl 3 rfl) ?_
            obtain ⟨g13, h⟩ := gd_some h
            refine r_ald (f := (gX12_draft S)) (n := 4) (v := ((gX12_draft S) ((v3_9).toNatClampNeg))) hx hb hK hP 6 0 rfl rfl (gIn_in g13) rfl dX12_isFit_35 ?_
            refine lv_iload_n hx hb dX12_isFit_36 rfl (lv_at hl 1 rfl) ?_
            refine lv_icmp_eq (tgt := 44) hx hb dX12_isFit_37 (by decide) (fun cc => ?_) (fun cc => ?_)
            · have h := ite_p cc h
              exact Jj12  ls h (lv_sub hl [0, 1, 3] rfl)
            · have h := ite_n cc h
              refine lv_iconst (v := (1 : Int32)) hx hb dX12_isFit_40 (by decide) ?_
              refine lv_goto (tgt := 45) hx hb dX12_isFit_41 (by decide) ?_
              exact Jj11 (1 : Int32) ls h (lv_sub hl [0, 1, 3] rfl)
    refine L14 p1 _ ?_ fu x1 (0 : Int32) ls h (lv_sub hl [2, 3, 1, 0] rfl)
    intro v2_6 ls h hl
    refine lv_iload_n hx hb dX12_isFit_52 rfl (lv_at hl 0 rfl) ?_
    obtain ⟨g7, h⟩ := gd_some h
    exact W.zret (v := v2_6) hx hb hr (zN g7) (fun t ht hW => ⟨v2_6, rfl, some_in h, ht⟩) (fun q hq => nomatch hq) dX12_isFit_53
  refine lv_icmp_ge (tgt := 14) hx hb dX12_isFit_7 (by decide) (fun cc => ?_) (fun cc => ?_)
  · have h := ite_p cc h
    refine lv_iconst (v := (0 : Int32)) hx hb dX12_isFit_14 (by decide) ?_
    exact Jj2 (0 : Int32) ls h (lv_sub hl [0, 1] rfl)
  · have h := ite_n cc h
    refine lv_iconst (v := (1 : Int32)) hx hb dX12_isFit_10 (by decide) ?_
    refine lv_goto (tgt := 15) hx hb dX12_isFit_11 (by decide) ?_
    exact Jj2 (1 : Int32) ls h (lv_sub hl [0, 1] rfl)
set_option maxHeartbeats 4000000 in
set_option maxRecDepth 100000 in
theorem qX12_faultOf (l : Launch) (D : va_G) (cy : Nat → ClassId) (a : Nat → Nat) (o : Nat) (S : SX12)  (sz : Nat) (rs : Int32 × SX12) (h : DX12_faultOf S = some rs) : Met l yX12_faultOf wsX12_faultOf ({ frames := 1, cells := 0, slots := 0, locals := 23 } : Room) (mP D cy sz [.ref (a o)] (wX12 cy a o S)) (va_Qi (fun r (u : SX12) => (r, u) = rs) (fun u t => mB D sz (wX12 cy a o S) (wX12 cy a o u) t) (va_A (wX12 cy a o S) sz)) 0 0 (va_A (wX12 cy a o S) sz) := by
  refine Met.ofW (cc := cX12_faultOf) (maxL := 5) (ret := (some .int)) (by decide) rfl ?_
  intro p e s m args below meth c s₁ B hml hv
  obtain ⟨rfl, hsz, hP, hG, hD0⟩ := hv
  have hx := B.exec
  have hb := B.bytes
  have hr := B.returns
  have hts := atoms_spec (ws := wsX12_faultOf) B.pre
  have hown : s.vm.findClass RX12 = some m.cls := findClass_of_methodNamed B.named
  have hlocks := B.notSynchronized
  have hK := hG.1
  subst hsz
  have hD := hD0.self (sz := s.heap.size)
  have hA : ∀ q : Nat, s.heap.size ≤ q → (va_A (wX12 cy a o S) s.heap.size) q := fun q h => Or.inr h
  have hS : va_S (va_A (wX12 cy a o S) s.heap.size) s.heap s.heap [] := va_S.rf
  have hinX12 := (by decide +kernel : ∀ w ∈ wsX120, w ∈ wsX12_faultOf)
  have hf179 := hts (.fieldLink RX12 179 "PianoRoundsModel" "at" "I") (by decide +kernel)
  have hf76 := hts (.fieldLink RX12 76 "PianoRoundsModel" "found" "I") (by decide +kernel)
  have hf176 := hts (.fieldLink RX12 176 "PianoRoundsModel" "textLength" "I") (by decide +kernel)
  have hf25 := hts (.fieldLink RX12 25 "PianoRoundsModel" "draft" "[I") (by decide +kernel)
  have hl := lv_entry ([.ref (a o)]) (n := 5) (Nat.le_of_ble_eq_true rfl)
  rw [lg_entry_eq]
  generalize (lg_sl ([.ref (a o)]) ++ List.replicate (5 - (lg_sl ([.ref (a o)])).length) Slot.unset).toArray = ls at hl ⊢
  have hl : lv_has ls 5 [(0, .ref (a o))] := hl
  rw [DX12_faultOf] at h
  refine lv_aload_n hx hb dX12_faultOf_0 rfl (lv_at hl 0 rfl) ?_
  refine lv_iconst (v := (0 : Int32)) hx hb dX12_faultOf_1 (by decide) ?_
  refine va_put (D := D) (ci := 12) (v := .int (0 : Int32)) (ty := .int) (C := RX12) (T := TX12) (N := 12) hx hb hts hinX12 tyX12 tyX12_ok nmX12 hown hK hP hD hS 0 rfl rfl 10 (by decide) hf179 (fun _ h9 => h9) rfl (by decide +kernel) rfl rfl (Nat.le_of_ble_eq_true rfl) dX12_faultOf_2 (fun H locs hP hD hS => ?_)
  have hP : va_P D vwCl (wX12 cy a o (uX12_at S (0 : Int32))) H := hP
  have hD : va_D (va_A (wX12 cy a o S) s.heap.size) (wX12 cy a o (uX12_at S (0 : Int32))) := hD
  obtain ⟨S1, eS2, h⟩ := lt_elim h
  have hP : va_P D vwCl (wX12 cy a o S1) H := by rw [eS2]; exact hP
  have hD : va_D (va_A (wX12 cy a o S) s.heap.size) (wX12 cy a o S1) := by rw [eS2]; exact hD
  refine lv_aload_n hx hb dX12_faultOf_5 rfl (lv_at hl 0 rfl) ?_
  refine lv_iconst (v := (0 : Int32)) hx hb dX12_faultOf_6 (by decide) ?_
  refine va_put (D := D) (ci := 12) (v := .int (0 : Int32)) (ty := .int) (C := RX12) (T := TX12) (N := 12) hx hb hts hinX12 tyX12 tyX12_ok nmX12 hown hK hP hD hS 0 rfl rfl 9 (by decide) hf76 (fun _ h9 => h9) rfl (by decide +kernel) rfl rfl (Nat.le_of_ble_eq_true rfl) dX12_faultOf_7 (fun H locs hP hD hS => ?_)
  have hP : va_P D vwCl (wX12 cy a o (uX12_found S1 (0 : Int32))) H := hP
  have hD : va_D (va_A (wX12 cy a o S) s.heap.size) (wX12 cy a o (uX12_found S1 (0 : Int32))) := hD
  obtain ⟨S3, eS4, h⟩ := lt_elim h
  have hP : va_P D vwCl (wX12 cy a o S3) H := by rw [eS4]; exact hP
  have hD : va_D (va_A (wX12 cy a o S) s.heap.size) (wX12 cy a o S3) := by rw [eS4]; exact hD
  refine lv_iconst (v := (-1 : Int32)) hx hb dX12_faultOf_10 (by decide) ?_
  refine lv_istore_n (lv' := [(1, .int (-1 : Int32)), (0, .ref (a o))]) hx hb dX12_faultOf_11 rfl hl (by decide) rfl (fun ls hl => ?_)
  refine lv_iconst (v := (1 : Int32)) hx hb dX12_faultOf_12 (by decide) ?_
  refine lv_istore_n (lv' := [(2, .int (1 : Int32)), (1, .int (-1 : Int32)), (0, .ref (a o))]) hx hb dX12_faultOf_13 rfl hl (by decide) rfl (fun ls hl => ?_)
  have L56 : ∀ (k6 : SX12 → Option (Int32 × SX12)) (hk6 : ∀ (S7 : SX12) (H : Heap) (locs : List Loc) (ls : Array Slot), k6 S7 = some rs → va_P D vwCl (wX12 cy a o S7) H → va_D (va_A (wX12 cy a o S) s.heap.size) (wX12 cy a o S7) → va_S (va_A (wX12 cy a o S) s.heap.size) s.heap H locs → lv_has ls 5 [(0, .ref (a o))] → W p l e (headSpec wsX12_faultOf ({ frames := 1, cells := 0, slots := 0, locals := 23 } : Room)).room s m ([.ref (a o)] : List Value).toArray below meth c H locs 0 0 (MQ below (va_Qi (fun r (u : SX12) => (r, u) = rs) (fun u t => mB D s.heap.size (wX12 cy a o S) (wX12 cy a o u) t) (va_A (wX12 cy a o S) s.heap.size)) ([.ref (a o)] : List Value).toArray s 0 0 (va_A (wX12 cy a o S) s.heap.size)) (F0 m 86 ls [])) (k9 : Int32 → SX12 → Option (Int32 × SX12)) (hk9 : ∀ (v1_10 : Int32) (S11 : SX12) (H : Heap) (locs : List Loc) (ls : Array Slot), k9 v1_10 S11 = some rs → va_P D vwCl (wX12 cy a o S11) H → va_D (va_A (wX12 cy a o S) s.heap.size) (wX12 cy a o S11) → va_S (va_A (wX12 cy a o S) s.heap.size) s.heap H locs → lv_has ls 5 [(0, .ref (a o)), (1, .int v1_10)] → W p l e (headSpec wsX12_faultOf ({ frames := 1, cells := 0, slots := 0, locals := 23 } : Room)).room s m ([.ref (a o)] : List Value).toArray below meth c H locs 0 0 (MQ below (va_Qi (fun r (u : SX12) => (r, u) = rs) (fun u t => mB D s.heap.size (wX12 cy a o S) (wX12 cy a o u) t) (va_A (wX12 cy a o S) s.heap.size)) ([.ref (a o)] : List Value).toArray s 0 0 (va_A (wX12 cy a o S) s.heap.size)) (F0 m 176 ls [])) (f : Nat) (v1_16 : Int32) (v2_17 : Int32) (S5 : SX12) (H : Heap) (locs : List Loc) (ls : Array Slot), DX12_faultOf_L14 k6 k9 f v1_16 v2_17 S5 = some rs → va_P D vwCl (wX12 cy a o S5) H → va_D (va_A (wX12 cy a o S) s.heap.size) (wX12 cy a o S5) → va_S (va_A (wX12 cy a o S) s.heap.size) s.heap H locs → lv_has ls 5 [(0, .ref (a o)), (1, .int v1_16), (2, .int v2_17)] → W p l e (headSpec wsX12_faultOf ({ frames := 1, cells := 0, slots := 0, locals := 23 } : Room)).room s m ([.ref (a o)] : List Value).toArray below meth c H locs 0 0 (MQ below (va_Qi (fun r (u : SX12) => (r, u) = rs) (fun u t => mB D s.heap.size (wX12 cy a o S) (wX12 cy a o u) t) (va_A (wX12 cy a o S) s.heap.size)) ([.ref (a o)] : List Value).toArray s 0 0 (va_A (wX12 cy a o S) s.heap.size)) (F0 m 14 ls []) := by
    intro k6 hk6 k9 hk9 f
    induction f with
    | zero =>
      intro v1_16 v2_17 S5 H locs ls h hP hD hS hl
      rw [DX12_faultOf_L14] at h
      cases h
    | succ f ih =>
      intro v1_16 v2_17 S5 H locs ls h hP hD hS hl
      rw [DX12_faultOf_L14] at h
      refine lv_iload_n hx hb dX12_faultOf_14 rfl (lv_at hl 2 rfl) ?_
      refine lv_if_eq (tgt := 176) hx hb dX12_faultOf_15 (by decide) (fun cc => ?_) (fun cc => ?_)
      · have h := ite_p cc h
        exact hk9 v1_16 S5 H locs ls h hP hD hS (lv_sub hl [0, 1] rfl)
      · have h := ite_n cc h
        refine lv_aload_n hx hb dX12_faultOf_18 rfl (lv_at hl 0 rfl) ?_
        refine va_get (D := D) (ci := 12) (v := .int (gX12_at S5)) (C := RX12) (T := TX12) (N := 12) hx hb hts hinX12 hown hK hP 0 rfl rfl 10 (by decide) hf179 (fun _ h9 => h9) rfl dX12_faultOf_19 ?_
        refine lv_istore_n (lv' := [(3, .int (gX12_at S5)), (0, .ref (a o)), (1, .int v1_16), (2, .int v2_17)]) hx hb dX12_faultOf_22 rfl hl (by decide) rfl (fun ls hl => ?_)
        refine lv_iconst (v := (0 : Int32)) hx hb dX12_faultOf_23 (by decide) ?_
        refine lv_istore (lv' := [(4, .int (0 : Int32)), (3, .int (gX12_at S5)), (0, .ref (a o)), (1, .int v1_16), (2, .int v2_17)]) hx hb dX12_faultOf_24 hl (by decide) rfl (fun ls hl => ?_)
        obtain ⟨j20, hj20, h⟩ := jn_elim h
        have Jj20 : ∀ (v4_18 : Int32) (S19 : SX12) (H : Heap) (locs : List Loc) (ls : Array Slot), j20 v4_18 S19 = some rs → va_P D vwCl (wX12 cy a o S19) H → va_D (va_A (wX12 cy a o S) s.heap.size) (wX12 cy a o S19) → va_S (va_A (wX12 cy a o S) s.heap.size) s.heap H locs → lv_has ls 5 [(0, .ref (a o)), (1, .int v1_16), (3, .int (gX12_at S5)), (4, .int v4_18)] → W p l e (headSpec wsX12_faultOf ({ frames := 1, cells := 0, slots := 0, locals := 23 } : Room)).room s m ([.ref (a o)] : List Value).toArray below meth c H locs 0 0 (MQ below (va_Qi (fun r (u : SX12) => (r, u) = rs) (fun u t => mB D s.heap.size (wX12 cy a o S) (wX12 cy a o u) t) (va_A (wX12 cy a o S) s.heap.size)) ([.ref (a o)] : List Value).toArray s 0 0 (va_A (wX12 cy a o S) s.heap.size)) (F0 m 78 ls []) := by
          intro v4_18 S19 H locs ls h hP hD hS hl
          rw [hj20] at h
          refine lv_aload_n hx hb dX12_faultOf_78 rfl (lv_at hl 0 rfl) ?_
          refine va_get (D := D) (ci := 12) (v := .int (gX12_at S19)) (C := RX12) (T := TX12) (N := 12) hx hb hts hinX12 hown hK hP 0 rfl rfl 10 (by decide) hf179 (fun _ h9 => h9) rfl dX12_faultOf_79 ?_
          refine lv_iload_n hx hb dX12_faultOf_82 rfl (lv_at hl 2 rfl) ?_
          refine lv_icmp_ne (tgt := 91) hx hb dX12_faultOf_83 (by decide) (fun cc => ?_) (fun cc => ?_)
          · have h := ite_n cc h
            refine lv_iload_n hx hb dX12_faultOf_91 rfl (lv_at hl 1 rfl) ?_
            refine lv_iconst (v := (-1 : Int32)) hx hb dX12_faultOf_92 (by decide) ?_
            obtain ⟨j22, hj22, h⟩ := jn_elim h
            have Jj22 : ∀ (x21 : Int32) (ls : Array Slot), j22 x21 = some rs → lv_has ls 5 [(0, .ref (a o)), (4, .int v4_18)] → W p l e (headSpec wsX12_faultOf ({ frames := 1, cells := 0, slots := 0, locals := 23 } : Room)).room s m ([.ref (a o)] : List Value).toArray below meth c H locs 0 0 (MQ below (va_Qi (fun r (u : SX12) => (r, u) = rs) (fun u t => mB D s.heap.size (wX12 cy a o S) (wX12 cy a o u) t) (va_A (wX12 cy a o S) s.heap.size)) ([.ref (a o)] : List Value).toArray s 0 0 (va_A (wX12 cy a o S) s.heap.size)) (F0 m 110 ls [.int x21]) := by
              intro x21 ls h hl
              rw [hj22] at h
              refine lv_istore_n (lv' := [(1, .int x21), (0, .ref (a o)), (4, .int v4_18)]) hx hb dX12_faultOf_110 rfl hl (by decide) rfl (fun ls hl => ?_)
              refine lv_aload_n hx hb dX12_faultOf_111 rfl (lv_at hl 1 rfl) ?_
              refine va_get (D := D) (ci := 12) (v := .ref (a (o + 6))) (C := RX12) (T := TX12) (N := 12) hx hb hts hinX12 hown hK hP 0 rfl rfl 8 (by decide) hf25 (fun _ h9 => h9) rfl dX12_faultOf_112 ?_
              refine lv_aload_n hx hb dX12_faultOf_115 rfl (lv_at hl 1 rfl) ?_
              refine va_get (D := D) (ci := 12) (v := .int (gX12_found S19)) (C := RX12) (T := TX12) (N := 12) hx hb hts hinX12 hown hK hP 0 rfl rfl 9 (by decide) hf76 (fun _ h9 => h9) rfl dX12_faultOf_116 ?_
              refine lv_iload hx hb dX12_faultOf_119 (lv_at hl 2 rfl) ?_
              obtain ⟨g23, h⟩ := gd_some h
              refine r_ast (f := (gX12_draft S19)) (f' := (upd (gX12_draft S19) (((gX12_found S19)).toNatClampNeg) v4_18)) (n := 4) (ws' := (wX12 cy a o (uX12_draft S19 (upd (gX12_draft S19) (((gX12_found S19)).toNatClampNeg) v4_18)))) hx hb hK hP hD hS 6 0 rfl rfl (gIn_in g23) rfl rfl dX12_faultOf_121 (fun H locs hP hD hS => ?_)
              obtain ⟨S24, eS25, h⟩ := lt_elim h
              have hP : va_P D vwCl (wX12 cy a o S24) H := by rw [eS25]; exact hP
              have hD : va_D (va_A (wX12 cy a o S) s.heap.size) (wX12 cy a o S24) := by rw [eS25]; exact hD
              refine lv_aload_n hx hb dX12_faultOf_122 rfl (lv_at hl 1 rfl) ?_
              refine lv_dup hx hb dX12_faultOf_123 rfl ?_
              refine va_get (D := D) (ci := 12) (v := .int (gX12_found S24)) (C := RX12) (T := TX12) (N := 12) hx hb hts hinX12 hown hK hP 0 rfl rfl 9 (by decide) hf76 (fun _ h9 => h9) rfl dX12_faultOf_124 ?_
              refine lv_iconst (v := (1 : Int32)) hx hb dX12_faultOf_127 (by decide) ?_
              refine lv_iadd hx hb dX12_faultOf_128 ?_
              refine va_put (D := D) (ci := 12) (v := .int ((gX12_found S24) + (1 : Int32))) (ty := .int) (C := RX12) (T := TX12) (N := 12) hx hb hts hinX12 tyX12 tyX12_ok nmX12 hown hK hP hD hS 0 rfl rfl 9 (by decide) hf76 (fun _ h9 => h9) rfl (by decide +kernel) rfl rfl (Nat.le_of_ble_eq_true rfl) dX12_faultOf_129 (fun H locs hP hD hS => ?_)
              have hP : va_P D vwCl (wX12 cy a o (uX12_found S24 ((gX12_found S24) + (1 : Int32)))) H := hP
              have hD : va_D (va_A (wX12 cy a o S) s.heap.size) (wX12 cy a o (uX12_found S24 ((gX12_found S24) + (1 : Int32)))) := hD
              obtain ⟨S26, eS27, h⟩ := lt_elim h
              have hP : va_P D vwCl (wX12 cy a o S26) H := by rw [eS27]; exact hP
              have hD : va_D (va_A (wX12 cy a o S) s.heap.size) (wX12 cy a o S26) := by rw [eS27]; exact hD
              refine lv_aload_n hx hb dX12_faultOf_132 rfl (lv_at hl 1 rfl) ?_
              obtain ⟨x28, e29, h⟩ := bd_some h
              refine pcV (As := []) (rest := []) (q0 := 0) (qX12_here l D cy a o S26  x28 e29) ⟨hx, hb, hml, hown, hts⟩ (cwV 0 hts gX12_faultOf_X12_here rfl rfl rfl (by decide +kernel) ⟨Nat.le_of_ble_eq_true rfl, Nat.le_of_ble_eq_true rfl⟩) hG hP rfl rfl rfl hl.1 rfl (Nat.le_of_ble_eq_true rfl) dX12_faultOf_133 ⟨Nat.zero_le _, Nat.zero_le _⟩ ?_
              refine lv_bipush (v := (44 : Int32)) hx hb dX12_faultOf_136 (by decide) ?_
              obtain ⟨j31, hj31, h⟩ := jn_elim h
              have Jj31 : ∀ (x30 : Int32) (ls : Array Slot), j31 x30 = some rs → lv_has ls 5 [(0, .ref (a o)), (1, .int x21)] → W p l e (headSpec wsX12_faultOf ({ frames := 1, cells := 0, slots := 0, locals := 23 } : Room)).room s m ([.ref (a o)] : List Value).toArray below meth c H locs 0 0 (MQ below (va_Qi (fun r (u : SX12) => (r, u) = rs) (fun u t => mB D s.heap.size (wX12 cy a o S) (wX12 cy a o u) t) (va_A (wX12 cy a o S) s.heap.size)) ([.ref (a o)] : List Value).toArray s 0 0 (va_A (wX12 cy a o S) s.heap.size)) (F0 m 154 ls [.int x30]) := by
                intro x30 ls h hl
                rw [hj31] at h
                refine lv_istore_n (lv' := [(2, .int x30), (0, .ref (a o)), (1, .int x21)]) hx hb dX12_faultOf_154 rfl hl (by decide) rfl (fun ls hl => ?_)
                refine lv_aload_n hx hb dX12_faultOf_155 rfl (lv_at hl 1 rfl) ?_
                refine lv_dup hx hb dX12_faultOf_156 rfl ?_
                refine va_get (D := D) (ci := 12) (v := .int (gX12_at S26)) (C := RX12) (T := TX12) (N := 12) hx hb hts hinX12 hown hK hP 0 rfl rfl 10 (by decide) hf179 (fun _ h9 => h9) rfl dX12_faultOf_157 ?_
                refine lv_iload_n hx hb dX12_faultOf_160 rfl (lv_at hl 0 rfl) ?_
                obtain ⟨j33, hj33, h⟩ := jn_elim h
                have Jj33 : ∀ (x32 : Int32) (ls : Array Slot), j33 x32 = some rs → lv_has ls 5 [(0, .ref (a o)), (1, .int x21), (2, .int x30)] → W p l e (headSpec wsX12_faultOf ({ frames := 1, cells := 0, slots := 0, locals := 23 } : Room)).room s m ([.ref (a o)] : List Value).toArray below meth c H locs 0 0 (MQ below (va_Qi (fun r (u : SX12) => (r, u) = rs) (fun u t => mB D s.heap.size (wX12 cy a o S) (wX12 cy a o u) t) (va_A (wX12 cy a o S) s.heap.size)) ([.ref (a o)] : List Value).toArray s 0 0 (va_A (wX12 cy a o S) s.heap.size)) (F0 m 169 ls [.int x32, .int (gX12_at S26), .ref (a o)]) := by
                  intro x32 ls h hl
                  rw [hj33] at h
                  refine lv_iadd hx hb dX12_faultOf_169 ?_
                  refine va_put (D := D) (ci := 12) (v := .int ((gX12_at S26) + x32)) (ty := .int) (C := RX12) (T := TX12) (N := 12) hx hb hts hinX12 tyX12 tyX12_ok nmX12 hown hK hP hD hS 0 rfl rfl 10 (by decide) hf179 (fun _ h9 => h9) rfl (by decide +kernel) rfl rfl (Nat.le_of_ble_eq_true rfl) dX12_faultOf_170 (fun H locs hP hD hS => ?_)
                  have hP : va_P D vwCl (wX12 cy a o (uX12_at S26 ((gX12_at S26) + x32))) H := hP
                  have hD : va_D (va_A (wX12 cy a o S) s.heap.size) (wX12 cy a o (uX12_at S26 ((gX12_at S26) + x32))) := hD
                  obtain ⟨S34, eS35, h⟩ := lt_elim h
                  have hP : va_P D vwCl (wX12 cy a o S34) H := by rw [eS35]; exact hP
                  have hD : va_D (va_A (wX12 cy a o S) s.heap.size) (wX12 cy a o S34) := by rw [eS35]; exact hD
                  refine lv_goto (tgt := 14) hx hb dX12_faultOf_173 (by decide) ?_
                  exact ih x21 x30 S34 H locs ls h hP hD hS (lv_sub hl [0, 1, 2] rfl)
                refine lv_if_eq (tgt := 168) hx hb dX12_faultOf_161 (by decide) (fun cc => ?_) (fun cc => ?_)
                · have h := ite_p cc h
                  refine lv_iconst (v := (0 : Int32)) hx hb dX12_faultOf_168 (by decide) ?_
                  exact Jj33 (0 : Int32) ls h (lv_sub hl [1, 2, 0] rfl)
                · have h := ite_n cc h
                  refine lv_iconst (v := (1 : Int32)) hx hb dX12_faultOf_164 (by decide) ?_
                  refine lv_goto (tgt := 169) hx hb dX12_faultOf_165 (by decide) ?_
                  exact Jj33 (1 : Int32) ls h (lv_sub hl [1, 2, 0] rfl)
              obtain ⟨j36, hj36, h⟩ := jn_elim h
              have Jj36 : ∀ (ls : Array Slot), j36 () = some rs → lv_has ls 5 [(0, .ref (a o)), (1, .int x21)] → W p l e (headSpec wsX12_faultOf ({ frames := 1, cells := 0, slots := 0, locals := 23 } : Room)).room s m ([.ref (a o)] : List Value).toArray below meth c H locs 0 0 (MQ below (va_Qi (fun r (u : SX12) => (r, u) = rs) (fun u t => mB D s.heap.size (wX12 cy a o S) (wX12 cy a o u) t) (va_A (wX12 cy a o S) s.heap.size)) ([.ref (a o)] : List Value).toArray s 0 0 (va_A (wX12 cy a o S) s.heap.size)) (F0 m 153 ls []) := by
                intro ls h hl
                rw [hj36] at h
                refine lv_iconst (v := (0 : Int32)) hx hb dX12_faultOf_153 (by decide) ?_
                exact Jj31 (0 : Int32) ls h (lv_sub hl [0, 1] rfl)
              refine lv_icmp_ne (tgt := 153) hx hb dX12_faultOf_138 (by decide) (fun cc => ?_) (fun cc => ?_)
              · have h := ite_n cc h
                exact Jj36  ls h (lv_sub hl [1, 0] rfl)
              · have h := ite_p cc h
                refine lv_aload_n hx hb dX12_faultOf_141 rfl (lv_at hl 1 rfl) ?_
                refine va_get (D := D) (ci := 12) (v := .int (gX12_found S26)) (C := RX12) (T := TX12) (N := 12) hx hb hts hinX12 hown hK hP 0 rfl rfl 9 (by decide) hf76 (fun _ h9 => h9) rfl dX12_faultOf_142 ?_
                refine lv_iconst (v := (4 : Int32)) hx hb dX12_faultOf_145 (by decide) ?_
                refine lv_icmp_ge (tgt := 153) hx hb dX12_faultOf_146 (by decide) (fun cc => ?_) (fun cc => ?_)
                · have h := ite_p cc h
                  exact Jj36  ls h (lv_sub hl [1, 0] rfl)
                · have h := ite_n cc h
                  refine lv_iconst (v := (1 : Int32)) hx hb dX12_faultOf_149 (by decide) ?_
                  refine lv_goto (tgt := 154) hx hb dX12_faultOf_150 (by decide) ?_
                  exact Jj31 (1 : Int32) ls h (lv_sub hl [1, 0] rfl)
            obtain ⟨j37, hj37, h⟩ := jn_elim h
            have Jj37 : ∀ (ls : Array Slot), j37 () = some rs → lv_has ls 5 [(0, .ref (a o)), (1, .int v1_16), (4, .int v4_18)] → W p l e (headSpec wsX12_faultOf ({ frames := 1, cells := 0, slots := 0, locals := 23 } : Room)).room s m ([.ref (a o)] : List Value).toArray below meth c H locs 0 0 (MQ below (va_Qi (fun r (u : SX12) => (r, u) = rs) (fun u t => mB D s.heap.size (wX12 cy a o S) (wX12 cy a o u) t) (va_A (wX12 cy a o S) s.heap.size)) ([.ref (a o)] : List Value).toArray s 0 0 (va_A (wX12 cy a o S) s.heap.size)) (F0 m 109 ls []) := by
              intro ls h hl
              rw [hj37] at h
              refine lv_iload_n hx hb dX12_faultOf_109 rfl (lv_at hl 1 rfl) ?_
              exact Jj22 v1_16 ls h (lv_sub hl [0, 2] rfl)
            refine lv_icmp_ne (tgt := 109) hx hb dX12_faultOf_93 (by decide) (fun cc => ?_) (fun cc => ?_)
            · have h := ite_n cc h
              exact Jj37  ls h (lv_sub hl [0, 1, 3] rfl)
            · have h := ite_p cc h
              refine lv_aload_n hx hb dX12_faultOf_96 rfl (lv_at hl 0 rfl) ?_
              refine lv_iload hx hb dX12_faultOf_97 (lv_at hl 3 rfl) ?_
              obtain ⟨x38, e39, h⟩ := bd_some h
              refine pcV (As := [.int v4_18]) (rest := []) (q0 := 0) (qX12_isFit l D cy a o S19 v4_18 x38 e39) ⟨hx, hb, hml, hown, hts⟩ (cwV 1 hts gX12_faultOf_X12_isFit rfl rfl rfl (by decide +kernel) ⟨Nat.le_of_ble_eq_true rfl, Nat.le_of_ble_eq_true rfl⟩) hG hP rfl rfl rfl hl.1 rfl (Nat.le_of_ble_eq_true rfl) dX12_faultOf_99 ⟨Nat.zero_le _, Nat.zero_le _⟩ ?_
              refine lv_if_ne (tgt := 109) hx hb dX12_faultOf_102 (by decide) (fun cc => ?_) (fun cc => ?_)
              · have h := ite_n cc h
                exact Jj37  ls h (lv_sub hl [0, 1, 3] rfl)
              · have h := ite_p cc h
                refine lv_iload_n hx hb dX12_faultOf_105 rfl (lv_at hl 2 rfl) ?_
                refine lv_goto (tgt := 110) hx hb dX12_faultOf_106 (by decide) ?_
                exact Jj22 (gX12_at S5) ls h (lv_sub hl [0, 3] rfl)
          · have h := ite_p cc h
            exact hk6 S19 H locs ls h hP hD hS (lv_sub hl [0] rfl)
        have L55 : ∀ (c1_40 : Int32) (c3_41 : Int32) (k43 : Int32 → SX12 → Option (Int32 × SX12)) (hk43 : ∀ (v4_44 : Int32) (S45 : SX12) (H : Heap) (locs : List Loc) (ls : Array Slot), k43 v4_44 S45 = some rs → va_P D vwCl (wX12 cy a o S45) H → va_D (va_A (wX12 cy a o S) s.heap.size) (wX12 cy a o S45) → va_S (va_A (wX12 cy a o S) s.heap.size) s.heap H locs → lv_has ls 5 [(0, .ref (a o)), (1, .int c1_40), (3, .int c3_41), (4, .int v4_44)] → W p l e (headSpec wsX12_faultOf ({ frames := 1, cells := 0, slots := 0, locals := 23 } : Room)).room s m ([.ref (a o)] : List Value).toArray below meth c H locs 0 0 (MQ below (va_Qi (fun r (u : SX12) => (r, u) = rs) (fun u t => mB D s.heap.size (wX12 cy a o S) (wX12 cy a o u) t) (va_A (wX12 cy a o S) s.heap.size)) ([.ref (a o)] : List Value).toArray s 0 0 (va_A (wX12 cy a o S) s.heap.size)) (F0 m 78 ls [])) (f : Nat) (v4_46 : Int32) (S42 : SX12) (H : Heap) (locs : List Loc) (ls : Array Slot), DX12_faultOf_L26 c1_40 c3_41 k43 f v4_46 S42 = some rs → va_P D vwCl (wX12 cy a o S42) H → va_D (va_A (wX12 cy a o S) s.heap.size) (wX12 cy a o S42) → va_S (va_A (wX12 cy a o S) s.heap.size) s.heap H locs → lv_has ls 5 [(0, .ref (a o)), (1, .int c1_40), (3, .int c3_41), (4, .int v4_46)] → W p l e (headSpec wsX12_faultOf ({ frames := 1, cells := 0, slots := 0, locals := 23 } : Room)).room s m ([.ref (a o)] : List Value).toArray below meth c H locs 0 0 (MQ below (va_Qi (fun r (u : SX12) => (r, u) = rs) (fun u t => mB D s.heap.size (wX12 cy a o S) (wX12 cy a o u) t) (va_A (wX12 cy a o S) s.heap.size)) ([.ref (a o)] : List Value).toArray s 0 0 (va_A (wX12 cy a o S) s.heap.size)) (F0 m 26 ls []) := by
          intro c1_40 c3_41 k43 hk43 f
          induction f with
          | zero =>
            intro v4_46 S42 H locs ls h hP hD hS hl
            rw [DX12_faultOf_L26] at h
            cases h
          | succ f ih =>
            intro v4_46 S42 H locs ls h hP hD hS hl
            rw [DX12_faultOf_L26] at h
            refine lv_aload_n hx hb dX12_faultOf_26 rfl (lv_at hl 0 rfl) ?_
            refine va_get (D := D) (ci := 12) (v := .int (gX12_at S42)) (C := RX12) (T := TX12) (N := 12) hx hb hts hinX12 hown hK hP 0 rfl rfl 10 (by decide) hf179 (fun _ h9 => h9) rfl dX12_faultOf_27 ?_
            refine lv_iload_n hx hb dX12_faultOf_30 rfl (lv_at hl 2 rfl) ?_
            refine lv_iconst (v := (2 : Int32)) hx hb dX12_faultOf_31 (by decide) ?_
            refine lv_iadd hx hb dX12_faultOf_32 ?_
            refine lv_icmp_ge (tgt := 78) hx hb dX12_faultOf_33 (by decide) (fun cc => ?_) (fun cc => ?_)
            · have h := ite_p cc h
              exact hk43 v4_46 S42 H locs ls h hP hD hS (lv_sub hl [0, 1, 2, 3] rfl)
            · have h := ite_n cc h
              refine lv_aload_n hx hb dX12_faultOf_36 rfl (lv_at hl 0 rfl) ?_
              obtain ⟨x47, e48, h⟩ := bd_some h
              refine pcV (As := []) (rest := []) (q0 := 0) (qX12_here l D cy a o S42  x47 e48) ⟨hx, hb, hml, hown, hts⟩ (cwV 0 hts gX12_faultOf_X12_here rfl rfl rfl (by decide +kernel) ⟨Nat.le_of_ble_eq_true rfl, Nat.le_of_ble_eq_true rfl⟩) hG hP rfl rfl rfl hl.1 rfl (Nat.le_of_ble_eq_true rfl) dX12_faultOf_37 ⟨Nat.zero_le _, Nat.zero_le _⟩ ?_
              refine lv_bipush (v := (48 : Int32)) hx hb dX12_faultOf_40 (by decide) ?_
              refine lv_bipush (v := (57 : Int32)) hx hb dX12_faultOf_42 (by decide) ?_
              obtain ⟨x49, e50, h⟩ := bd_some h
              refine pcS (As := [.int x47, .int (48 : Int32), .int (57 : Int32)]) (rest := []) (qX12_in l D cy  x47 (48 : Int32) (57 : Int32) x49 e50) ⟨hx, hb, hml, hown, hts⟩ (va_cwS 3 hts gX12_faultOf_X12_in rfl rfl rfl (by decide +kernel) ⟨Nat.le_of_ble_eq_true rfl, Nat.le_of_ble_eq_true rfl⟩) hG (hP.sub [] rfl) rfl hl.1 rfl (Nat.le_of_ble_eq_true rfl) dX12_faultOf_44 ⟨Nat.zero_le _, Nat.zero_le _⟩ ?_
              refine lv_if_eq (tgt := 78) hx hb dX12_faultOf_47 (by decide) (fun cc => ?_) (fun cc => ?_)
              · have h := ite_p cc h
                exact hk43 v4_46 S42 H locs ls h hP hD hS (lv_sub hl [0, 1, 2, 3] rfl)
              · have h := ite_n cc h
                refine lv_bipush (v := (10 : Int32)) hx hb dX12_faultOf_50 (by decide) ?_
                refine lv_iload hx hb dX12_faultOf_52 (lv_at hl 3 rfl) ?_
                refine lv_imul hx hb dX12_faultOf_54 ?_
                refine lv_aload_n hx hb dX12_faultOf_55 rfl (lv_at hl 0 rfl) ?_
                obtain ⟨x51, e52, h⟩ := bd_some h
                refine pcV (As := []) (rest := [.int ((10 : Int32) * v4_46)]) (q0 := 0) (qX12_here l D cy a o S42  x51 e52) ⟨hx, hb, hml, hown, hts⟩ (cwV 0 hts gX12_faultOf_X12_here rfl rfl rfl (by decide +kernel) ⟨Nat.le_of_ble_eq_true rfl, Nat.le_of_ble_eq_true rfl⟩) hG hP rfl rfl rfl hl.1 rfl (Nat.le_of_ble_eq_true rfl) dX12_faultOf_56 ⟨Nat.zero_le _, Nat.zero_le _⟩ ?_
                refine lv_iadd hx hb dX12_faultOf_59 ?_
                refine lv_bipush (v := (48 : Int32)) hx hb dX12_faultOf_60 (by decide) ?_
                refine lv_isub hx hb dX12_faultOf_62 ?_
                refine lv_istore (lv' := [(4, .int ((((10 : Int32) * v4_46) + x51) - (48 : Int32))), (0, .ref (a o)), (1, .int c1_40), (3, .int c3_41)]) hx hb dX12_faultOf_63 hl (by decide) rfl (fun ls hl => ?_)
                refine lv_aload_n hx hb dX12_faultOf_65 rfl (lv_at hl 1 rfl) ?_
                refine lv_dup hx hb dX12_faultOf_66 rfl ?_
                refine va_get (D := D) (ci := 12) (v := .int (gX12_at S42)) (C := RX12) (T := TX12) (N := 12) hx hb hts hinX12 hown hK hP 0 rfl rfl 10 (by decide) hf179 (fun _ h9 => h9) rfl dX12_faultOf_67 ?_
                refine lv_iconst (v := (1 : Int32)) hx hb dX12_faultOf_70 (by decide) ?_
                refine lv_iadd hx hb dX12_faultOf_71 ?_
                refine va_put (D := D) (ci := 12) (v := .int ((gX12_at S42) + (1 : Int32))) (ty := .int) (C := RX12) (T := TX12) (N := 12) hx hb hts hinX12 tyX12 tyX12_ok nmX12 hown hK hP hD hS 0 rfl rfl 10 (by decide) hf179 (fun _ h9 => h9) rfl (by decide +kernel) rfl rfl (Nat.le_of_ble_eq_true rfl) dX12_faultOf_72 (fun H locs hP hD hS => ?_)
                have hP : va_P D vwCl (wX12 cy a o (uX12_at S42 ((gX12_at S42) + (1 : Int32)))) H := hP
                have hD : va_D (va_A (wX12 cy a o S) s.heap.size) (wX12 cy a o (uX12_at S42 ((gX12_at S42) + (1 : Int32)))) := hD
                obtain ⟨S53, eS54, h⟩ := lt_elim h
                have hP : va_P D vwCl (wX12 cy a o S53) H := by rw [eS54]; exact hP
                have hD : va_D (va_A (wX12 cy a o S) s.heap.size) (wX12 cy a o S53) := by rw [eS54]; exact hD
                refine lv_goto (tgt := 26) hx hb dX12_faultOf_75 (by decide) ?_
                exact ih ((((10 : Int32) * v4_46) + x51) - (48 : Int32)) S53 H locs ls h hP hD hS (lv_sub hl [1, 2, 3, 0] rfl)
        exact L55 v1_16 (gX12_at S5) _ Jj20 fu (0 : Int32) S5 H locs ls h hP hD hS (lv_sub hl [2, 3, 1, 0] rfl)
  refine L56  _ ?_ _ ?_ fu (-1 : Int32) (1 : Int32) S3 H locs ls h hP hD hS (lv_sub hl [2, 1, 0] rfl)
  · intro S8 H locs ls h hP hD hS hl
    refine lv_aload_n hx hb dX12_faultOf_86 rfl (lv_at hl 0 rfl) ?_
    refine va_get (D := D) (ci := 12) (v := .int (gX12_at S8)) (C := RX12) (T := TX12) (N := 12) hx hb hts hinX12 hown hK hP 0 rfl rfl 10 (by decide) hf179 (fun _ h9 => h9) rfl dX12_faultOf_87 ?_
    exact W.iret (v := (gX12_at S8)) hx hb hr (fun t ht hW => ⟨⟨(gX12_at S8), S8, rfl, some_in h, by rw [ht]; exact hP, hD⟩, hS.F ht⟩) hS.2.2 dX12_faultOf_90
  · intro v1_12 S13 H locs ls h hP hD hS hl
    refine lv_aload_n hx hb dX12_faultOf_176 rfl (lv_at hl 0 rfl) ?_
    refine va_get (D := D) (ci := 12) (v := .int (gX12_at S13)) (C := RX12) (T := TX12) (N := 12) hx hb hts hinX12 hown hK hP 0 rfl rfl 10 (by decide) hf179 (fun _ h9 => h9) rfl dX12_faultOf_177 ?_
    refine lv_aload_n hx hb dX12_faultOf_180 rfl (lv_at hl 0 rfl) ?_
    refine va_get (D := D) (ci := 12) (v := .int (gX12_textLength S13)) (C := RX12) (T := TX12) (N := 12) hx hb hts hinX12 hown hK hP 0 rfl rfl 4 (by decide) hf176 (fun _ h9 => h9) rfl dX12_faultOf_181 ?_
    obtain ⟨j15, hj15, h⟩ := jn_elim h
    have Jj15 : ∀ (x14 : Int32) (ls : Array Slot), j15 x14 = some rs → lv_has ls 5 [] → W p l e (headSpec wsX12_faultOf ({ frames := 1, cells := 0, slots := 0, locals := 23 } : Room)).room s m ([.ref (a o)] : List Value).toArray below meth c H locs 0 0 (MQ below (va_Qi (fun r (u : SX12) => (r, u) = rs) (fun u t => mB D s.heap.size (wX12 cy a o S) (wX12 cy a o u) t) (va_A (wX12 cy a o S) s.heap.size)) ([.ref (a o)] : List Value).toArray s 0 0 (va_A (wX12 cy a o S) s.heap.size)) (F0 m 195 ls [.int x14]) := by
      intro x14 ls h hl
      rw [hj15] at h
      exact W.iret (v := x14) hx hb hr (fun t ht hW => ⟨⟨x14, S13, rfl, some_in h, by rw [ht]; exact hP, hD⟩, hS.F ht⟩) hS.2.2 dX12_faultOf_195
    refine lv_icmp_ge (tgt := 194) hx hb dX12_faultOf_184 (by decide) (fun cc => ?_) (fun cc => ?_)
    · have h := ite_p cc h
      refine lv_iload_n hx hb dX12_faultOf_194 rfl (lv_at hl 1 rfl) ?_
      exact Jj15 v1_12 ls h (lv_sub hl [] rfl)
    · have h := ite_n cc h
      refine lv_aload_n hx hb dX12_faultOf_187 rfl (lv_at hl 0 rfl) ?_
      refine va_get (D := D) (ci := 12) (v := .int (gX12_at S13)) (C := RX12) (T := TX12) (N := 12) hx hb hts hinX12 hown hK hP 0 rfl rfl 10 (by decide) hf179 (fun _ h9 => h9) rfl dX12_faultOf_188 ?_
      refine lv_goto (tgt := 195) hx hb dX12_faultOf_191 (by decide) ?_
      exact Jj15 (gX12_at S13) ls h (lv_sub hl [] rfl)
set_option maxHeartbeats 4000000 in
set_option maxRecDepth 100000 in
theorem qX12_setProgram (l : Launch) (D : va_G) (cy : Nat → ClassId) (a : Nat → Nat) (o : Nat) (S : SX12) (p1 : Int32) (p2 : Int32) (sz : Nat) (rs : Int32 × SX12) (h : DX12_setProgram S p1 p2 = some rs) : Met l yX12_setProgram wsX12_setProgram ({ frames := 2, cells := 0, slots := 0, locals := 47 } : Room) (mP D cy sz [.ref (a o), .int p1, .int p2] (wX12 cy a o S)) (va_Qi (fun r (u : SX12) => (r, u) = rs) (fun u t => mB D sz (wX12 cy a o S) (wX12 cy a o u) t) (va_A (wX12 cy a o S) sz)) 0 0 (va_A (wX12 cy a o S) sz) := by
  refine Met.ofW (cc := cX12_setProgram) (maxL := 5) (ret := (some .int)) (by decide) rfl ?_
  intro p e s m args below meth c s₁ B hml hv
  obtain ⟨rfl, hsz, hP, hG, hD0⟩ := hv
  have hx := B.exec
  have hb := B.bytes
  have hr := B.returns
  have hts := atoms_spec (ws := wsX12_setProgram) B.pre
  have hown : s.vm.findClass RX12 = some m.cls := findClass_of_methodNamed B.named
  have hlocks := B.notSynchronized
  have hK := hG.1
  subst hsz
  have hD := hD0.self (sz := s.heap.size)
  have hA : ∀ q : Nat, s.heap.size ≤ q → (va_A (wX12 cy a o S) s.heap.size) q := fun q h => Or.inr h
  have hS : va_S (va_A (wX12 cy a o S) s.heap.size) s.heap s.heap [] := va_S.rf
  have hinX12 := (by decide +kernel : ∀ w ∈ wsX120, w ∈ wsX12_setProgram)
  have hf31 := hts (.fieldLink RX12 31 "PianoRoundsModel" "code" "I") (by decide +kernel)
  have hf7 := hts (.fieldLink RX12 7 "PianoRoundsModel" "m" "[I") (by decide +kernel)
  have hf76 := hts (.fieldLink RX12 76 "PianoRoundsModel" "found" "I") (by decide +kernel)
  have hf25 := hts (.fieldLink RX12 25 "PianoRoundsModel" "draft" "[I") (by decide +kernel)
  have hl := lv_entry ([.ref (a o), .int p1, .int p2]) (n := 5) (Nat.le_of_ble_eq_true rfl)
  rw [lg_entry_eq]
  generalize (lg_sl ([.ref (a o), .int p1, .int p2]) ++ List.replicate (5 - (lg_sl ([.ref (a o), .int p1, .int p2])).length) Slot.unset).toArray = ls at hl ⊢
  have hl : lv_has ls 5 [(0, .ref (a o)), (1, .int p1), (2, .int p2)] := hl
  rw [DX12_setProgram] at h
  refine lv_aload_n hx hb dX12_setProgram_0 rfl (lv_at hl 0 rfl) ?_
  refine lv_aload_n hx hb dX12_setProgram_1 rfl (lv_at hl 0 rfl) ?_
  refine lv_iload_n hx hb dX12_setProgram_2 rfl (lv_at hl 1 rfl) ?_
  obtain ⟨x1, e2, h⟩ := bd_some h
  refine pcV (As := [.int p1]) (rest := [.ref (a o)]) (q0 := 0) (qX12_isEntrant l D cy a o S p1 x1 e2) ⟨hx, hb, hml, hown, hts⟩ (cwV 1 hts gX12_setProgram_X12_isEntrant rfl rfl rfl (by decide +kernel) ⟨Nat.le_of_ble_eq_true rfl, Nat.le_of_ble_eq_true rfl⟩) hG hP rfl rfl rfl hl.1 rfl (Nat.le_of_ble_eq_true rfl) dX12_setProgram_3 ⟨Nat.zero_le _, Nat.zero_le _⟩ ?_
  obtain ⟨j5, hj5, h⟩ := jn_elim h
  have Jj5 : ∀ (x3 : Int32) (S4 : SX12) (H : Heap) (locs : List Loc) (ls : Array Slot), j5 x3 S4 = some rs → va_P D vwCl (wX12 cy a o S4) H → va_D (va_A (wX12 cy a o S) s.heap.size) (wX12 cy a o S4) → va_S (va_A (wX12 cy a o S) s.heap.size) s.heap H locs → lv_has ls 5 [(0, .ref (a o)), (1, .int p1), (2, .int p2)] → W p l e (headSpec wsX12_setProgram ({ frames := 2, cells := 0, slots := 0, locals := 47 } : Room)).room s m ([.ref (a o), .int p1, .int p2] : List Value).toArray below meth c H locs 0 0 (MQ below (va_Qi (fun r (u : SX12) => (r, u) = rs) (fun u t => mB D s.heap.size (wX12 cy a o S) (wX12 cy a o u) t) (va_A (wX12 cy a o S) s.heap.size)) ([.ref (a o), .int p1, .int p2] : List Value).toArray s 0 0 (va_A (wX12 cy a o S) s.heap.size)) (F0 m 33 ls [.int x3, .ref (a o)]) := by
    intro x3 S4 H locs ls h hP hD hS hl
    rw [hj5] at h
    refine va_put (D := D) (ci := 12) (v := .int x3) (ty := .int) (C := RX12) (T := TX12) (N := 12) hx hb hts hinX12 tyX12 tyX12_ok nmX12 hown hK hP hD hS 0 rfl rfl 5 (by decide) hf31 (fun _ h9 => h9) rfl (by decide +kernel) rfl rfl (Nat.le_of_ble_eq_true rfl) dX12_setProgram_33 (fun H locs hP hD hS => ?_)
    have hP : va_P D vwCl (wX12 cy a o (uX12_code S4 x3)) H := hP
    have hD : va_D (va_A (wX12 cy a o S) s.heap.size) (wX12 cy a o (uX12_code S4 x3)) := hD
    obtain ⟨S6, eS7, h⟩ := lt_elim h
    have hP : va_P D vwCl (wX12 cy a o S6) H := by rw [eS7]; exact hP
    have hD : va_D (va_A (wX12 cy a o S) s.heap.size) (wX12 cy a o S6) := by rw [eS7]; exact hD
    refine lv_aload_n hx hb dX12_setProgram_36 rfl (lv_at hl 0 rfl) ?_
    refine va_get (D := D) (ci := 12) (v := .int (gX12_code S6)) (C := RX12) (T := TX12) (N := 12) hx hb hts hinX12 hown hK hP 0 rfl rfl 5 (by decide) hf31 (fun _ h9 => h9) rfl dX12_setProgram_37 ?_
    refine lv_if_eq (tgt := 45) hx hb dX12_setProgram_40 (by decide) (fun cc => ?_) (fun cc => ?_)
    · have h := ite_p cc h
      refine lv_aload_n hx hb dX12_setProgram_45 rfl (lv_at hl 0 rfl) ?_
      obtain ⟨x8, e9, h⟩ := bd_some h
      refine smVv (As := []) (rest := []) (ws' := (wX12 cy a o x8)) (q0 := 0) (qX12_keep l D cy a o S6  (H).size x8 e9) ⟨hx, hb, hml, hown, hts⟩ (cwV 0 hts gX12_setProgram_X12_keep rfl rfl rfl (by decide +kernel) ⟨Nat.le_of_ble_eq_true rfl, Nat.le_of_ble_eq_true rfl⟩) hG hP hD hS hA (pm1 (X := ([] : va_W)) (c := (wX12 cy a o S6)) (Y := ([] : va_W)) (show (wX12 cy a o S6) = ([] : va_W) ++ ((wX12 cy a o S6) ++ ([] : va_W)) from by simp only [List.append_assoc, List.nil_append, List.append_nil] <;> rfl)) (pm1 (X := ([] : va_W)) (c := (wX12 cy a o x8)) (Y := ([] : va_W)) (show (wX12 cy a o x8) = ([] : va_W) ++ ((wX12 cy a o x8) ++ ([] : va_W)) from by simp only [List.append_assoc, List.nil_append, List.append_nil] <;> rfl)) rfl rfl rfl hl.1 rfl (Nat.le_of_ble_eq_true rfl) dX12_setProgram_46 ⟨Nat.zero_le _, Nat.zero_le _⟩ (fun H locs hP hD hS => ?_)
      refine lv_iload_n hx hb dX12_setProgram_49 rfl (lv_at hl 1 rfl) ?_
      refine lv_iload_n hx hb dX12_setProgram_50 rfl (lv_at hl 2 rfl) ?_
      obtain ⟨x10, e11, h⟩ := bd_some h
      refine pcS (As := [.int p1, .int p2]) (rest := []) (qX12_programAt l D cy  p1 p2 x10 e11) ⟨hx, hb, hml, hown, hts⟩ (va_cwS 2 hts gX12_setProgram_X12_programAt rfl rfl rfl (by decide +kernel) ⟨Nat.le_of_ble_eq_true rfl, Nat.le_of_ble_eq_true rfl⟩) hG (hP.sub [] rfl) rfl hl.1 rfl (Nat.le_of_ble_eq_true rfl) dX12_setProgram_51 ⟨Nat.zero_le _, Nat.zero_le _⟩ ?_
      refine lv_istore_n (lv' := [(3, .int x10), (0, .ref (a o)), (1, .int p1), (2, .int p2)]) hx hb dX12_setProgram_54 rfl hl (by decide) rfl (fun ls hl => ?_)
      refine lv_aload_n hx hb dX12_setProgram_55 rfl (lv_at hl 1 rfl) ?_
      refine va_get (D := D) (ci := 12) (v := .ref (a (o + 1))) (C := RX12) (T := TX12) (N := 12) hx hb hts hinX12 hown hK hP 0 rfl rfl 0 (by decide) hf7 (fun _ h9 => h9) rfl dX12_setProgram_56 ?_
      refine lv_iload_n hx hb dX12_setProgram_59 rfl (lv_at hl 0 rfl) ?_
      refine lv_aload_n hx hb dX12_setProgram_60 rfl (lv_at hl 1 rfl) ?_
      refine va_get (D := D) (ci := 12) (v := .int (gX12_found x8)) (C := RX12) (T := TX12) (N := 12) hx hb hts hinX12 hown hK hP 0 rfl rfl 9 (by decide) hf76 (fun _ h9 => h9) rfl dX12_setProgram_61 ?_
      obtain ⟨g12, h⟩ := gd_some h
      refine r_ast (f := (gX12_m x8)) (f' := (upd (gX12_m x8) ((x10).toNatClampNeg) (gX12_found x8))) (n := 714) (ws' := (wX12 cy a o (uX12_m x8 (upd (gX12_m x8) ((x10).toNatClampNeg) (gX12_found x8))))) hx hb hK hP hD hS 1 0 rfl rfl (gIn_in g12) rfl rfl dX12_setProgram_64 (fun H locs hP hD hS => ?_)
      obtain ⟨S13, eS14, h⟩ := lt_elim h
      have hP : va_P D vwCl (wX12 cy a o S13) H := by rw [eS14]; exact hP
      have hD : va_D (va_A (wX12 cy a o S) s.heap.size) (wX12 cy a o S13) := by rw [eS14]; exact hD
      refine lv_iconst (v := (0 : Int32)) hx hb dX12_setProgram_65 (by decide) ?_
      refine lv_istore (lv' := [(4, .int (0 : Int32)), (3, .int x10), (0, .ref (a o)), (1, .int p1), (2, .int p2)]) hx hb dX12_setProgram_66 hl (by decide) rfl (fun ls hl => ?_)
      have L25 : ∀ (c3_15 : Int32) (k17 : SX12 → Option (Int32 × SX12)) (hk17 : ∀ (S18 : SX12) (H : Heap) (locs : List Loc) (ls : Array Slot), k17 S18 = some rs → va_P D vwCl (wX12 cy a o S18) H → va_D (va_A (wX12 cy a o S) s.heap.size) (wX12 cy a o S18) → va_S (va_A (wX12 cy a o S) s.heap.size) s.heap H locs → lv_has ls 5 [(0, .ref (a o))] → W p l e (headSpec wsX12_setProgram ({ frames := 2, cells := 0, slots := 0, locals := 47 } : Room)).room s m ([.ref (a o), .int p1, .int p2] : List Value).toArray below meth c H locs 0 0 (MQ below (va_Qi (fun r (u : SX12) => (r, u) = rs) (fun u t => mB D s.heap.size (wX12 cy a o S) (wX12 cy a o u) t) (va_A (wX12 cy a o S) s.heap.size)) ([.ref (a o), .int p1, .int p2] : List Value).toArray s 0 0 (va_A (wX12 cy a o S) s.heap.size)) (F0 m 101 ls [])) (f : Nat) (v4_20 : Int32) (S16 : SX12) (H : Heap) (locs : List Loc) (ls : Array Slot), DX12_setProgram_L68 c3_15 k17 f v4_20 S16 = some rs → va_P D vwCl (wX12 cy a o S16) H → va_D (va_A (wX12 cy a o S) s.heap.size) (wX12 cy a o S16) → va_S (va_A (wX12 cy a o S) s.heap.size) s.heap H locs → lv_has ls 5 [(0, .ref (a o)), (3, .int c3_15), (4, .int v4_20)] → W p l e (headSpec wsX12_setProgram ({ frames := 2, cells := 0, slots := 0, locals := 47 } : Room)).room s m ([.ref (a o), .int p1, .int p2] : List Value).toArray below meth c H locs 0 0 (MQ below (va_Qi (fun r (u : SX12) => (r, u) = rs) (fun u t => mB D s.heap.size (wX12 cy a o S) (wX12 cy a o u) t) (va_A (wX12 cy a o S) s.heap.size)) ([.ref (a o), .int p1, .int p2] : List Value).toArray s 0 0 (va_A (wX12 cy a o S) s.heap.size)) (F0 m 68 ls []) := by
        intro c3_15 k17 hk17 f
        induction f with
        | zero =>
          intro v4_20 S16 H locs ls h hP hD hS hl
          rw [DX12_setProgram_L68] at h
          cases h
        | succ f ih =>
          intro v4_20 S16 H locs ls h hP hD hS hl
          rw [DX12_setProgram_L68] at h
          refine lv_iload hx hb dX12_setProgram_68 (lv_at hl 2 rfl) ?_
          refine lv_aload_n hx hb dX12_setProgram_70 rfl (lv_at hl 0 rfl) ?_
          refine va_get (D := D) (ci := 12) (v := .int (gX12_found S16)) (C := RX12) (T := TX12) (N := 12) hx hb hts hinX12 hown hK hP 0 rfl rfl 9 (by decide) hf76 (fun _ h9 => h9) rfl dX12_setProgram_71 ?_
          refine lv_icmp_ge (tgt := 101) hx hb dX12_setProgram_74 (by decide) (fun cc => ?_) (fun cc => ?_)
          · have h := ite_p cc h
            exact hk17 S16 H locs ls h hP hD hS (lv_sub hl [0] rfl)
          · have h := ite_n cc h
            refine lv_aload_n hx hb dX12_setProgram_77 rfl (lv_at hl 0 rfl) ?_
            refine va_get (D := D) (ci := 12) (v := .ref (a (o + 1))) (C := RX12) (T := TX12) (N := 12) hx hb hts hinX12 hown hK hP 0 rfl rfl 0 (by decide) hf7 (fun _ h9 => h9) rfl dX12_setProgram_78 ?_
            refine lv_iload_n hx hb dX12_setProgram_81 rfl (lv_at hl 1 rfl) ?_
            refine lv_iconst (v := (1 : Int32)) hx hb dX12_setProgram_82 (by decide) ?_
            refine lv_iadd hx hb dX12_setProgram_83 ?_
            refine lv_iload hx hb dX12_setProgram_84 (lv_at hl 2 rfl) ?_
            refine lv_iadd hx hb dX12_setProgram_86 ?_
            refine lv_aload_n hx hb dX12_setProgram_87 rfl (lv_at hl 0 rfl) ?_
            refine va_get (D := D) (ci := 12) (v := .ref (a (o + 6))) (C := RX12) (T := TX12) (N := 12) hx hb hts hinX12 hown hK hP 0 rfl rfl 8 (by decide) hf25 (fun _ h9 => h9) rfl dX12_setProgram_88 ?_
            refine lv_iload hx hb dX12_setProgram_91 (lv_at hl 2 rfl) ?_
            obtain ⟨g21, h⟩ := gd_some h
            refine r_ald (f := (gX12_draft S16)) (n := 4) (v := ((gX12_draft S16) ((v4_20).toNatClampNeg))) hx hb hK hP 6 0 rfl rfl (gIn_in g21) rfl dX12_setProgram_93 ?_
            obtain ⟨g22, h⟩ := gd_some h
            refine r_ast (f := (gX12_m S16)) (f' := (upd (gX12_m S16) ((((c3_15 + (1 : Int32)) + v4_20)).toNatClampNeg) ((gX12_draft S16) ((v4_20).toNatClampNeg)))) (n := 714) (ws' := (wX12 cy a o (uX12_m S16 (upd (gX12_m S16) ((((c3_15 + (1 : Int32)) + v4_20)).toNatClampNeg) ((gX12_draft S16) ((v4_20).toNatClampNeg)))))) hx hb hK hP hD hS 1 0 rfl rfl (gIn_in g22) rfl rfl dX12_setProgram_94 (fun H locs hP hD hS => ?_)
            obtain ⟨S23, eS24, h⟩ := lt_elim h
            have hP : va_P D vwCl (wX12 cy a o S23) H := by rw [eS24]; exact hP
            have hD : va_D (va_A (wX12 cy a o S) s.heap.size) (wX12 cy a o S23) := by rw [eS24]; exact hD
            refine lv_iinc (v := (v4_20 + (1 : Int32))) (lv' := [(4, .int (v4_20 + (1 : Int32))), (0, .ref (a o)), (3, .int c3_15)]) hx hb dX12_setProgram_95 hl (k := 2) rfl (by rfl) (by decide) rfl (fun ls hl => ?_)
            refine lv_goto (tgt := 68) hx hb dX12_setProgram_98 (by decide) ?_
            exact ih (v4_20 + (1 : Int32)) S23 H locs ls h hP hD hS (lv_sub hl [1, 2, 0] rfl)
      refine L25 x10 _ ?_ fu (0 : Int32) S13 H locs ls h hP hD hS (lv_sub hl [2, 1, 0] rfl)
      intro S19 H locs ls h hP hD hS hl
      refine lv_aload_n hx hb dX12_setProgram_101 rfl (lv_at hl 0 rfl) ?_
      refine va_get (D := D) (ci := 12) (v := .int (gX12_found S19)) (C := RX12) (T := TX12) (N := 12) hx hb hts hinX12 hown hK hP 0 rfl rfl 9 (by decide) hf76 (fun _ h9 => h9) rfl dX12_setProgram_102 ?_
      exact W.iret (v := (gX12_found S19)) hx hb hr (fun t ht hW => ⟨⟨(gX12_found S19), S19, rfl, some_in h, by rw [ht]; exact hP, hD⟩, hS.F ht⟩) hS.2.2 dX12_setProgram_105
    · have h := ite_n cc h
      refine lv_iconst (v := (0 : Int32)) hx hb dX12_setProgram_43 (by decide) ?_
      exact W.iret (v := (0 : Int32)) hx hb hr (fun t ht hW => ⟨⟨(0 : Int32), S6, rfl, some_in h, by rw [ht]; exact hP, hD⟩, hS.F ht⟩) hS.2.2 dX12_setProgram_44
  obtain ⟨j26, hj26, h⟩ := jn_elim h
  have Jj26 : ∀ (ls : Array Slot), j26 () = some rs → lv_has ls 5 [(0, .ref (a o)), (1, .int p1), (2, .int p2)] → W p l e (headSpec wsX12_setProgram ({ frames := 2, cells := 0, slots := 0, locals := 47 } : Room)).room s m ([.ref (a o), .int p1, .int p2] : List Value).toArray below meth c s.heap [] 0 0 (MQ below (va_Qi (fun r (u : SX12) => (r, u) = rs) (fun u t => mB D s.heap.size (wX12 cy a o S) (wX12 cy a o u) t) (va_A (wX12 cy a o S) s.heap.size)) ([.ref (a o), .int p1, .int p2] : List Value).toArray s 0 0 (va_A (wX12 cy a o S) s.heap.size)) (F0 m 16 ls [.ref (a o)]) := by
    intro ls h hl
    rw [hj26] at h
    refine lv_iconst (v := (1 : Int32)) hx hb dX12_setProgram_16 (by decide) ?_
    refine lv_goto (tgt := 33) hx hb dX12_setProgram_17 (by decide) ?_
    exact Jj5 (1 : Int32) S s.heap [] ls h hP hD hS (lv_sub hl [0, 1, 2] rfl)
  refine lv_if_eq (tgt := 16) hx hb dX12_setProgram_6 (by decide) (fun cc => ?_) (fun cc => ?_)
  · have h := ite_p cc h
    exact Jj26  ls h (lv_sub hl [0, 1, 2] rfl)
  · have h := ite_n cc h
    refine lv_iload_n hx hb dX12_setProgram_9 rfl (lv_at hl 2 rfl) ?_
    obtain ⟨x27, e28, h⟩ := bd_some h
    refine pcS (As := [.int p2]) (rest := [.ref (a o)]) (qX12_isRound l D cy  p2 x27 e28) ⟨hx, hb, hml, hown, hts⟩ (va_cwS 1 hts gX12_setProgram_X12_isRound rfl rfl rfl (by decide +kernel) ⟨Nat.le_of_ble_eq_true rfl, Nat.le_of_ble_eq_true rfl⟩) hG (hP.sub [] rfl) rfl hl.1 rfl (Nat.le_of_ble_eq_true rfl) dX12_setProgram_10 ⟨Nat.zero_le _, Nat.zero_le _⟩ ?_
    refine lv_if_ne (tgt := 20) hx hb dX12_setProgram_13 (by decide) (fun cc => ?_) (fun cc => ?_)
    · have h := ite_n cc h
      refine lv_aload_n hx hb dX12_setProgram_20 rfl (lv_at hl 0 rfl) ?_
      obtain ⟨x29, e30, h⟩ := bd_some h
      refine smVi (As := []) (rest := [.ref (a o)]) (ws' := (wX12 cy a o x29.2)) (q0 := 0) (qX12_faultOf l D cy a o S  (s.heap).size x29 e30) ⟨hx, hb, hml, hown, hts⟩ (cwV 0 hts gX12_setProgram_X12_faultOf rfl rfl rfl (by decide +kernel) ⟨Nat.le_of_ble_eq_true rfl, Nat.le_of_ble_eq_true rfl⟩) hG hP hD hS hA (pm1 (X := ([] : va_W)) (c := (wX12 cy a o S)) (Y := ([] : va_W)) (show (wX12 cy a o S) = ([] : va_W) ++ ((wX12 cy a o S) ++ ([] : va_W)) from by simp only [List.append_assoc, List.nil_append, List.append_nil] <;> rfl)) (pm1 (X := ([] : va_W)) (c := (wX12 cy a o x29.2)) (Y := ([] : va_W)) (show (wX12 cy a o x29.2) = ([] : va_W) ++ ((wX12 cy a o x29.2) ++ ([] : va_W)) from by simp only [List.append_assoc, List.nil_append, List.append_nil] <;> rfl)) rfl rfl rfl hl.1 rfl (Nat.le_of_ble_eq_true rfl) dX12_setProgram_21 ⟨Nat.zero_le _, Nat.zero_le _⟩ (fun H locs hP hD hS => ?_)
      refine lv_iconst (v := (-1 : Int32)) hx hb dX12_setProgram_24 (by decide) ?_
      refine lv_icmp_ne (tgt := 32) hx hb dX12_setProgram_25 (by decide) (fun cc => ?_) (fun cc => ?_)
      · have h := ite_n cc h
        refine lv_iconst (v := (2 : Int32)) hx hb dX12_setProgram_32 (by decide) ?_
        exact Jj5 (2 : Int32) x29.2 H locs ls h hP hD hS (lv_sub hl [0, 1, 2] rfl)
      · have h := ite_p cc h
        refine lv_iconst (v := (0 : Int32)) hx hb dX12_setProgram_28 (by decide) ?_
        refine lv_goto (tgt := 33) hx hb dX12_setProgram_29 (by decide) ?_
        exact Jj5 (0 : Int32) x29.2 H locs ls h hP hD hS (lv_sub hl [0, 1, 2] rfl)
    · have h := ite_p cc h
      exact Jj26  ls h (lv_sub hl [0, 1, 2] rfl)
set_option maxHeartbeats 4000000 in
set_option maxRecDepth 100000 in
theorem qX12_clearProgram (l : Launch) (D : va_G) (cy : Nat → ClassId) (a : Nat → Nat) (o : Nat) (S : SX12) (p1 : Int32) (p2 : Int32) (sz : Nat) (rs : Int32 × SX12) (h : DX12_clearProgram S p1 p2 = some rs) : Met l yX12_clearProgram wsX12_clearProgram ({ frames := 2, cells := 0, slots := 0, locals := 44 } : Room) (mP D cy sz [.ref (a o), .int p1, .int p2] (wX12 cy a o S)) (va_Qi (fun r (u : SX12) => (r, u) = rs) (fun u t => mB D sz (wX12 cy a o S) (wX12 cy a o u) t) (va_A (wX12 cy a o S) sz)) 0 0 (va_A (wX12 cy a o S) sz) := by
  refine Met.ofW (cc := cX12_clearProgram) (maxL := 3) (ret := (some .int)) (by decide) rfl ?_
  intro p e s m args below meth c s₁ B hml hv
  obtain ⟨rfl, hsz, hP, hG, hD0⟩ := hv
  have hx := B.exec
  have hb := B.bytes
  have hr := B.returns
  have hts := atoms_spec (ws := wsX12_clearProgram) B.pre
  have hown : s.vm.findClass RX12 = some m.cls := findClass_of_methodNamed B.named
  have hlocks := B.notSynchronized
  have hK := hG.1
  subst hsz
  have hD := hD0.self (sz := s.heap.size)
  have hA : ∀ q : Nat, s.heap.size ≤ q → (va_A (wX12 cy a o S) s.heap.size) q := fun q h => Or.inr h
  have hS : va_S (va_A (wX12 cy a o S) s.heap.size) s.heap s.heap [] := va_S.rf
  have hinX12 := (by decide +kernel : ∀ w ∈ wsX120, w ∈ wsX12_clearProgram)
  have hf31 := hts (.fieldLink RX12 31 "PianoRoundsModel" "code" "I") (by decide +kernel)
  have hl := lv_entry ([.ref (a o), .int p1, .int p2]) (n := 3) (Nat.le_of_ble_eq_true rfl)
  rw [lg_entry_eq]
  generalize (lg_sl ([.ref (a o), .int p1, .int p2]) ++ List.replicate (3 - (lg_sl ([.ref (a o), .int p1, .int p2])).length) Slot.unset).toArray = ls at hl ⊢
  have hl : lv_has ls 3 [(0, .ref (a o)), (1, .int p1), (2, .int p2)] := hl
  rw [DX12_clearProgram] at h
  refine lv_aload_n hx hb dX12_clearProgram_0 rfl (lv_at hl 0 rfl) ?_
  refine lv_aload_n hx hb dX12_clearProgram_1 rfl (lv_at hl 0 rfl) ?_
  refine lv_iload_n hx hb dX12_clearProgram_2 rfl (lv_at hl 1 rfl) ?_
  obtain ⟨x1, e2, h⟩ := bd_some h
  refine pcV (As := [.int p1]) (rest := [.ref (a o)]) (q0 := 0) (qX12_isEntrant l D cy a o S p1 x1 e2) ⟨hx, hb, hml, hown, hts⟩ (cwV 1 hts gX12_clearProgram_X12_isEntrant rfl rfl rfl (by decide +kernel) ⟨Nat.le_of_ble_eq_true rfl, Nat.le_of_ble_eq_true rfl⟩) hG hP rfl rfl rfl hl.1 rfl (Nat.le_of_ble_eq_true rfl) dX12_clearProgram_3 ⟨Nat.zero_le _, Nat.zero_le _⟩ ?_
  obtain ⟨j4, hj4, h⟩ := jn_elim h
  have Jj4 : ∀ (x3 : Int32) (ls : Array Slot), j4 x3 = some rs → lv_has ls 3 [(0, .ref (a o)), (1, .int p1), (2, .int p2)] → W p l e (headSpec wsX12_clearProgram ({ frames := 2, cells := 0, slots := 0, locals := 44 } : Room)).room s m ([.ref (a o), .int p1, .int p2] : List Value).toArray below meth c s.heap [] 0 0 (MQ below (va_Qi (fun r (u : SX12) => (r, u) = rs) (fun u t => mB D s.heap.size (wX12 cy a o S) (wX12 cy a o u) t) (va_A (wX12 cy a o S) s.heap.size)) ([.ref (a o), .int p1, .int p2] : List Value).toArray s 0 0 (va_A (wX12 cy a o S) s.heap.size)) (F0 m 21 ls [.int x3, .ref (a o)]) := by
    intro x3 ls h hl
    rw [hj4] at h
    refine va_put (D := D) (ci := 12) (v := .int x3) (ty := .int) (C := RX12) (T := TX12) (N := 12) hx hb hts hinX12 tyX12 tyX12_ok nmX12 hown hK hP hD hS 0 rfl rfl 5 (by decide) hf31 (fun _ h9 => h9) rfl (by decide +kernel) rfl rfl (Nat.le_of_ble_eq_true rfl) dX12_clearProgram_21 (fun H locs hP hD hS => ?_)
    have hP : va_P D vwCl (wX12 cy a o (uX12_code S x3)) H := hP
    have hD : va_D (va_A (wX12 cy a o S) s.heap.size) (wX12 cy a o (uX12_code S x3)) := hD
    obtain ⟨S5, eS6, h⟩ := lt_elim h
    have hP : va_P D vwCl (wX12 cy a o S5) H := by rw [eS6]; exact hP
    have hD : va_D (va_A (wX12 cy a o S) s.heap.size) (wX12 cy a o S5) := by rw [eS6]; exact hD
    refine lv_aload_n hx hb dX12_clearProgram_24 rfl (lv_at hl 0 rfl) ?_
    refine va_get (D := D) (ci := 12) (v := .int (gX12_code S5)) (C := RX12) (T := TX12) (N := 12) hx hb hts hinX12 hown hK hP 0 rfl rfl 5 (by decide) hf31 (fun _ h9 => h9) rfl dX12_clearProgram_25 ?_
    obtain ⟨j9, hj9, h⟩ := jn_elim h
    have Jj9 : ∀ (x7 : Int32) (S8 : SX12) (H : Heap) (locs : List Loc) (ls : Array Slot), j9 x7 S8 = some rs → va_P D vwCl (wX12 cy a o S8) H → va_D (va_A (wX12 cy a o S) s.heap.size) (wX12 cy a o S8) → va_S (va_A (wX12 cy a o S) s.heap.size) s.heap H locs → lv_has ls 3 [] → W p l e (headSpec wsX12_clearProgram ({ frames := 2, cells := 0, slots := 0, locals := 44 } : Room)).room s m ([.ref (a o), .int p1, .int p2] : List Value).toArray below meth c H locs 0 0 (MQ below (va_Qi (fun r (u : SX12) => (r, u) = rs) (fun u t => mB D s.heap.size (wX12 cy a o S) (wX12 cy a o u) t) (va_A (wX12 cy a o S) s.heap.size)) ([.ref (a o), .int p1, .int p2] : List Value).toArray s 0 0 (va_A (wX12 cy a o S) s.heap.size)) (F0 m 45 ls [.int x7]) := by
      intro x7 S8 H locs ls h hP hD hS hl
      rw [hj9] at h
      exact W.iret (v := x7) hx hb hr (fun t ht hW => ⟨⟨x7, S8, rfl, some_in h, by rw [ht]; exact hP, hD⟩, hS.F ht⟩) hS.2.2 dX12_clearProgram_45
    refine lv_if_eq (tgt := 35) hx hb dX12_clearProgram_28 (by decide) (fun cc => ?_) (fun cc => ?_)
    · have h := ite_p cc h
      refine lv_aload_n hx hb dX12_clearProgram_35 rfl (lv_at hl 0 rfl) ?_
      refine lv_iload_n hx hb dX12_clearProgram_36 rfl (lv_at hl 1 rfl) ?_
      refine lv_iload_n hx hb dX12_clearProgram_37 rfl (lv_at hl 2 rfl) ?_
      obtain ⟨x10, e11, h⟩ := bd_some h
      refine pcS (As := [.int p1, .int p2]) (rest := [.ref (a o)]) (qX12_programAt l D cy  p1 p2 x10 e11) ⟨hx, hb, hml, hown, hts⟩ (va_cwS 2 hts gX12_clearProgram_X12_programAt rfl rfl rfl (by decide +kernel) ⟨Nat.le_of_ble_eq_true rfl, Nat.le_of_ble_eq_true rfl⟩) hG (hP.sub [] rfl) rfl hl.1 rfl (Nat.le_of_ble_eq_true rfl) dX12_clearProgram_38 ⟨Nat.zero_le _, Nat.zero_le _⟩ ?_
      refine lv_iconst (v := (0 : Int32)) hx hb dX12_clearProgram_41 (by decide) ?_
      obtain ⟨x12, e13, h⟩ := bd_some h
      refine smVi (As := [.int x10, .int (0 : Int32)]) (rest := []) (ws' := (wX12 cy a o x12.2)) (q0 := 0) (qX12_put l D cy a o S5 x10 (0 : Int32) (H).size x12 e13) ⟨hx, hb, hml, hown, hts⟩ (cwV 2 hts gX12_clearProgram_X12_put rfl rfl rfl (by decide +kernel) ⟨Nat.le_of_ble_eq_true rfl, Nat.le_of_ble_eq_true rfl⟩) hG hP hD hS hA (pm1 (X := ([] : va_W)) (c := (wX12 cy a o S5)) (Y := ([] : va_W)) (show (wX12 cy a o S5) = ([] : va_W) ++ ((wX12 cy a o S5) ++ ([] : va_W)) from by simp only [List.append_assoc, List.nil_append, List.append_nil] <;> rfl)) (pm1 (X := ([] : va_W)) (c := (wX12 cy a o x12.2)) (Y := ([] : va_W)) (show (wX12 cy a o x12.2) = ([] : va_W) ++ ((wX12 cy a o x12.2) ++ ([] : va_W)) from by simp only [List.append_assoc, List.nil_append, List.append_nil] <;> rfl)) rfl rfl rfl hl.1 rfl (Nat.le_of_ble_eq_true rfl) dX12_clearProgram_42 ⟨Nat.zero_le _, Nat.zero_le _⟩ (fun H locs hP hD hS => ?_)
      exact Jj9 x12.1 x12.2 H locs ls h hP hD hS (lv_sub hl [] rfl)
    · have h := ite_n cc h
      refine lv_iconst (v := (0 : Int32)) hx hb dX12_clearProgram_31 (by decide) ?_
      refine lv_goto (tgt := 45) hx hb dX12_clearProgram_32 (by decide) ?_
      exact Jj9 (0 : Int32) S5 H locs ls h hP hD hS (lv_sub hl [] rfl)
  obtain ⟨j14, hj14, h⟩ := jn_elim h
  have Jj14 : ∀ (ls : Array Slot), j14 () = some rs → lv_has ls 3 [(0, .ref (a o)), (1, .int p1), (2, .int p2)] → W p l e (headSpec wsX12_clearProgram ({ frames := 2, cells := 0, slots := 0, locals := 44 } : Room)).room s m ([.ref (a o), .int p1, .int p2] : List Value).toArray below meth c s.heap [] 0 0 (MQ below (va_Qi (fun r (u : SX12) => (r, u) = rs) (fun u t => mB D s.heap.size (wX12 cy a o S) (wX12 cy a o u) t) (va_A (wX12 cy a o S) s.heap.size)) ([.ref (a o), .int p1, .int p2] : List Value).toArray s 0 0 (va_A (wX12 cy a o S) s.heap.size)) (F0 m 20 ls [.ref (a o)]) := by
    intro ls h hl
    rw [hj14] at h
    refine lv_iconst (v := (1 : Int32)) hx hb dX12_clearProgram_20 (by decide) ?_
    exact Jj4 (1 : Int32) ls h (lv_sub hl [0, 1, 2] rfl)
  refine lv_if_eq (tgt := 20) hx hb dX12_clearProgram_6 (by decide) (fun cc => ?_) (fun cc => ?_)
  · have h := ite_p cc h
    exact Jj14  ls h (lv_sub hl [0, 1, 2] rfl)
  · have h := ite_n cc h
    refine lv_iload_n hx hb dX12_clearProgram_9 rfl (lv_at hl 2 rfl) ?_
    obtain ⟨x15, e16, h⟩ := bd_some h
    refine pcS (As := [.int p2]) (rest := [.ref (a o)]) (qX12_isRound l D cy  p2 x15 e16) ⟨hx, hb, hml, hown, hts⟩ (va_cwS 1 hts gX12_clearProgram_X12_isRound rfl rfl rfl (by decide +kernel) ⟨Nat.le_of_ble_eq_true rfl, Nat.le_of_ble_eq_true rfl⟩) hG (hP.sub [] rfl) rfl hl.1 rfl (Nat.le_of_ble_eq_true rfl) dX12_clearProgram_10 ⟨Nat.zero_le _, Nat.zero_le _⟩ ?_
    refine lv_if_eq (tgt := 20) hx hb dX12_clearProgram_13 (by decide) (fun cc => ?_) (fun cc => ?_)
    · have h := ite_p cc h
      exact Jj14  ls h (lv_sub hl [0, 1, 2] rfl)
    · have h := ite_n cc h
      refine lv_iconst (v := (0 : Int32)) hx hb dX12_clearProgram_16 (by decide) ?_
      refine lv_goto (tgt := 21) hx hb dX12_clearProgram_17 (by decide) ?_
      exact Jj4 (0 : Int32) ls h (lv_sub hl [0, 1, 2] rfl)
set_option maxHeartbeats 4000000 in
set_option maxRecDepth 100000 in
theorem qX12_workAt (l : Launch) (D : va_G) (cy : Nat → ClassId) (a : Nat → Nat) (o : Nat) (S : SX12) (p1 : Int32) (p2 : Int32) (p3 : Int32) (rs : Int32) (h : DX12_workAt S p1 p2 p3 = some rs) : Met l yX12_workAt wsX12_workAt ({ frames := 1, cells := 0, slots := 0, locals := 22 } : Room) (va_Pc [.ref (a o), .int p1, .int p2, .int p3] (fun U => va_P D vwCl (wX12 cy a o S) U.heap ∧ gK D cy U)) (vp_Si (fun z => z = rs)) 0 0 (fun _ => False) := by
  refine Met.ofW (cc := cX12_workAt) (maxL := 5) (ret := (some .int)) (by decide) rfl ?_
  intro p e s m args below meth c s₁ B hml hv
  obtain ⟨rfl, hP, hG⟩ := hv
  have hx := B.exec
  have hb := B.bytes
  have hr := B.returns
  have hts := atoms_spec (ws := wsX12_workAt) B.pre
  have hown : s.vm.findClass RX12 = some m.cls := findClass_of_methodNamed B.named
  have hlocks := B.notSynchronized
  have hK := hG.1
  have hinX12 := (by decide +kernel : ∀ w ∈ wsX120, w ∈ wsX12_workAt)
  have hf7 := hts (.fieldLink RX12 7 "PianoRoundsModel" "m" "[I") (by decide +kernel)
  have hl := lv_entry ([.ref (a o), .int p1, .int p2, .int p3]) (n := 5) (Nat.le_of_ble_eq_true rfl)
  rw [lg_entry_eq]
  generalize (lg_sl ([.ref (a o), .int p1, .int p2, .int p3]) ++ List.replicate (5 - (lg_sl ([.ref (a o), .int p1, .int p2, .int p3])).length) Slot.unset).toArray = ls at hl ⊢
  have hl : lv_has ls 5 [(0, .ref (a o)), (1, .int p1), (2, .int p2), (3, .int p3)] := hl
  rw [DX12_workAt] at h
  refine lv_iload_n hx hb dX12_workAt_0 rfl (lv_at hl 1 rfl) ?_
  refine lv_iload_n hx hb dX12_workAt_1 rfl (lv_at hl 2 rfl) ?_
  obtain ⟨x1, e2, h⟩ := bd_some h
  refine pcS (As := [.int p1, .int p2]) (rest := []) (qX12_programAt l D cy  p1 p2 x1 e2) ⟨hx, hb, hml, hown, hts⟩ (va_cwS 2 hts gX12_workAt_X12_programAt rfl rfl rfl (by decide +kernel) ⟨Nat.le_of_ble_eq_true rfl, Nat.le_of_ble_eq_true rfl⟩) hG (hP.sub [] rfl) rfl hl.1 rfl (Nat.le_of_ble_eq_true rfl) dX12_workAt_2 ⟨Nat.zero_le _, Nat.zero_le _⟩ ?_
  refine lv_istore (lv' := [(4, .int x1), (0, .ref (a o)), (1, .int p1), (2, .int p2), (3, .int p3)]) hx hb dX12_workAt_5 hl (by decide) rfl (fun ls hl => ?_)
  refine lv_iload_n hx hb dX12_workAt_7 rfl (lv_at hl 4 rfl) ?_
  refine lv_iconst (v := (0 : Int32)) hx hb dX12_workAt_8 (by decide) ?_
  refine lv_aload_n hx hb dX12_workAt_9 rfl (lv_at hl 1 rfl) ?_
  refine va_get (D := D) (ci := 12) (v := .ref (a (o + 1))) (C := RX12) (T := TX12) (N := 12) hx hb hts hinX12 hown hK hP 0 rfl rfl 0 (by decide) hf7 (fun _ h9 => h9) rfl dX12_workAt_10 ?_
  refine lv_iload hx hb dX12_workAt_13 (lv_at hl 0 rfl) ?_
  obtain ⟨g3, h⟩ := gd_some h
  refine r_ald (f := (gX12_m S)) (n := 714) (v := ((gX12_m S) ((x1).toNatClampNeg))) hx hb hK hP 1 0 rfl rfl (gIn_in g3) rfl dX12_workAt_15 ?_
  refine lv_iconst (v := (1 : Int32)) hx hb dX12_workAt_16 (by decide) ?_
  refine lv_isub hx hb dX12_workAt_17 ?_
  obtain ⟨x4, e5, h⟩ := bd_some h
  refine pcS (As := [.int p3, .int (0 : Int32), .int (((gX12_m S) ((x1).toNatClampNeg)) - (1 : Int32))]) (rest := []) (qX12_in l D cy  p3 (0 : Int32) (((gX12_m S) ((x1).toNatClampNeg)) - (1 : Int32)) x4 e5) ⟨hx, hb, hml, hown, hts⟩ (va_cwS 3 hts gX12_workAt_X12_in rfl rfl rfl (by decide +kernel) ⟨Nat.le_of_ble_eq_true rfl, Nat.le_of_ble_eq_true rfl⟩) hG (hP.sub [] rfl) rfl hl.1 rfl (Nat.le_of_ble_eq_true rfl) dX12_workAt_18 ⟨Nat.zero_le _, Nat.zero_le _⟩ ?_
  obtain ⟨j7, hj7, h⟩ := jn_elim h
  have Jj7 : ∀ (x6 : Int32) (ls : Array Slot), j7 x6 = some rs → lv_has ls 5 [] → W p l e (headSpec wsX12_workAt ({ frames := 1, cells := 0, slots := 0, locals := 22 } : Room)).room s m ([.ref (a o), .int p1, .int p2, .int p3] : List Value).toArray below meth c s.heap [] 0 0 (MQ below (vp_Si (fun z => z = rs)) ([.ref (a o), .int p1, .int p2, .int p3] : List Value).toArray s 0 0 (fun _ => False)) (F0 m 39 ls [.int x6]) := by
    intro x6 ls h hl
    rw [hj7] at h
    exact W.iret (v := x6) hx hb hr (fun t ht hW => ⟨x6, rfl, some_in h, ht⟩) (fun q hq => nomatch hq) dX12_workAt_39
  refine lv_if_eq (tgt := 38) hx hb dX12_workAt_21 (by decide) (fun cc => ?_) (fun cc => ?_)
  · have h := ite_p cc h
    refine lv_iconst (v := (-1 : Int32)) hx hb dX12_workAt_38 (by decide) ?_
    exact Jj7 (-1 : Int32) ls h (lv_sub hl [] rfl)
  · have h := ite_n cc h
    refine lv_aload_n hx hb dX12_workAt_24 rfl (lv_at hl 1 rfl) ?_
    refine va_get (D := D) (ci := 12) (v := .ref (a (o + 1))) (C := RX12) (T := TX12) (N := 12) hx hb hts hinX12 hown hK hP 0 rfl rfl 0 (by decide) hf7 (fun _ h9 => h9) rfl dX12_workAt_25 ?_
    refine lv_iload hx hb dX12_workAt_28 (lv_at hl 0 rfl) ?_
    refine lv_iconst (v := (1 : Int32)) hx hb dX12_workAt_30 (by decide) ?_
    refine lv_iadd hx hb dX12_workAt_31 ?_
    refine lv_iload_n hx hb dX12_workAt_32 rfl (lv_at hl 4 rfl) ?_
    refine lv_iadd hx hb dX12_workAt_33 ?_
    obtain ⟨g8, h⟩ := gd_some h
    refine r_ald (f := (gX12_m S)) (n := 714) (v := ((gX12_m S) ((((x1 + (1 : Int32)) + p3)).toNatClampNeg))) hx hb hK hP 1 0 rfl rfl (gIn_in g8) rfl dX12_workAt_34 ?_
    refine lv_goto (tgt := 39) hx hb dX12_workAt_35 (by decide) ?_
    exact Jj7 ((gX12_m S) ((((x1 + (1 : Int32)) + p3)).toNatClampNeg)) ls h (lv_sub hl [] rfl)
set_option maxHeartbeats 4000000 in
set_option maxRecDepth 100000 in
theorem qX12_program (l : Launch) (D : va_G) (cy : Nat → ClassId) (a : Nat → Nat) (o : Nat) (S : SX12) (p1 : Int32) (p2 : Int32) (p3 : Int32) (sz : Nat) (rs : Int32 × SX12) (h : DX12_program S p1 p2 p3 = some rs) : Met l yX12_program wsX12_program ({ frames := 2, cells := 0, slots := 0, locals := 46 } : Room) (mP D cy sz [.ref (a o), .int p1, .int p2, .int p3] (wX12 cy a o S)) (va_Qi (fun r (u : SX12) => (r, u) = rs) (fun u t => mB D sz (wX12 cy a o S) (wX12 cy a o u) t) (va_A (wX12 cy a o S) sz)) 0 0 (va_A (wX12 cy a o S) sz) := by
  refine Met.ofW (cc := cX12_program) (maxL := 4) (ret := (some .int)) (by decide) rfl ?_
  intro p e s m args below meth c s₁ B hml hv
  obtain ⟨rfl, hsz, hP, hG, hD0⟩ := hv
  have hx := B.exec
  have hb := B.bytes
  have hr := B.returns
  have hts := atoms_spec (ws := wsX12_program) B.pre
  have hown : s.vm.findClass RX12 = some m.cls := findClass_of_methodNamed B.named
  have hlocks := B.notSynchronized
  have hK := hG.1
  subst hsz
  have hD := hD0.self (sz := s.heap.size)
  have hA : ∀ q : Nat, s.heap.size ≤ q → (va_A (wX12 cy a o S) s.heap.size) q := fun q h => Or.inr h
  have hS : va_S (va_A (wX12 cy a o S) s.heap.size) s.heap s.heap [] := va_S.rf
  have hinX12 := (by decide +kernel : ∀ w ∈ wsX120, w ∈ wsX12_program)
  have hf31 := hts (.fieldLink RX12 31 "PianoRoundsModel" "code" "I") (by decide +kernel)
  have hl := lv_entry ([.ref (a o), .int p1, .int p2, .int p3]) (n := 4) (Nat.le_of_ble_eq_true rfl)
  rw [lg_entry_eq]
  generalize (lg_sl ([.ref (a o), .int p1, .int p2, .int p3]) ++ List.replicate (4 - (lg_sl ([.ref (a o), .int p1, .int p2, .int p3])).length) Slot.unset).toArray = ls at hl ⊢
  have hl : lv_has ls 4 [(0, .ref (a o)), (1, .int p1), (2, .int p2), (3, .int p3)] := hl
  rw [DX12_program] at h
  refine lv_aload_n hx hb dX12_program_0 rfl (lv_at hl 0 rfl) ?_
  refine lv_aload_n hx hb dX12_program_1 rfl (lv_at hl 0 rfl) ?_
  refine lv_iload_n hx hb dX12_program_2 rfl (lv_at hl 1 rfl) ?_
  obtain ⟨x1, e2, h⟩ := bd_some h
  refine pcV (As := [.int p1]) (rest := [.ref (a o)]) (q0 := 0) (qX12_isEntrant l D cy a o S p1 x1 e2) ⟨hx, hb, hml, hown, hts⟩ (cwV 1 hts gX12_program_X12_isEntrant rfl rfl rfl (by decide +kernel) ⟨Nat.le_of_ble_eq_true rfl, Nat.le_of_ble_eq_true rfl⟩) hG hP rfl rfl rfl hl.1 rfl (Nat.le_of_ble_eq_true rfl) dX12_program_3 ⟨Nat.zero_le _, Nat.zero_le _⟩ ?_
  obtain ⟨j4, hj4, h⟩ := jn_elim h
  have Jj4 : ∀ (x3 : Int32) (ls : Array Slot), j4 x3 = some rs → lv_has ls 4 [(0, .ref (a o)), (1, .int p1), (2, .int p2), (3, .int p3)] → W p l e (headSpec wsX12_program ({ frames := 2, cells := 0, slots := 0, locals := 46 } : Room)).room s m ([.ref (a o), .int p1, .int p2, .int p3] : List Value).toArray below meth c s.heap [] 0 0 (MQ below (va_Qi (fun r (u : SX12) => (r, u) = rs) (fun u t => mB D s.heap.size (wX12 cy a o S) (wX12 cy a o u) t) (va_A (wX12 cy a o S) s.heap.size)) ([.ref (a o), .int p1, .int p2, .int p3] : List Value).toArray s 0 0 (va_A (wX12 cy a o S) s.heap.size)) (F0 m 21 ls [.int x3, .ref (a o)]) := by
    intro x3 ls h hl
    rw [hj4] at h
    refine va_put (D := D) (ci := 12) (v := .int x3) (ty := .int) (C := RX12) (T := TX12) (N := 12) hx hb hts hinX12 tyX12 tyX12_ok nmX12 hown hK hP hD hS 0 rfl rfl 5 (by decide) hf31 (fun _ h9 => h9) rfl (by decide +kernel) rfl rfl (Nat.le_of_ble_eq_true rfl) dX12_program_21 (fun H locs hP hD hS => ?_)
    have hP : va_P D vwCl (wX12 cy a o (uX12_code S x3)) H := hP
    have hD : va_D (va_A (wX12 cy a o S) s.heap.size) (wX12 cy a o (uX12_code S x3)) := hD
    obtain ⟨S5, eS6, h⟩ := lt_elim h
    have hP : va_P D vwCl (wX12 cy a o S5) H := by rw [eS6]; exact hP
    have hD : va_D (va_A (wX12 cy a o S) s.heap.size) (wX12 cy a o S5) := by rw [eS6]; exact hD
    refine lv_aload_n hx hb dX12_program_24 rfl (lv_at hl 0 rfl) ?_
    refine va_get (D := D) (ci := 12) (v := .int (gX12_code S5)) (C := RX12) (T := TX12) (N := 12) hx hb hts hinX12 hown hK hP 0 rfl rfl 5 (by decide) hf31 (fun _ h9 => h9) rfl dX12_program_25 ?_
    obtain ⟨j8, hj8, h⟩ := jn_elim h
    have Jj8 : ∀ (x7 : Int32) (ls : Array Slot), j8 x7 = some rs → lv_has ls 4 [] → W p l e (headSpec wsX12_program ({ frames := 2, cells := 0, slots := 0, locals := 46 } : Room)).room s m ([.ref (a o), .int p1, .int p2, .int p3] : List Value).toArray below meth c H locs 0 0 (MQ below (va_Qi (fun r (u : SX12) => (r, u) = rs) (fun u t => mB D s.heap.size (wX12 cy a o S) (wX12 cy a o u) t) (va_A (wX12 cy a o S) s.heap.size)) ([.ref (a o), .int p1, .int p2, .int p3] : List Value).toArray s 0 0 (va_A (wX12 cy a o S) s.heap.size)) (F0 m 42 ls [.int x7]) := by
      intro x7 ls h hl
      rw [hj8] at h
      exact W.iret (v := x7) hx hb hr (fun t ht hW => ⟨⟨x7, S5, rfl, some_in h, by rw [ht]; exact hP, hD⟩, hS.F ht⟩) hS.2.2 dX12_program_42
    refine lv_if_eq (tgt := 35) hx hb dX12_program_28 (by decide) (fun cc => ?_) (fun cc => ?_)
    · have h := ite_p cc h
      refine lv_aload_n hx hb dX12_program_35 rfl (lv_at hl 0 rfl) ?_
      refine lv_iload_n hx hb dX12_program_36 rfl (lv_at hl 1 rfl) ?_
      refine lv_iload_n hx hb dX12_program_37 rfl (lv_at hl 2 rfl) ?_
      refine lv_iload_n hx hb dX12_program_38 rfl (lv_at hl 3 rfl) ?_
      obtain ⟨x9, e10, h⟩ := bd_some h
      refine pcV (As := [.int p1, .int p2, .int p3]) (rest := []) (q0 := 0) (qX12_workAt l D cy a o S5 p1 p2 p3 x9 e10) ⟨hx, hb, hml, hown, hts⟩ (cwV 3 hts gX12_program_X12_workAt rfl rfl rfl (by decide +kernel) ⟨Nat.le_of_ble_eq_true rfl, Nat.le_of_ble_eq_true rfl⟩) hG hP rfl rfl rfl hl.1 rfl (Nat.le_of_ble_eq_true rfl) dX12_program_39 ⟨Nat.zero_le _, Nat.zero_le _⟩ ?_
      exact Jj8 x9 ls h (lv_sub hl [] rfl)
    · have h := ite_n cc h
      refine lv_iconst (v := (0 : Int32)) hx hb dX12_program_31 (by decide) ?_
      refine lv_goto (tgt := 42) hx hb dX12_program_32 (by decide) ?_
      exact Jj8 (0 : Int32) ls h (lv_sub hl [] rfl)
  obtain ⟨j11, hj11, h⟩ := jn_elim h
  have Jj11 : ∀ (ls : Array Slot), j11 () = some rs → lv_has ls 4 [(0, .ref (a o)), (1, .int p1), (2, .int p2), (3, .int p3)] → W p l e (headSpec wsX12_program ({ frames := 2, cells := 0, slots := 0, locals := 46 } : Room)).room s m ([.ref (a o), .int p1, .int p2, .int p3] : List Value).toArray below meth c s.heap [] 0 0 (MQ below (va_Qi (fun r (u : SX12) => (r, u) = rs) (fun u t => mB D s.heap.size (wX12 cy a o S) (wX12 cy a o u) t) (va_A (wX12 cy a o S) s.heap.size)) ([.ref (a o), .int p1, .int p2, .int p3] : List Value).toArray s 0 0 (va_A (wX12 cy a o S) s.heap.size)) (F0 m 20 ls [.ref (a o)]) := by
    intro ls h hl
    rw [hj11] at h
    refine lv_iconst (v := (1 : Int32)) hx hb dX12_program_20 (by decide) ?_
    exact Jj4 (1 : Int32) ls h (lv_sub hl [0, 1, 2, 3] rfl)
  refine lv_if_eq (tgt := 20) hx hb dX12_program_6 (by decide) (fun cc => ?_) (fun cc => ?_)
  · have h := ite_p cc h
    exact Jj11  ls h (lv_sub hl [0, 1, 2, 3] rfl)
  · have h := ite_n cc h
    refine lv_iload_n hx hb dX12_program_9 rfl (lv_at hl 2 rfl) ?_
    obtain ⟨x12, e13, h⟩ := bd_some h
    refine pcS (As := [.int p2]) (rest := [.ref (a o)]) (qX12_isRound l D cy  p2 x12 e13) ⟨hx, hb, hml, hown, hts⟩ (va_cwS 1 hts gX12_program_X12_isRound rfl rfl rfl (by decide +kernel) ⟨Nat.le_of_ble_eq_true rfl, Nat.le_of_ble_eq_true rfl⟩) hG (hP.sub [] rfl) rfl hl.1 rfl (Nat.le_of_ble_eq_true rfl) dX12_program_10 ⟨Nat.zero_le _, Nat.zero_le _⟩ ?_
    refine lv_if_eq (tgt := 20) hx hb dX12_program_13 (by decide) (fun cc => ?_) (fun cc => ?_)
    · have h := ite_p cc h
      exact Jj11  ls h (lv_sub hl [0, 1, 2, 3] rfl)
    · have h := ite_n cc h
      refine lv_iconst (v := (0 : Int32)) hx hb dX12_program_16 (by decide) ?_
      refine lv_goto (tgt := 21) hx hb dX12_program_17 (by decide) ?_
      exact Jj4 (0 : Int32) ls h (lv_sub hl [0, 1, 2, 3] rfl)
set_option maxHeartbeats 4000000 in
set_option maxRecDepth 100000 in
theorem qX12_wasPlayed (l : Launch) (D : va_G) (cy : Nat → ClassId) (a : Nat → Nat) (o : Nat) (S : SX12) (p1 : Int32) (p2 : Int32) (p3 : Int32) (rs : Int32) (h : DX12_wasPlayed S p1 p2 p3 = some rs) : Met l yX12_wasPlayed wsX12_wasPlayed ({ frames := 2, cells := 0, slots := 0, locals := 46 } : Room) (va_Pc [.ref (a o), .int p1, .int p2, .int p3] (fun U => va_P D vwCl (wX12 cy a o S) U.heap ∧ gK D cy U)) (vp_Si (fun z => z = rs)) 0 0 (fun _ => False) := by
  refine Met.ofW (cc := cX12_wasPlayed) (maxL := 6) (ret := (some .boolean)) (by decide) rfl ?_
  intro p e s m args below meth c s₁ B hml hv
  obtain ⟨rfl, hP, hG⟩ := hv
  have hx := B.exec
  have hb := B.bytes
  have hr := B.returns
  have hts := atoms_spec (ws := wsX12_wasPlayed) B.pre
  have hown : s.vm.findClass RX12 = some m.cls := findClass_of_methodNamed B.named
  have hlocks := B.notSynchronized
  have hK := hG.1
  have hl := lv_entry ([.ref (a o), .int p1, .int p2, .int p3]) (n := 6) (Nat.le_of_ble_eq_true rfl)
  rw [lg_entry_eq]
  generalize (lg_sl ([.ref (a o), .int p1, .int p2, .int p3]) ++ List.replicate (6 - (lg_sl ([.ref (a o), .int p1, .int p2, .int p3])).length) Slot.unset).toArray = ls at hl ⊢
  have hl : lv_has ls 6 [(0, .ref (a o)), (1, .int p1), (2, .int p2), (3, .int p3)] := hl
  rw [DX12_wasPlayed] at h
  refine lv_iconst (v := (0 : Int32)) hx hb dX12_wasPlayed_0 (by decide) ?_
  refine lv_istore (lv' := [(4, .int (0 : Int32)), (0, .ref (a o)), (1, .int p1), (2, .int p2), (3, .int p3)]) hx hb dX12_wasPlayed_1 hl (by decide) rfl (fun ls hl => ?_)
  refine lv_iconst (v := (0 : Int32)) hx hb dX12_wasPlayed_3 (by decide) ?_
  refine lv_istore (lv' := [(5, .int (0 : Int32)), (4, .int (0 : Int32)), (0, .ref (a o)), (1, .int p1), (2, .int p2), (3, .int p3)]) hx hb dX12_wasPlayed_4 hl (by decide) rfl (fun ls hl => ?_)
  have L15 : ∀ (c1_1 : Int32) (c2_2 : Int32) (c3_3 : Int32) (k4 : Int32 → Option (Int32)) (hk4 : ∀ (v4_5 : Int32) (ls : Array Slot), k4 v4_5 = some rs → lv_has ls 6 [(4, .int v4_5)] → W p l e (headSpec wsX12_wasPlayed ({ frames := 2, cells := 0, slots := 0, locals := 46 } : Room)).room s m ([.ref (a o), .int p1, .int p2, .int p3] : List Value).toArray below meth c s.heap [] 0 0 (MQ below (vp_Si (fun z => z = rs)) ([.ref (a o), .int p1, .int p2, .int p3] : List Value).toArray s 0 0 (fun _ => False)) (F0 m 49 ls [])) (f : Nat) (v4_8 : Int32) (v5_9 : Int32) (ls : Array Slot), DX12_wasPlayed_L6 S c1_1 c2_2 c3_3 k4 f v4_8 v5_9 = some rs → lv_has ls 6 [(0, .ref (a o)), (1, .int c1_1), (2, .int c2_2), (3, .int c3_3), (4, .int v4_8), (5, .int v5_9)] → W p l e (headSpec wsX12_wasPlayed ({ frames := 2, cells := 0, slots := 0, locals := 46 } : Room)).room s m ([.ref (a o), .int p1, .int p2, .int p3] : List Value).toArray below meth c s.heap [] 0 0 (MQ below (vp_Si (fun z => z = rs)) ([.ref (a o), .int p1, .int p2, .int p3] : List Value).toArray s 0 0 (fun _ => False)) (F0 m 6 ls []) := by
    intro c1_1 c2_2 c3_3 k4 hk4 f
    induction f with
    | zero =>
      intro v4_8 v5_9 ls h hl
      rw [DX12_wasPlayed_L6] at h
      cases h
    | succ f ih =>
      intro v4_8 v5_9 ls h hl
      rw [DX12_wasPlayed_L6] at h
      refine lv_iload hx hb dX12_wasPlayed_6 (lv_at hl 5 rfl) ?_
      refine lv_iconst (v := (4 : Int32)) hx hb dX12_wasPlayed_8 (by decide) ?_
      refine lv_iload_n hx hb dX12_wasPlayed_9 rfl (lv_at hl 2 rfl) ?_
      refine lv_imul hx hb dX12_wasPlayed_10 ?_
      refine lv_icmp_ge (tgt := 49) hx hb dX12_wasPlayed_11 (by decide) (fun cc => ?_) (fun cc => ?_)
      · have h := ite_p cc h
        exact hk4 v4_8 ls h (lv_sub hl [4] rfl)
      · have h := ite_n cc h
        refine lv_iload hx hb dX12_wasPlayed_14 (lv_at hl 4 rfl) ?_
        obtain ⟨j11, hj11, h⟩ := jn_elim h
        have Jj11 : ∀ (x10 : Int32) (ls : Array Slot), j11 x10 = some rs → lv_has ls 6 [(0, .ref (a o)), (1, .int c1_1), (2, .int c2_2), (3, .int c3_3), (5, .int v5_9)] → W p l e (headSpec wsX12_wasPlayed ({ frames := 2, cells := 0, slots := 0, locals := 46 } : Room)).room s m ([.ref (a o), .int p1, .int p2, .int p3] : List Value).toArray below meth c s.heap [] 0 0 (MQ below (vp_Si (fun z => z = rs)) ([.ref (a o), .int p1, .int p2, .int p3] : List Value).toArray s 0 0 (fun _ => False)) (F0 m 41 ls [.int x10]) := by
          intro x10 ls h hl
          rw [hj11] at h
          refine lv_istore (lv' := [(4, .int x10), (0, .ref (a o)), (1, .int c1_1), (2, .int c2_2), (3, .int c3_3), (5, .int v5_9)]) hx hb dX12_wasPlayed_41 hl (by decide) rfl (fun ls hl => ?_)
          refine lv_iinc (v := (v5_9 + (1 : Int32))) (lv' := [(5, .int (v5_9 + (1 : Int32))), (4, .int x10), (0, .ref (a o)), (1, .int c1_1), (2, .int c2_2), (3, .int c3_3)]) hx hb dX12_wasPlayed_43 hl (k := 5) rfl (by rfl) (by decide) rfl (fun ls hl => ?_)
          refine lv_goto (tgt := 6) hx hb dX12_wasPlayed_46 (by decide) ?_
          exact ih x10 (v5_9 + (1 : Int32)) ls h (lv_sub hl [2, 3, 4, 5, 1, 0] rfl)
        obtain ⟨j12, hj12, h⟩ := jn_elim h
        have Jj12 : ∀ (ls : Array Slot), j12 () = some rs → lv_has ls 6 [(0, .ref (a o)), (1, .int c1_1), (2, .int c2_2), (3, .int c3_3), (5, .int v5_9)] → W p l e (headSpec wsX12_wasPlayed ({ frames := 2, cells := 0, slots := 0, locals := 46 } : Room)).room s m ([.ref (a o), .int p1, .int p2, .int p3] : List Value).toArray below meth c s.heap [] 0 0 (MQ below (vp_Si (fun z => z = rs)) ([.ref (a o), .int p1, .int p2, .int p3] : List Value).toArray s 0 0 (fun _ => False)) (F0 m 36 ls []) := by
          intro ls h hl
          rw [hj12] at h
          refine lv_iconst (v := (1 : Int32)) hx hb dX12_wasPlayed_36 (by decide) ?_
          refine lv_goto (tgt := 41) hx hb dX12_wasPlayed_37 (by decide) ?_
          exact Jj11 (1 : Int32) ls h (lv_sub hl [0, 1, 2, 3, 4] rfl)
        refine lv_if_ne (tgt := 36) hx hb dX12_wasPlayed_16 (by decide) (fun cc => ?_) (fun cc => ?_)
        · have h := ite_n cc h
          exact Jj12  ls h (lv_sub hl [0, 1, 2, 3, 5] rfl)
        · have h := ite_p cc h
          refine lv_aload_n hx hb dX12_wasPlayed_19 rfl (lv_at hl 0 rfl) ?_
          refine lv_iload_n hx hb dX12_wasPlayed_20 rfl (lv_at hl 1 rfl) ?_
          refine lv_iload hx hb dX12_wasPlayed_21 (lv_at hl 5 rfl) ?_
          refine lv_iconst (v := (4 : Int32)) hx hb dX12_wasPlayed_23 (by decide) ?_
          refine lv_idiv hx hb dX12_wasPlayed_24 (by decide) ?_
          refine lv_iload hx hb dX12_wasPlayed_25 (lv_at hl 5 rfl) ?_
          refine lv_iconst (v := (4 : Int32)) hx hb dX12_wasPlayed_27 (by decide) ?_
          refine lv_irem hx hb dX12_wasPlayed_28 (by decide) ?_
          obtain ⟨x13, e14, h⟩ := bd_some h
          refine pcV (As := [.int c1_1, .int (v5_9 / (4 : Int32)), .int (v5_9 - v5_9 / (4 : Int32) * (4 : Int32))]) (rest := []) (q0 := 0) (qX12_workAt l D cy a o S c1_1 (v5_9 / (4 : Int32)) (v5_9 - v5_9 / (4 : Int32) * (4 : Int32)) x13 e14) ⟨hx, hb, hml, hown, hts⟩ (cwV 3 hts gX12_wasPlayed_X12_workAt rfl rfl rfl (by decide +kernel) ⟨Nat.le_of_ble_eq_true rfl, Nat.le_of_ble_eq_true rfl⟩) hG hP rfl rfl rfl hl.1 rfl (Nat.le_of_ble_eq_true rfl) dX12_wasPlayed_29 ⟨Nat.zero_le _, Nat.zero_le _⟩ ?_
          refine lv_iload_n hx hb dX12_wasPlayed_32 rfl (lv_at hl 3 rfl) ?_
          refine lv_icmp_ne (tgt := 40) hx hb dX12_wasPlayed_33 (by decide) (fun cc => ?_) (fun cc => ?_)
          · have h := ite_n cc h
            refine lv_iconst (v := (0 : Int32)) hx hb dX12_wasPlayed_40 (by decide) ?_
            exact Jj11 (0 : Int32) ls h (lv_sub hl [0, 1, 2, 3, 5] rfl)
          · have h := ite_p cc h
            exact Jj12  ls h (lv_sub hl [0, 1, 2, 3, 5] rfl)
  refine L15 p1 p2 p3 _ ?_ fu (0 : Int32) (0 : Int32) ls h (lv_sub hl [2, 3, 4, 5, 1, 0] rfl)
  intro v4_6 ls h hl
  refine lv_iload hx hb dX12_wasPlayed_49 (lv_at hl 0 rfl) ?_
  obtain ⟨g7, h⟩ := gd_some h
  exact W.zret (v := v4_6) hx hb hr (zN g7) (fun t ht hW => ⟨v4_6, rfl, some_in h, ht⟩) (fun q hq => nomatch hq) dX12_wasPlayed_51
set_option maxHeartbeats 4000000 in
set_option maxRecDepth 100000 in
theorem qX12_flawOf (l : Launch) (D : va_G) (cy : Nat → ClassId) (a : Nat → Nat) (o : Nat) (S : SX12) (p1 : Int32) (p2 : Int32) (rs : Int32) (h : DX12_flawOf S p1 p2 = some rs) : Met l yX12_flawOf wsX12_flawOf ({ frames := 3, cells := 0, slots := 0, locals := 71 } : Room) (va_Pc [.ref (a o), .int p1, .int p2] (fun U => va_P D vwCl (wX12 cy a o S) U.heap ∧ gK D cy U)) (vp_Si (fun z => z = rs)) 0 0 (fun _ => False) := by
  refine Met.ofW (cc := cX12_flawOf) (maxL := 14) (ret := (some .int)) (by decide) rfl ?_
  intro p e s m args below meth c s₁ B hml hv
  obtain ⟨rfl, hP, hG⟩ := hv
  have hx := B.exec
  have hb := B.bytes
  have hr := B.returns
  have hts := atoms_spec (ws := wsX12_flawOf) B.pre
  have hown : s.vm.findClass RX12 = some m.cls := findClass_of_methodNamed B.named
  have hlocks := B.notSynchronized
  have hK := hG.1
  have hinX12 := (by decide +kernel : ∀ w ∈ wsX120, w ∈ wsX12_flawOf)
  have hf7 := hts (.fieldLink RX12 7 "PianoRoundsModel" "m" "[I") (by decide +kernel)
  have hl := lv_entry ([.ref (a o), .int p1, .int p2]) (n := 14) (Nat.le_of_ble_eq_true rfl)
  rw [lg_entry_eq]
  generalize (lg_sl ([.ref (a o), .int p1, .int p2]) ++ List.replicate (14 - (lg_sl ([.ref (a o), .int p1, .int p2])).length) Slot.unset).toArray = ls at hl ⊢
  have hl : lv_has ls 14 [(0, .ref (a o)), (1, .int p1), (2, .int p2)] := hl
  rw [DX12_flawOf] at h
  refine lv_bipush (v := (102 : Int32)) hx hb dX12_flawOf_0 (by decide) ?_
  refine lv_bipush (v := (6 : Int32)) hx hb dX12_flawOf_2 (by decide) ?_
  refine lv_iload_n hx hb dX12_flawOf_4 rfl (lv_at hl 2 rfl) ?_
  refine lv_imul hx hb dX12_flawOf_5 ?_
  refine lv_iadd hx hb dX12_flawOf_6 ?_
  refine lv_istore_n (lv' := [(3, .int ((102 : Int32) + ((6 : Int32) * p2))), (0, .ref (a o)), (1, .int p1), (2, .int p2)]) hx hb dX12_flawOf_7 rfl hl (by decide) rfl (fun ls hl => ?_)
  refine lv_aload_n hx hb dX12_flawOf_8 rfl (lv_at hl 1 rfl) ?_
  refine va_get (D := D) (ci := 12) (v := .ref (a (o + 1))) (C := RX12) (T := TX12) (N := 12) hx hb hts hinX12 hown hK hP 0 rfl rfl 0 (by decide) hf7 (fun _ h9 => h9) rfl dX12_flawOf_9 ?_
  refine lv_iload_n hx hb dX12_flawOf_12 rfl (lv_at hl 2 rfl) ?_
  refine lv_iload_n hx hb dX12_flawOf_13 rfl (lv_at hl 3 rfl) ?_
  obtain ⟨x1, e2, h⟩ := bd_some h
  refine pcS (As := [.int p1, .int p2]) (rest := [.ref (a (o + 1))]) (qX12_programAt l D cy  p1 p2 x1 e2) ⟨hx, hb, hml, hown, hts⟩ (va_cwS 2 hts gX12_flawOf_X12_programAt rfl rfl rfl (by decide +kernel) ⟨Nat.le_of_ble_eq_true rfl, Nat.le_of_ble_eq_true rfl⟩) hG (hP.sub [] rfl) rfl hl.1 rfl (Nat.le_of_ble_eq_true rfl) dX12_flawOf_14 ⟨Nat.zero_le _, Nat.zero_le _⟩ ?_
  obtain ⟨g3, h⟩ := gd_some h
  refine r_ald (f := (gX12_m S)) (n := 714) (v := ((gX12_m S) ((x1).toNatClampNeg))) hx hb hK hP 1 0 rfl rfl (gIn_in g3) rfl dX12_flawOf_17 ?_
  refine lv_istore (lv' := [(4, .int ((gX12_m S) ((x1).toNatClampNeg))), (3, .int ((102 : Int32) + ((6 : Int32) * p2))), (0, .ref (a o)), (1, .int p1), (2, .int p2)]) hx hb dX12_flawOf_18 hl (by decide) rfl (fun ls hl => ?_)
  refine lv_iconst (v := (0 : Int32)) hx hb dX12_flawOf_20 (by decide) ?_
  refine lv_istore (lv' := [(5, .int (0 : Int32)), (4, .int ((gX12_m S) ((x1).toNatClampNeg))), (3, .int ((102 : Int32) + ((6 : Int32) * p2))), (0, .ref (a o)), (1, .int p1), (2, .int p2)]) hx hb dX12_flawOf_21 hl (by decide) rfl (fun ls hl => ?_)
  refine lv_iconst (v := (0 : Int32)) hx hb dX12_flawOf_23 (by decide) ?_
  refine lv_istore (lv' := [(6, .int (0 : Int32)), (5, .int (0 : Int32)), (4, .int ((gX12_m S) ((x1).toNatClampNeg))), (3, .int ((102 : Int32) + ((6 : Int32) * p2))), (0, .ref (a o)), (1, .int p1), (2, .int p2)]) hx hb dX12_flawOf_24 hl (by decide) rfl (fun ls hl => ?_)
  refine lv_iconst (v := (0 : Int32)) hx hb dX12_flawOf_26 (by decide) ?_
  refine lv_istore (lv' := [(7, .int (0 : Int32)), (6, .int (0 : Int32)), (5, .int (0 : Int32)), (4, .int ((gX12_m S) ((x1).toNatClampNeg))), (3, .int ((102 : Int32) + ((6 : Int32) * p2))), (0, .ref (a o)), (1, .int p1), (2, .int p2)]) hx hb dX12_flawOf_27 hl (by decide) rfl (fun ls hl => ?_)
  refine lv_iconst (v := (0 : Int32)) hx hb dX12_flawOf_29 (by decide) ?_
  refine lv_istore (lv' := [(8, .int (0 : Int32)), (7, .int (0 : Int32)), (6, .int (0 : Int32)), (5, .int (0 : Int32)), (4, .int ((gX12_m S) ((x1).toNatClampNeg))), (3, .int ((102 : Int32) + ((6 : Int32) * p2))), (0, .ref (a o)), (1, .int p1), (2, .int p2)]) hx hb dX12_flawOf_30 hl (by decide) rfl (fun ls hl => ?_)
  refine lv_iconst (v := (0 : Int32)) hx hb dX12_flawOf_32 (by decide) ?_
  refine lv_istore (lv' := [(9, .int (0 : Int32)), (8, .int (0 : Int32)), (7, .int (0 : Int32)), (6, .int (0 : Int32)), (5, .int (0 : Int32)), (4, .int ((gX12_m S) ((x1).toNatClampNeg))), (3, .int ((102 : Int32) + ((6 : Int32) * p2))), (0, .ref (a o)), (1, .int p1), (2, .int p2)]) hx hb dX12_flawOf_33 hl (by decide) rfl (fun ls hl => ?_)
  have L64 : ∀ (c1_4 : Int32) (c2_5 : Int32) (c3_6 : Int32) (c4_7 : Int32) (k8 : Int32 → Int32 → Int32 → Int32 → Option (Int32)) (hk8 : ∀ (v5_9 : Int32) (v6_10 : Int32) (v7_11 : Int32) (v8_12 : Int32) (ls : Array Slot), k8 v5_9 v6_10 v7_11 v8_12 = some rs → lv_has ls 14 [(0, .ref (a o)), (3, .int c3_6), (4, .int c4_7), (5, .int v5_9), (6, .int v6_10), (7, .int v7_11), (8, .int v8_12)] → W p l e (headSpec wsX12_flawOf ({ frames := 3, cells := 0, slots := 0, locals := 71 } : Room)).room s m ([.ref (a o), .int p1, .int p2] : List Value).toArray below meth c s.heap [] 0 0 (MQ below (vp_Si (fun z => z = rs)) ([.ref (a o), .int p1, .int p2] : List Value).toArray s 0 0 (fun _ => False)) (F0 m 203 ls [])) (f : Nat) (v5_25 : Int32) (v6_26 : Int32) (v7_27 : Int32) (v8_28 : Int32) (v9_29 : Int32) (ls : Array Slot), DX12_flawOf_L35 S c1_4 c2_5 c3_6 c4_7 k8 f v5_25 v6_26 v7_27 v8_28 v9_29 = some rs → lv_has ls 14 [(0, .ref (a o)), (1, .int c1_4), (2, .int c2_5), (3, .int c3_6), (4, .int c4_7), (5, .int v5_25), (6, .int v6_26), (7, .int v7_27), (8, .int v8_28), (9, .int v9_29)] → W p l e (headSpec wsX12_flawOf ({ frames := 3, cells := 0, slots := 0, locals := 71 } : Room)).room s m ([.ref (a o), .int p1, .int p2] : List Value).toArray below meth c s.heap [] 0 0 (MQ below (vp_Si (fun z => z = rs)) ([.ref (a o), .int p1, .int p2] : List Value).toArray s 0 0 (fun _ => False)) (F0 m 35 ls []) := by
    intro c1_4 c2_5 c3_6 c4_7 k8 hk8 f
    induction f with
    | zero =>
      intro v5_25 v6_26 v7_27 v8_28 v9_29 ls h hl
      rw [DX12_flawOf_L35] at h
      cases h
    | succ f ih =>
      intro v5_25 v6_26 v7_27 v8_28 v9_29 ls h hl
      rw [DX12_flawOf_L35] at h
      refine lv_iload hx hb dX12_flawOf_35 (lv_at hl 9 rfl) ?_
      refine lv_iload hx hb dX12_flawOf_37 (lv_at hl 4 rfl) ?_
      refine lv_icmp_ge (tgt := 203) hx hb dX12_flawOf_39 (by decide) (fun cc => ?_) (fun cc => ?_)
      · have h := ite_p cc h
        exact hk8 v5_25 v6_26 v7_27 v8_28 ls h (lv_sub hl [0, 3, 4, 5, 6, 7, 8] rfl)
      · have h := ite_n cc h
        refine lv_aload_n hx hb dX12_flawOf_42 rfl (lv_at hl 0 rfl) ?_
        refine lv_iload_n hx hb dX12_flawOf_43 rfl (lv_at hl 1 rfl) ?_
        refine lv_iload_n hx hb dX12_flawOf_44 rfl (lv_at hl 2 rfl) ?_
        refine lv_iload hx hb dX12_flawOf_45 (lv_at hl 9 rfl) ?_
        obtain ⟨x30, e31, h⟩ := bd_some h
        refine pcV (As := [.int c1_4, .int c2_5, .int v9_29]) (rest := []) (q0 := 0) (qX12_workAt l D cy a o S c1_4 c2_5 v9_29 x30 e31) ⟨hx, hb, hml, hown, hts⟩ (cwV 3 hts gX12_flawOf_X12_workAt rfl rfl rfl (by decide +kernel) ⟨Nat.le_of_ble_eq_true rfl, Nat.le_of_ble_eq_true rfl⟩) hG hP rfl rfl rfl hl.1 rfl (Nat.le_of_ble_eq_true rfl) dX12_flawOf_47 ⟨Nat.zero_le _, Nat.zero_le _⟩ ?_
        refine lv_istore (lv' := [(10, .int x30), (0, .ref (a o)), (1, .int c1_4), (2, .int c2_5), (3, .int c3_6), (4, .int c4_7), (5, .int v5_25), (6, .int v6_26), (7, .int v7_27), (8, .int v8_28), (9, .int v9_29)]) hx hb dX12_flawOf_50 hl (by decide) rfl (fun ls hl => ?_)
        refine lv_aload_n hx hb dX12_flawOf_52 rfl (lv_at hl 1 rfl) ?_
        refine va_get (D := D) (ci := 12) (v := .ref (a (o + 1))) (C := RX12) (T := TX12) (N := 12) hx hb hts hinX12 hown hK hP 0 rfl rfl 0 (by decide) hf7 (fun _ h9 => h9) rfl dX12_flawOf_53 ?_
        refine lv_bipush (v := (12 : Int32)) hx hb dX12_flawOf_56 (by decide) ?_
        refine lv_iconst (v := (3 : Int32)) hx hb dX12_flawOf_58 (by decide) ?_
        refine lv_iload hx hb dX12_flawOf_59 (lv_at hl 0 rfl) ?_
        refine lv_imul hx hb dX12_flawOf_61 ?_
        refine lv_iadd hx hb dX12_flawOf_62 ?_
        obtain ⟨g32, h⟩ := gd_some h
        refine r_ald (f := (gX12_m S)) (n := 714) (v := ((gX12_m S) ((((12 : Int32) + ((3 : Int32) * x30))).toNatClampNeg))) hx hb hK hP 1 0 rfl rfl (gIn_in g32) rfl dX12_flawOf_63 ?_
        refine lv_istore (lv' := [(11, .int ((gX12_m S) ((((12 : Int32) + ((3 : Int32) * x30))).toNatClampNeg))), (10, .int x30), (0, .ref (a o)), (1, .int c1_4), (2, .int c2_5), (3, .int c3_6), (4, .int c4_7), (5, .int v5_25), (6, .int v6_26), (7, .int v7_27), (8, .int v8_28), (9, .int v9_29)]) hx hb dX12_flawOf_64 hl (by decide) rfl (fun ls hl => ?_)
        refine lv_iconst (v := (0 : Int32)) hx hb dX12_flawOf_66 (by decide) ?_
        refine lv_istore (lv' := [(12, .int (0 : Int32)), (11, .int ((gX12_m S) ((((12 : Int32) + ((3 : Int32) * x30))).toNatClampNeg))), (10, .int x30), (0, .ref (a o)), (1, .int c1_4), (2, .int c2_5), (3, .int c3_6), (4, .int c4_7), (5, .int v5_25), (6, .int v6_26), (7, .int v7_27), (8, .int v8_28), (9, .int v9_29)]) hx hb dX12_flawOf_67 hl (by decide) rfl (fun ls hl => ?_)
        refine lv_iconst (v := (0 : Int32)) hx hb dX12_flawOf_69 (by decide) ?_
        refine lv_istore (lv' := [(13, .int (0 : Int32)), (12, .int (0 : Int32)), (11, .int ((gX12_m S) ((((12 : Int32) + ((3 : Int32) * x30))).toNatClampNeg))), (10, .int x30), (0, .ref (a o)), (1, .int c1_4), (2, .int c2_5), (3, .int c3_6), (4, .int c4_7), (5, .int v5_25), (6, .int v6_26), (7, .int v7_27), (8, .int v8_28), (9, .int v9_29)]) hx hb dX12_flawOf_70 hl (by decide) rfl (fun ls hl => ?_)
        have L63 : ∀ (c1_33 : Int32) (c2_34 : Int32) (c3_35 : Int32) (c4_36 : Int32) (c5_37 : Int32) (c6_38 : Int32) (c7_39 : Int32) (c8_40 : Int32) (c9_41 : Int32) (c10_42 : Int32) (c11_43 : Int32) (k44 : Int32 → Option (Int32)) (hk44 : ∀ (v12_45 : Int32) (ls : Array Slot), k44 v12_45 = some rs → lv_has ls 14 [(0, .ref (a o)), (1, .int c1_33), (2, .int c2_34), (3, .int c3_35), (4, .int c4_36), (5, .int c5_37), (6, .int c6_38), (7, .int c7_39), (8, .int c8_40), (9, .int c9_41), (10, .int c10_42), (12, .int v12_45)] → W p l e (headSpec wsX12_flawOf ({ frames := 3, cells := 0, slots := 0, locals := 71 } : Room)).room s m ([.ref (a o), .int p1, .int p2] : List Value).toArray below meth c s.heap [] 0 0 (MQ below (vp_Si (fun z => z = rs)) ([.ref (a o), .int p1, .int p2] : List Value).toArray s 0 0 (fun _ => False)) (F0 m 118 ls [])) (f : Nat) (v12_56 : Int32) (v13_57 : Int32) (ls : Array Slot), DX12_flawOf_L72 S c1_33 c2_34 c3_35 c4_36 c5_37 c6_38 c7_39 c8_40 c9_41 c10_42 c11_43 k44 f v12_56 v13_57 = some rs → lv_has ls 14 [(0, .ref (a o)), (1, .int c1_33), (2, .int c2_34), (3, .int c3_35), (4, .int c4_36), (5, .int c5_37), (6, .int c6_38), (7, .int c7_39), (8, .int c8_40), (9, .int c9_41), (10, .int c10_42), (11, .int c11_43), (12, .int v12_56), (13, .int v13_57)] → W p l e (headSpec wsX12_flawOf ({ frames := 3, cells := 0, slots := 0, locals := 71 } : Room)).room s m ([.ref (a o), .int p1, .int p2] : List Value).toArray below meth c s.heap [] 0 0 (MQ below (vp_Si (fun z => z = rs)) ([.ref (a o), .int p1, .int p2] : List Value).toArray s 0 0 (fun _ => False)) (F0 m 72 ls []) := by
          intro c1_33 c2_34 c3_35 c4_36 c5_37 c6_38 c7_39 c8_40 c9_41 c10_42 c11_43 k44 hk44 f
          induction f with
          | zero =>
            intro v12_56 v13_57 ls h hl
            rw [DX12_flawOf_L72] at h
            cases h
          | succ f ih =>
            intro v12_56 v13_57 ls h hl
            rw [DX12_flawOf_L72] at h
            refine lv_iload hx hb dX12_flawOf_72 (lv_at hl 13 rfl) ?_
            refine lv_iload hx hb dX12_flawOf_74 (lv_at hl 4 rfl) ?_
            refine lv_icmp_ge (tgt := 118) hx hb dX12_flawOf_76 (by decide) (fun cc => ?_) (fun cc => ?_)
            · have h := ite_p cc h
              exact hk44 v12_56 ls h (lv_sub hl [0, 1, 2, 3, 4, 5, 6, 7, 8, 9, 10, 12] rfl)
            · have h := ite_n cc h
              refine lv_iload hx hb dX12_flawOf_79 (lv_at hl 12 rfl) ?_
              refine lv_aload_n hx hb dX12_flawOf_81 rfl (lv_at hl 0 rfl) ?_
              refine va_get (D := D) (ci := 12) (v := .ref (a (o + 1))) (C := RX12) (T := TX12) (N := 12) hx hb hts hinX12 hown hK hP 0 rfl rfl 0 (by decide) hf7 (fun _ h9 => h9) rfl dX12_flawOf_82 ?_
              refine lv_bipush (v := (12 : Int32)) hx hb dX12_flawOf_85 (by decide) ?_
              refine lv_iconst (v := (3 : Int32)) hx hb dX12_flawOf_87 (by decide) ?_
              refine lv_aload_n hx hb dX12_flawOf_88 rfl (lv_at hl 0 rfl) ?_
              refine lv_iload_n hx hb dX12_flawOf_89 rfl (lv_at hl 1 rfl) ?_
              refine lv_iload_n hx hb dX12_flawOf_90 rfl (lv_at hl 2 rfl) ?_
              refine lv_iload hx hb dX12_flawOf_91 (lv_at hl 13 rfl) ?_
              obtain ⟨x58, e59, h⟩ := bd_some h
              refine pcV (As := [.int c1_33, .int c2_34, .int v13_57]) (rest := [.int (3 : Int32), .int (12 : Int32), .ref (a (o + 1)), .int v12_56]) (q0 := 0) (qX12_workAt l D cy a o S c1_33 c2_34 v13_57 x58 e59) ⟨hx, hb, hml, hown, hts⟩ (cwV 3 hts gX12_flawOf_X12_workAt rfl rfl rfl (by decide +kernel) ⟨Nat.le_of_ble_eq_true rfl, Nat.le_of_ble_eq_true rfl⟩) hG hP rfl rfl rfl hl.1 rfl (Nat.le_of_ble_eq_true rfl) dX12_flawOf_93 ⟨Nat.zero_le _, Nat.zero_le _⟩ ?_
              refine lv_imul hx hb dX12_flawOf_96 ?_
              refine lv_iadd hx hb dX12_flawOf_97 ?_
              obtain ⟨g60, h⟩ := gd_some h
              refine r_ald (f := (gX12_m S)) (n := 714) (v := ((gX12_m S) ((((12 : Int32) + ((3 : Int32) * x58))).toNatClampNeg))) hx hb hK hP 1 0 rfl rfl (gIn_in g60) rfl dX12_flawOf_98 ?_
              refine lv_iload hx hb dX12_flawOf_99 (lv_at hl 11 rfl) ?_
              obtain ⟨j62, hj62, h⟩ := jn_elim h
              have Jj62 : ∀ (x61 : Int32) (ls : Array Slot), j62 x61 = some rs → lv_has ls 14 [(0, .ref (a o)), (1, .int c1_33), (2, .int c2_34), (3, .int c3_35), (4, .int c4_36), (5, .int c5_37), (6, .int c6_38), (7, .int c7_39), (8, .int c8_40), (9, .int c9_41), (10, .int c10_42), (11, .int c11_43), (13, .int v13_57)] → W p l e (headSpec wsX12_flawOf ({ frames := 3, cells := 0, slots := 0, locals := 71 } : Room)).room s m ([.ref (a o), .int p1, .int p2] : List Value).toArray below meth c s.heap [] 0 0 (MQ below (vp_Si (fun z => z = rs)) ([.ref (a o), .int p1, .int p2] : List Value).toArray s 0 0 (fun _ => False)) (F0 m 109 ls [.int x61, .int v12_56]) := by
                intro x61 ls h hl
                rw [hj62] at h
                refine lv_iadd hx hb dX12_flawOf_109 ?_
                refine lv_istore (lv' := [(12, .int (v12_56 + x61)), (0, .ref (a o)), (1, .int c1_33), (2, .int c2_34), (3, .int c3_35), (4, .int c4_36), (5, .int c5_37), (6, .int c6_38), (7, .int c7_39), (8, .int c8_40), (9, .int c9_41), (10, .int c10_42), (11, .int c11_43), (13, .int v13_57)]) hx hb dX12_flawOf_110 hl (by decide) rfl (fun ls hl => ?_)
                refine lv_iinc (v := (v13_57 + (1 : Int32))) (lv' := [(13, .int (v13_57 + (1 : Int32))), (12, .int (v12_56 + x61)), (0, .ref (a o)), (1, .int c1_33), (2, .int c2_34), (3, .int c3_35), (4, .int c4_36), (5, .int c5_37), (6, .int c6_38), (7, .int c7_39), (8, .int c8_40), (9, .int c9_41), (10, .int c10_42), (11, .int c11_43)]) hx hb dX12_flawOf_112 hl (k := 13) rfl (by rfl) (by decide) rfl (fun ls hl => ?_)
                refine lv_goto (tgt := 72) hx hb dX12_flawOf_115 (by decide) ?_
                exact ih (v12_56 + x61) (v13_57 + (1 : Int32)) ls h (lv_sub hl [2, 3, 4, 5, 6, 7, 8, 9, 10, 11, 12, 13, 1, 0] rfl)
              refine lv_icmp_ne (tgt := 108) hx hb dX12_flawOf_101 (by decide) (fun cc => ?_) (fun cc => ?_)
              · have h := ite_n cc h
                refine lv_iconst (v := (0 : Int32)) hx hb dX12_flawOf_108 (by decide) ?_
                exact Jj62 (0 : Int32) ls h (lv_sub hl [0, 1, 2, 3, 4, 5, 6, 7, 8, 9, 10, 11, 13] rfl)
              · have h := ite_p cc h
                refine lv_iconst (v := (1 : Int32)) hx hb dX12_flawOf_104 (by decide) ?_
                refine lv_goto (tgt := 109) hx hb dX12_flawOf_105 (by decide) ?_
                exact Jj62 (1 : Int32) ls h (lv_sub hl [0, 1, 2, 3, 4, 5, 6, 7, 8, 9, 10, 11, 13] rfl)
        refine L63 c1_4 c2_5 c3_6 c4_7 v5_25 v6_26 v7_27 v8_28 v9_29 x30 ((gX12_m S) ((((12 : Int32) + ((3 : Int32) * x30))).toNatClampNeg)) _ ?_ fu (0 : Int32) (0 : Int32) ls h (lv_sub hl [4, 5, 6, 7, 8, 9, 10, 11, 12, 13, 3, 2, 1, 0] rfl)
        intro v12_46 ls h hl
        refine lv_iload hx hb dX12_flawOf_118 (lv_at hl 11 rfl) ?_
        refine lv_iload hx hb dX12_flawOf_120 (lv_at hl 7 rfl) ?_
        obtain ⟨j48, hj48, h⟩ := jn_elim h
        have Jj48 : ∀ (x47 : Int32) (ls : Array Slot), j48 x47 = some rs → lv_has ls 14 [(0, .ref (a o)), (1, .int c1_4), (2, .int c2_5), (3, .int c3_6), (4, .int c4_7), (5, .int v5_25), (6, .int v6_26), (8, .int v8_28), (9, .int v9_29), (10, .int x30)] → W p l e (headSpec wsX12_flawOf ({ frames := 3, cells := 0, slots := 0, locals := 71 } : Room)).room s m ([.ref (a o), .int p1, .int p2] : List Value).toArray below meth c s.heap [] 0 0 (MQ below (vp_Si (fun z => z = rs)) ([.ref (a o), .int p1, .int p2] : List Value).toArray s 0 0 (fun _ => False)) (F0 m 132 ls [.int x47]) := by
          intro x47 ls h hl
          rw [hj48] at h
          refine lv_istore (lv' := [(7, .int x47), (0, .ref (a o)), (1, .int c1_4), (2, .int c2_5), (3, .int c3_6), (4, .int c4_7), (5, .int v5_25), (6, .int v6_26), (8, .int v8_28), (9, .int v9_29), (10, .int x30)]) hx hb dX12_flawOf_132 hl (by decide) rfl (fun ls hl => ?_)
          refine lv_iload hx hb dX12_flawOf_134 (lv_at hl 6 rfl) ?_
          refine lv_aload_n hx hb dX12_flawOf_136 rfl (lv_at hl 1 rfl) ?_
          refine va_get (D := D) (ci := 12) (v := .ref (a (o + 1))) (C := RX12) (T := TX12) (N := 12) hx hb hts hinX12 hown hK hP 0 rfl rfl 0 (by decide) hf7 (fun _ h9 => h9) rfl dX12_flawOf_137 ?_
          refine lv_bipush (v := (12 : Int32)) hx hb dX12_flawOf_140 (by decide) ?_
          refine lv_iconst (v := (3 : Int32)) hx hb dX12_flawOf_142 (by decide) ?_
          refine lv_iload hx hb dX12_flawOf_143 (lv_at hl 10 rfl) ?_
          refine lv_imul hx hb dX12_flawOf_145 ?_
          refine lv_iadd hx hb dX12_flawOf_146 ?_
          refine lv_iconst (v := (2 : Int32)) hx hb dX12_flawOf_147 (by decide) ?_
          refine lv_iadd hx hb dX12_flawOf_148 ?_
          obtain ⟨g49, h⟩ := gd_some h
          refine r_ald (f := (gX12_m S)) (n := 714) (v := ((gX12_m S) (((((12 : Int32) + ((3 : Int32) * x30)) + (2 : Int32))).toNatClampNeg))) hx hb hK hP 1 0 rfl rfl (gIn_in g49) rfl dX12_flawOf_149 ?_
          refine lv_iadd hx hb dX12_flawOf_150 ?_
          refine lv_istore (lv' := [(5, .int (v5_25 + ((gX12_m S) (((((12 : Int32) + ((3 : Int32) * x30)) + (2 : Int32))).toNatClampNeg)))), (7, .int x47), (0, .ref (a o)), (1, .int c1_4), (2, .int c2_5), (3, .int c3_6), (4, .int c4_7), (6, .int v6_26), (8, .int v8_28), (9, .int v9_29), (10, .int x30)]) hx hb dX12_flawOf_151 hl (by decide) rfl (fun ls hl => ?_)
          refine lv_iload hx hb dX12_flawOf_153 (lv_at hl 7 rfl) ?_
          refine lv_iconst (v := (1 : Int32)) hx hb dX12_flawOf_155 (by decide) ?_
          refine lv_aload_n hx hb dX12_flawOf_156 rfl (lv_at hl 2 rfl) ?_
          refine va_get (D := D) (ci := 12) (v := .ref (a (o + 1))) (C := RX12) (T := TX12) (N := 12) hx hb hts hinX12 hown hK hP 0 rfl rfl 0 (by decide) hf7 (fun _ h9 => h9) rfl dX12_flawOf_157 ?_
          refine lv_bipush (v := (12 : Int32)) hx hb dX12_flawOf_160 (by decide) ?_
          refine lv_iconst (v := (3 : Int32)) hx hb dX12_flawOf_162 (by decide) ?_
          refine lv_iload hx hb dX12_flawOf_163 (lv_at hl 10 rfl) ?_
          refine lv_imul hx hb dX12_flawOf_165 ?_
          refine lv_iadd hx hb dX12_flawOf_166 ?_
          refine lv_iconst (v := (1 : Int32)) hx hb dX12_flawOf_167 (by decide) ?_
          refine lv_iadd hx hb dX12_flawOf_168 ?_
          obtain ⟨g50, h⟩ := gd_some h
          refine r_ald (f := (gX12_m S)) (n := 714) (v := ((gX12_m S) (((((12 : Int32) + ((3 : Int32) * x30)) + (1 : Int32))).toNatClampNeg))) hx hb hK hP 1 0 rfl rfl (gIn_in g50) rfl dX12_flawOf_169 ?_
          refine lv_ishl hx hb dX12_flawOf_170 ?_
          refine lv_ior hx hb dX12_flawOf_171 ?_
          refine lv_istore (lv' := [(6, .int (v6_26 ||| ((1 : Int32) <<< (((gX12_m S) (((((12 : Int32) + ((3 : Int32) * x30)) + (1 : Int32))).toNatClampNeg)) &&& 31)))), (5, .int (v5_25 + ((gX12_m S) (((((12 : Int32) + ((3 : Int32) * x30)) + (2 : Int32))).toNatClampNeg)))), (7, .int x47), (0, .ref (a o)), (1, .int c1_4), (2, .int c2_5), (3, .int c3_6), (4, .int c4_7), (8, .int v8_28), (9, .int v9_29), (10, .int x30)]) hx hb dX12_flawOf_172 hl (by decide) rfl (fun ls hl => ?_)
          refine lv_iload hx hb dX12_flawOf_174 (lv_at hl 8 rfl) ?_
          obtain ⟨j52, hj52, h⟩ := jn_elim h
          have Jj52 : ∀ (x51 : Int32) (ls : Array Slot), j52 x51 = some rs → lv_has ls 14 [(0, .ref (a o)), (1, .int c1_4), (2, .int c2_5), (3, .int c3_6), (4, .int c4_7), (5, .int (v5_25 + ((gX12_m S) (((((12 : Int32) + ((3 : Int32) * x30)) + (2 : Int32))).toNatClampNeg)))), (6, .int (v6_26 ||| ((1 : Int32) <<< (((gX12_m S) (((((12 : Int32) + ((3 : Int32) * x30)) + (1 : Int32))).toNatClampNeg)) &&& 31)))), (7, .int x47), (9, .int v9_29)] → W p l e (headSpec wsX12_flawOf ({ frames := 3, cells := 0, slots := 0, locals := 71 } : Room)).room s m ([.ref (a o), .int p1, .int p2] : List Value).toArray below meth c s.heap [] 0 0 (MQ below (vp_Si (fun z => z = rs)) ([.ref (a o), .int p1, .int p2] : List Value).toArray s 0 0 (fun _ => False)) (F0 m 195 ls [.int x51]) := by
            intro x51 ls h hl
            rw [hj52] at h
            refine lv_istore (lv' := [(8, .int x51), (0, .ref (a o)), (1, .int c1_4), (2, .int c2_5), (3, .int c3_6), (4, .int c4_7), (5, .int (v5_25 + ((gX12_m S) (((((12 : Int32) + ((3 : Int32) * x30)) + (2 : Int32))).toNatClampNeg)))), (6, .int (v6_26 ||| ((1 : Int32) <<< (((gX12_m S) (((((12 : Int32) + ((3 : Int32) * x30)) + (1 : Int32))).toNatClampNeg)) &&& 31)))), (7, .int x47), (9, .int v9_29)]) hx hb dX12_flawOf_195 hl (by decide) rfl (fun ls hl => ?_)
            refine lv_iinc (v := (v9_29 + (1 : Int32))) (lv' := [(9, .int (v9_29 + (1 : Int32))), (8, .int x51), (0, .ref (a o)), (1, .int c1_4), (2, .int c2_5), (3, .int c3_6), (4, .int c4_7), (5, .int (v5_25 + ((gX12_m S) (((((12 : Int32) + ((3 : Int32) * x30)) + (2 : Int32))).toNatClampNeg)))), (6, .int (v6_26 ||| ((1 : Int32) <<< (((gX12_m S) (((((12 : Int32) + ((3 : Int32) * x30)) + (1 : Int32))).toNatClampNeg)) &&& 31)))), (7, .int x47)]) hx hb dX12_flawOf_197 hl (k := 9) rfl (by rfl) (by decide) rfl (fun ls hl => ?_)
            refine lv_goto (tgt := 35) hx hb dX12_flawOf_200 (by decide) ?_
            exact ih (v5_25 + ((gX12_m S) (((((12 : Int32) + ((3 : Int32) * x30)) + (2 : Int32))).toNatClampNeg))) (v6_26 ||| ((1 : Int32) <<< (((gX12_m S) (((((12 : Int32) + ((3 : Int32) * x30)) + (1 : Int32))).toNatClampNeg)) &&& 31))) x47 x51 (v9_29 + (1 : Int32)) ls h (lv_sub hl [2, 3, 4, 5, 6, 7, 8, 9, 1, 0] rfl)
          obtain ⟨j53, hj53, h⟩ := jn_elim h
          have Jj53 : ∀ (ls : Array Slot), j53 () = some rs → lv_has ls 14 [(0, .ref (a o)), (1, .int c1_4), (2, .int c2_5), (3, .int c3_6), (4, .int c4_7), (5, .int (v5_25 + ((gX12_m S) (((((12 : Int32) + ((3 : Int32) * x30)) + (2 : Int32))).toNatClampNeg)))), (6, .int (v6_26 ||| ((1 : Int32) <<< (((gX12_m S) (((((12 : Int32) + ((3 : Int32) * x30)) + (1 : Int32))).toNatClampNeg)) &&& 31)))), (7, .int x47), (9, .int v9_29)] → W p l e (headSpec wsX12_flawOf ({ frames := 3, cells := 0, slots := 0, locals := 71 } : Room)).room s m ([.ref (a o), .int p1, .int p2] : List Value).toArray below meth c s.heap [] 0 0 (MQ below (vp_Si (fun z => z = rs)) ([.ref (a o), .int p1, .int p2] : List Value).toArray s 0 0 (fun _ => False)) (F0 m 190 ls []) := by
            intro ls h hl
            rw [hj53] at h
            refine lv_iconst (v := (1 : Int32)) hx hb dX12_flawOf_190 (by decide) ?_
            refine lv_goto (tgt := 195) hx hb dX12_flawOf_191 (by decide) ?_
            exact Jj52 (1 : Int32) ls h (lv_sub hl [0, 1, 2, 3, 4, 5, 6, 7, 8] rfl)
          refine lv_if_ne (tgt := 190) hx hb dX12_flawOf_176 (by decide) (fun cc => ?_) (fun cc => ?_)
          · have h := ite_n cc h
            exact Jj53  ls h (lv_sub hl [3, 4, 5, 6, 7, 1, 0, 2, 9] rfl)
          · have h := ite_p cc h
            refine lv_aload_n hx hb dX12_flawOf_179 rfl (lv_at hl 3 rfl) ?_
            refine lv_iload_n hx hb dX12_flawOf_180 rfl (lv_at hl 4 rfl) ?_
            refine lv_iload_n hx hb dX12_flawOf_181 rfl (lv_at hl 5 rfl) ?_
            refine lv_iload hx hb dX12_flawOf_182 (lv_at hl 10 rfl) ?_
            obtain ⟨x54, e55, h⟩ := bd_some h
            refine pcV (As := [.int c1_4, .int c2_5, .int x30]) (rest := []) (q0 := 0) (qX12_wasPlayed l D cy a o S c1_4 c2_5 x30 x54 e55) ⟨hx, hb, hml, hown, hts⟩ (cwV 3 hts gX12_flawOf_X12_wasPlayed rfl rfl rfl (by decide +kernel) ⟨Nat.le_of_ble_eq_true rfl, Nat.le_of_ble_eq_true rfl⟩) hG hP rfl rfl rfl hl.1 rfl (Nat.le_of_ble_eq_true rfl) dX12_flawOf_184 ⟨Nat.zero_le _, Nat.zero_le _⟩ ?_
            refine lv_if_eq (tgt := 194) hx hb dX12_flawOf_187 (by decide) (fun cc => ?_) (fun cc => ?_)
            · have h := ite_p cc h
              refine lv_iconst (v := (0 : Int32)) hx hb dX12_flawOf_194 (by decide) ?_
              exact Jj52 (0 : Int32) ls h (lv_sub hl [3, 4, 5, 6, 7, 1, 0, 2, 9] rfl)
            · have h := ite_n cc h
              exact Jj53  ls h (lv_sub hl [3, 4, 5, 6, 7, 1, 0, 2, 9] rfl)
        refine lv_icmp_le (tgt := 130) hx hb dX12_flawOf_122 (by decide) (fun cc => ?_) (fun cc => ?_)
        · have h := ite_p cc h
          refine lv_iload hx hb dX12_flawOf_130 (lv_at hl 7 rfl) ?_
          exact Jj48 v7_27 ls h (lv_sub hl [0, 1, 2, 3, 4, 5, 6, 8, 9, 10] rfl)
        · have h := ite_n cc h
          refine lv_iload hx hb dX12_flawOf_125 (lv_at hl 11 rfl) ?_
          refine lv_goto (tgt := 132) hx hb dX12_flawOf_127 (by decide) ?_
          exact Jj48 v12_46 ls h (lv_sub hl [0, 1, 2, 3, 4, 5, 6, 8, 9, 10] rfl)
  refine L64 p1 p2 ((102 : Int32) + ((6 : Int32) * p2)) ((gX12_m S) ((x1).toNatClampNeg)) _ ?_ fu (0 : Int32) (0 : Int32) (0 : Int32) (0 : Int32) (0 : Int32) ls h (lv_sub hl [7, 8, 9, 6, 5, 4, 3, 2, 1, 0] rfl)
  intro v5_13 v6_14 v7_15 v8_16 ls h hl
  refine lv_iload hx hb dX12_flawOf_203 (lv_at hl 2 rfl) ?_
  refine lv_if_ne (tgt := 210) hx hb dX12_flawOf_205 (by decide) (fun cc => ?_) (fun cc => ?_)
  · have h := ite_n cc h
    refine lv_iload hx hb dX12_flawOf_210 (lv_at hl 3 rfl) ?_
    refine lv_aload_n hx hb dX12_flawOf_212 rfl (lv_at hl 0 rfl) ?_
    refine va_get (D := D) (ci := 12) (v := .ref (a (o + 1))) (C := RX12) (T := TX12) (N := 12) hx hb hts hinX12 hown hK hP 0 rfl rfl 0 (by decide) hf7 (fun _ h9 => h9) rfl dX12_flawOf_213 ?_
    refine lv_iload_n hx hb dX12_flawOf_216 rfl (lv_at hl 1 rfl) ?_
    refine lv_iconst (v := (0 : Int32)) hx hb dX12_flawOf_217 (by decide) ?_
    refine lv_iadd hx hb dX12_flawOf_218 ?_
    obtain ⟨g17, h⟩ := gd_some h
    refine r_ald (f := (gX12_m S)) (n := 714) (v := ((gX12_m S) (((((102 : Int32) + ((6 : Int32) * p2)) + (0 : Int32))).toNatClampNeg))) hx hb hK hP 1 0 rfl rfl (gIn_in g17) rfl dX12_flawOf_219 ?_
    obtain ⟨j19, hj19, h⟩ := jn_elim h
    have Jj19 : ∀ (x18 : Int32) (ls : Array Slot), j19 x18 = some rs → lv_has ls 14 [] → W p l e (headSpec wsX12_flawOf ({ frames := 3, cells := 0, slots := 0, locals := 71 } : Room)).room s m ([.ref (a o), .int p1, .int p2] : List Value).toArray below meth c s.heap [] 0 0 (MQ below (vp_Si (fun z => z = rs)) ([.ref (a o), .int p1, .int p2] : List Value).toArray s 0 0 (fun _ => False)) (F0 m 304 ls [.int x18]) := by
      intro x18 ls h hl
      rw [hj19] at h
      exact W.iret (v := x18) hx hb hr (fun t ht hW => ⟨x18, rfl, some_in h, ht⟩) (fun q hq => nomatch hq) dX12_flawOf_304
    refine lv_icmp_ge (tgt := 227) hx hb dX12_flawOf_220 (by decide) (fun cc => ?_) (fun cc => ?_)
    · have h := ite_p cc h
      refine lv_iload hx hb dX12_flawOf_227 (lv_at hl 3 rfl) ?_
      refine lv_aload_n hx hb dX12_flawOf_229 rfl (lv_at hl 0 rfl) ?_
      refine va_get (D := D) (ci := 12) (v := .ref (a (o + 1))) (C := RX12) (T := TX12) (N := 12) hx hb hts hinX12 hown hK hP 0 rfl rfl 0 (by decide) hf7 (fun _ h9 => h9) rfl dX12_flawOf_230 ?_
      refine lv_iload_n hx hb dX12_flawOf_233 rfl (lv_at hl 1 rfl) ?_
      refine lv_iconst (v := (1 : Int32)) hx hb dX12_flawOf_234 (by decide) ?_
      refine lv_iadd hx hb dX12_flawOf_235 ?_
      obtain ⟨g20, h⟩ := gd_some h
      refine r_ald (f := (gX12_m S)) (n := 714) (v := ((gX12_m S) (((((102 : Int32) + ((6 : Int32) * p2)) + (1 : Int32))).toNatClampNeg))) hx hb hK hP 1 0 rfl rfl (gIn_in g20) rfl dX12_flawOf_236 ?_
      refine lv_icmp_le (tgt := 244) hx hb dX12_flawOf_237 (by decide) (fun cc => ?_) (fun cc => ?_)
      · have h := ite_p cc h
        refine lv_aload_n hx hb dX12_flawOf_244 rfl (lv_at hl 0 rfl) ?_
        refine va_get (D := D) (ci := 12) (v := .ref (a (o + 1))) (C := RX12) (T := TX12) (N := 12) hx hb hts hinX12 hown hK hP 0 rfl rfl 0 (by decide) hf7 (fun _ h9 => h9) rfl dX12_flawOf_245 ?_
        refine lv_iload_n hx hb dX12_flawOf_248 rfl (lv_at hl 1 rfl) ?_
        refine lv_iconst (v := (2 : Int32)) hx hb dX12_flawOf_249 (by decide) ?_
        refine lv_iadd hx hb dX12_flawOf_250 ?_
        obtain ⟨g21, h⟩ := gd_some h
        refine r_ald (f := (gX12_m S)) (n := 714) (v := ((gX12_m S) (((((102 : Int32) + ((6 : Int32) * p2)) + (2 : Int32))).toNatClampNeg))) hx hb hK hP 1 0 rfl rfl (gIn_in g21) rfl dX12_flawOf_251 ?_
        refine lv_iload hx hb dX12_flawOf_252 (lv_at hl 4 rfl) ?_
        refine lv_iconst (v := (-1 : Int32)) hx hb dX12_flawOf_254 (by decide) ?_
        refine lv_ixor hx hb dX12_flawOf_255 ?_
        refine lv_iand hx hb dX12_flawOf_256 ?_
        refine lv_if_eq (tgt := 264) hx hb dX12_flawOf_257 (by decide) (fun cc => ?_) (fun cc => ?_)
        · have h := ite_p cc h
          refine lv_iload hx hb dX12_flawOf_264 (lv_at hl 5 rfl) ?_
          refine lv_aload_n hx hb dX12_flawOf_266 rfl (lv_at hl 0 rfl) ?_
          refine va_get (D := D) (ci := 12) (v := .ref (a (o + 1))) (C := RX12) (T := TX12) (N := 12) hx hb hts hinX12 hown hK hP 0 rfl rfl 0 (by decide) hf7 (fun _ h9 => h9) rfl dX12_flawOf_267 ?_
          refine lv_iload_n hx hb dX12_flawOf_270 rfl (lv_at hl 1 rfl) ?_
          refine lv_iconst (v := (3 : Int32)) hx hb dX12_flawOf_271 (by decide) ?_
          refine lv_iadd hx hb dX12_flawOf_272 ?_
          obtain ⟨g22, h⟩ := gd_some h
          refine r_ald (f := (gX12_m S)) (n := 714) (v := ((gX12_m S) (((((102 : Int32) + ((6 : Int32) * p2)) + (3 : Int32))).toNatClampNeg))) hx hb hK hP 1 0 rfl rfl (gIn_in g22) rfl dX12_flawOf_273 ?_
          refine lv_icmp_le (tgt := 281) hx hb dX12_flawOf_274 (by decide) (fun cc => ?_) (fun cc => ?_)
          · have h := ite_p cc h
            refine lv_aload_n hx hb dX12_flawOf_281 rfl (lv_at hl 0 rfl) ?_
            refine va_get (D := D) (ci := 12) (v := .ref (a (o + 1))) (C := RX12) (T := TX12) (N := 12) hx hb hts hinX12 hown hK hP 0 rfl rfl 0 (by decide) hf7 (fun _ h9 => h9) rfl dX12_flawOf_282 ?_
            refine lv_iload_n hx hb dX12_flawOf_285 rfl (lv_at hl 1 rfl) ?_
            refine lv_iconst (v := (4 : Int32)) hx hb dX12_flawOf_286 (by decide) ?_
            refine lv_iadd hx hb dX12_flawOf_287 ?_
            obtain ⟨g23, h⟩ := gd_some h
            refine r_ald (f := (gX12_m S)) (n := 714) (v := ((gX12_m S) (((((102 : Int32) + ((6 : Int32) * p2)) + (4 : Int32))).toNatClampNeg))) hx hb hK hP 1 0 rfl rfl (gIn_in g23) rfl dX12_flawOf_288 ?_
            refine lv_iconst (v := (1 : Int32)) hx hb dX12_flawOf_289 (by decide) ?_
            obtain ⟨j24, hj24, h⟩ := jn_elim h
            have Jj24 : ∀ (ls : Array Slot), j24 () = some rs → lv_has ls 14 [] → W p l e (headSpec wsX12_flawOf ({ frames := 3, cells := 0, slots := 0, locals := 71 } : Room)).room s m ([.ref (a o), .int p1, .int p2] : List Value).toArray below meth c s.heap [] 0 0 (MQ below (vp_Si (fun z => z = rs)) ([.ref (a o), .int p1, .int p2] : List Value).toArray s 0 0 (fun _ => False)) (F0 m 303 ls []) := by
              intro ls h hl
              rw [hj24] at h
              refine lv_iconst (v := (0 : Int32)) hx hb dX12_flawOf_303 (by decide) ?_
              exact Jj19 (0 : Int32) ls h (lv_sub hl [] rfl)
            refine lv_icmp_ne (tgt := 303) hx hb dX12_flawOf_290 (by decide) (fun cc => ?_) (fun cc => ?_)
            · have h := ite_n cc h
              exact Jj24  ls h (lv_sub hl [] rfl)
            · have h := ite_p cc h
              refine lv_iload hx hb dX12_flawOf_293 (lv_at hl 6 rfl) ?_
              refine lv_if_eq (tgt := 303) hx hb dX12_flawOf_295 (by decide) (fun cc => ?_) (fun cc => ?_)
              · have h := ite_p cc h
                exact Jj24  ls h (lv_sub hl [] rfl)
              · have h := ite_n cc h
                refine lv_bipush (v := (6 : Int32)) hx hb dX12_flawOf_298 (by decide) ?_
                refine lv_goto (tgt := 304) hx hb dX12_flawOf_300 (by decide) ?_
                exact Jj19 (6 : Int32) ls h (lv_sub hl [] rfl)
          · have h := ite_n cc h
            refine lv_iconst (v := (5 : Int32)) hx hb dX12_flawOf_277 (by decide) ?_
            refine lv_goto (tgt := 304) hx hb dX12_flawOf_278 (by decide) ?_
            exact Jj19 (5 : Int32) ls h (lv_sub hl [] rfl)
        · have h := ite_n cc h
          refine lv_iconst (v := (4 : Int32)) hx hb dX12_flawOf_260 (by decide) ?_
          refine lv_goto (tgt := 304) hx hb dX12_flawOf_261 (by decide) ?_
          exact Jj19 (4 : Int32) ls h (lv_sub hl [] rfl)
      · have h := ite_n cc h
        refine lv_iconst (v := (3 : Int32)) hx hb dX12_flawOf_240 (by decide) ?_
        refine lv_goto (tgt := 304) hx hb dX12_flawOf_241 (by decide) ?_
        exact Jj19 (3 : Int32) ls h (lv_sub hl [] rfl)
    · have h := ite_n cc h
      refine lv_iconst (v := (2 : Int32)) hx hb dX12_flawOf_223 (by decide) ?_
      refine lv_goto (tgt := 304) hx hb dX12_flawOf_224 (by decide) ?_
      exact Jj19 (2 : Int32) ls h (lv_sub hl [] rfl)
  · have h := ite_p cc h
    refine lv_iconst (v := (1 : Int32)) hx hb dX12_flawOf_208 (by decide) ?_
    exact W.iret (v := (1 : Int32)) hx hb hr (fun t ht hW => ⟨(1 : Int32), rfl, some_in h, ht⟩) (fun q hq => nomatch hq) dX12_flawOf_209
set_option maxHeartbeats 4000000 in
set_option maxRecDepth 100000 in
theorem qX12_flaw (l : Launch) (D : va_G) (cy : Nat → ClassId) (a : Nat → Nat) (o : Nat) (S : SX12) (p1 : Int32) (p2 : Int32) (sz : Nat) (rs : Int32 × SX12) (h : DX12_flaw S p1 p2 = some rs) : Met l yX12_flaw wsX12_flaw ({ frames := 4, cells := 0, slots := 0, locals := 104 } : Room) (mP D cy sz [.ref (a o), .int p1, .int p2] (wX12 cy a o S)) (va_Qi (fun r (u : SX12) => (r, u) = rs) (fun u t => mB D sz (wX12 cy a o S) (wX12 cy a o u) t) (va_A (wX12 cy a o S) sz)) 0 0 (va_A (wX12 cy a o S) sz) := by
  refine Met.ofW (cc := cX12_flaw) (maxL := 3) (ret := (some .int)) (by decide) rfl ?_
  intro p e s m args below meth c s₁ B hml hv
  obtain ⟨rfl, hsz, hP, hG, hD0⟩ := hv
  have hx := B.exec
  have hb := B.bytes
  have hr := B.returns
  have hts := atoms_spec (ws := wsX12_flaw) B.pre
  have hown : s.vm.findClass RX12 = some m.cls := findClass_of_methodNamed B.named
  have hlocks := B.notSynchronized
  have hK := hG.1
  subst hsz
  have hD := hD0.self (sz := s.heap.size)
  have hA : ∀ q : Nat, s.heap.size ≤ q → (va_A (wX12 cy a o S) s.heap.size) q := fun q h => Or.inr h
  have hS : va_S (va_A (wX12 cy a o S) s.heap.size) s.heap s.heap [] := va_S.rf
  have hinX12 := (by decide +kernel : ∀ w ∈ wsX120, w ∈ wsX12_flaw)
  have hf31 := hts (.fieldLink RX12 31 "PianoRoundsModel" "code" "I") (by decide +kernel)
  have hl := lv_entry ([.ref (a o), .int p1, .int p2]) (n := 3) (Nat.le_of_ble_eq_true rfl)
  rw [lg_entry_eq]
  generalize (lg_sl ([.ref (a o), .int p1, .int p2]) ++ List.replicate (3 - (lg_sl ([.ref (a o), .int p1, .int p2])).length) Slot.unset).toArray = ls at hl ⊢
  have hl : lv_has ls 3 [(0, .ref (a o)), (1, .int p1), (2, .int p2)] := hl
  rw [DX12_flaw] at h
  refine lv_aload_n hx hb dX12_flaw_0 rfl (lv_at hl 0 rfl) ?_
  refine lv_aload_n hx hb dX12_flaw_1 rfl (lv_at hl 0 rfl) ?_
  refine lv_iload_n hx hb dX12_flaw_2 rfl (lv_at hl 1 rfl) ?_
  obtain ⟨x1, e2, h⟩ := bd_some h
  refine pcV (As := [.int p1]) (rest := [.ref (a o)]) (q0 := 0) (qX12_isEntrant l D cy a o S p1 x1 e2) ⟨hx, hb, hml, hown, hts⟩ (cwV 1 hts gX12_flaw_X12_isEntrant rfl rfl rfl (by decide +kernel) ⟨Nat.le_of_ble_eq_true rfl, Nat.le_of_ble_eq_true rfl⟩) hG hP rfl rfl rfl hl.1 rfl (Nat.le_of_ble_eq_true rfl) dX12_flaw_3 ⟨Nat.zero_le _, Nat.zero_le _⟩ ?_
  obtain ⟨j4, hj4, h⟩ := jn_elim h
  have Jj4 : ∀ (x3 : Int32) (ls : Array Slot), j4 x3 = some rs → lv_has ls 3 [(0, .ref (a o)), (1, .int p1), (2, .int p2)] → W p l e (headSpec wsX12_flaw ({ frames := 4, cells := 0, slots := 0, locals := 104 } : Room)).room s m ([.ref (a o), .int p1, .int p2] : List Value).toArray below meth c s.heap [] 0 0 (MQ below (va_Qi (fun r (u : SX12) => (r, u) = rs) (fun u t => mB D s.heap.size (wX12 cy a o S) (wX12 cy a o u) t) (va_A (wX12 cy a o S) s.heap.size)) ([.ref (a o), .int p1, .int p2] : List Value).toArray s 0 0 (va_A (wX12 cy a o S) s.heap.size)) (F0 m 21 ls [.int x3, .ref (a o)]) := by
    intro x3 ls h hl
    rw [hj4] at h
    refine va_put (D := D) (ci := 12) (v := .int x3) (ty := .int) (C := RX12) (T := TX12) (N := 12) hx hb hts hinX12 tyX12 tyX12_ok nmX12 hown hK hP hD hS 0 rfl rfl 5 (by decide) hf31 (fun _ h9 => h9) rfl (by decide +kernel) rfl rfl (Nat.le_of_ble_eq_true rfl) dX12_flaw_21 (fun H locs hP hD hS => ?_)
    have hP : va_P D vwCl (wX12 cy a o (uX12_code S x3)) H := hP
    have hD : va_D (va_A (wX12 cy a o S) s.heap.size) (wX12 cy a o (uX12_code S x3)) := hD
    obtain ⟨S5, eS6, h⟩ := lt_elim h
    have hP : va_P D vwCl (wX12 cy a o S5) H := by rw [eS6]; exact hP
    have hD : va_D (va_A (wX12 cy a o S) s.heap.size) (wX12 cy a o S5) := by rw [eS6]; exact hD
    refine lv_aload_n hx hb dX12_flaw_24 rfl (lv_at hl 0 rfl) ?_
    refine va_get (D := D) (ci := 12) (v := .int (gX12_code S5)) (C := RX12) (T := TX12) (N := 12) hx hb hts hinX12 hown hK hP 0 rfl rfl 5 (by decide) hf31 (fun _ h9 => h9) rfl dX12_flaw_25 ?_
    obtain ⟨j8, hj8, h⟩ := jn_elim h
    have Jj8 : ∀ (x7 : Int32) (ls : Array Slot), j8 x7 = some rs → lv_has ls 3 [] → W p l e (headSpec wsX12_flaw ({ frames := 4, cells := 0, slots := 0, locals := 104 } : Room)).room s m ([.ref (a o), .int p1, .int p2] : List Value).toArray below meth c H locs 0 0 (MQ below (va_Qi (fun r (u : SX12) => (r, u) = rs) (fun u t => mB D s.heap.size (wX12 cy a o S) (wX12 cy a o u) t) (va_A (wX12 cy a o S) s.heap.size)) ([.ref (a o), .int p1, .int p2] : List Value).toArray s 0 0 (va_A (wX12 cy a o S) s.heap.size)) (F0 m 41 ls [.int x7]) := by
      intro x7 ls h hl
      rw [hj8] at h
      exact W.iret (v := x7) hx hb hr (fun t ht hW => ⟨⟨x7, S5, rfl, some_in h, by rw [ht]; exact hP, hD⟩, hS.F ht⟩) hS.2.2 dX12_flaw_41
    refine lv_if_eq (tgt := 35) hx hb dX12_flaw_28 (by decide) (fun cc => ?_) (fun cc => ?_)
    · have h := ite_p cc h
      refine lv_aload_n hx hb dX12_flaw_35 rfl (lv_at hl 0 rfl) ?_
      refine lv_iload_n hx hb dX12_flaw_36 rfl (lv_at hl 1 rfl) ?_
      refine lv_iload_n hx hb dX12_flaw_37 rfl (lv_at hl 2 rfl) ?_
      obtain ⟨x9, e10, h⟩ := bd_some h
      refine pcV (As := [.int p1, .int p2]) (rest := []) (q0 := 0) (qX12_flawOf l D cy a o S5 p1 p2 x9 e10) ⟨hx, hb, hml, hown, hts⟩ (cwV 2 hts gX12_flaw_X12_flawOf rfl rfl rfl (by decide +kernel) ⟨Nat.le_of_ble_eq_true rfl, Nat.le_of_ble_eq_true rfl⟩) hG hP rfl rfl rfl hl.1 rfl (Nat.le_of_ble_eq_true rfl) dX12_flaw_38 ⟨Nat.zero_le _, Nat.zero_le _⟩ ?_
      exact Jj8 x9 ls h (lv_sub hl [] rfl)
    · have h := ite_n cc h
      refine lv_iconst (v := (0 : Int32)) hx hb dX12_flaw_31 (by decide) ?_
      refine lv_goto (tgt := 41) hx hb dX12_flaw_32 (by decide) ?_
      exact Jj8 (0 : Int32) ls h (lv_sub hl [] rfl)
  obtain ⟨j11, hj11, h⟩ := jn_elim h
  have Jj11 : ∀ (ls : Array Slot), j11 () = some rs → lv_has ls 3 [(0, .ref (a o)), (1, .int p1), (2, .int p2)] → W p l e (headSpec wsX12_flaw ({ frames := 4, cells := 0, slots := 0, locals := 104 } : Room)).room s m ([.ref (a o), .int p1, .int p2] : List Value).toArray below meth c s.heap [] 0 0 (MQ below (va_Qi (fun r (u : SX12) => (r, u) = rs) (fun u t => mB D s.heap.size (wX12 cy a o S) (wX12 cy a o u) t) (va_A (wX12 cy a o S) s.heap.size)) ([.ref (a o), .int p1, .int p2] : List Value).toArray s 0 0 (va_A (wX12 cy a o S) s.heap.size)) (F0 m 20 ls [.ref (a o)]) := by
    intro ls h hl
    rw [hj11] at h
    refine lv_iconst (v := (1 : Int32)) hx hb dX12_flaw_20 (by decide) ?_
    exact Jj4 (1 : Int32) ls h (lv_sub hl [0, 1, 2] rfl)
  refine lv_if_eq (tgt := 20) hx hb dX12_flaw_6 (by decide) (fun cc => ?_) (fun cc => ?_)
  · have h := ite_p cc h
    exact Jj11  ls h (lv_sub hl [0, 1, 2] rfl)
  · have h := ite_n cc h
    refine lv_iload_n hx hb dX12_flaw_9 rfl (lv_at hl 2 rfl) ?_
    obtain ⟨x12, e13, h⟩ := bd_some h
    refine pcS (As := [.int p2]) (rest := [.ref (a o)]) (qX12_isRound l D cy  p2 x12 e13) ⟨hx, hb, hml, hown, hts⟩ (va_cwS 1 hts gX12_flaw_X12_isRound rfl rfl rfl (by decide +kernel) ⟨Nat.le_of_ble_eq_true rfl, Nat.le_of_ble_eq_true rfl⟩) hG (hP.sub [] rfl) rfl hl.1 rfl (Nat.le_of_ble_eq_true rfl) dX12_flaw_10 ⟨Nat.zero_le _, Nat.zero_le _⟩ ?_
    refine lv_if_eq (tgt := 20) hx hb dX12_flaw_13 (by decide) (fun cc => ?_) (fun cc => ?_)
    · have h := ite_p cc h
      exact Jj11  ls h (lv_sub hl [0, 1, 2] rfl)
    · have h := ite_n cc h
      refine lv_iconst (v := (0 : Int32)) hx hb dX12_flaw_16 (by decide) ?_
      refine lv_goto (tgt := 21) hx hb dX12_flaw_17 (by decide) ?_
      exact Jj4 (0 : Int32) ls h (lv_sub hl [0, 1, 2] rfl)
set_option maxHeartbeats 4000000 in
set_option maxRecDepth 100000 in
theorem qX12_clearTie (l : Launch) (D : va_G) (cy : Nat → ClassId) (a : Nat → Nat) (o : Nat) (S : SX12)  (sz : Nat) (rs : SX12) (h : DX12_clearTie S = some rs) : Met l yX12_clearTie wsX12_clearTie ({ frames := 0, cells := 0, slots := 0, locals := 0 } : Room) (mP D cy sz [.ref (a o)] (wX12 cy a o S)) (va_Qv (fun (u : SX12) => u = rs) (fun u t => mB D sz (wX12 cy a o S) (wX12 cy a o u) t) (va_A (wX12 cy a o S) sz)) 0 0 (va_A (wX12 cy a o S) sz) := by
  refine Met.ofW (cc := cX12_clearTie) (maxL := 2) (ret := none) (by decide) rfl ?_
  intro p e s m args below meth c s₁ B hml hv
  obtain ⟨rfl, hsz, hP, hG, hD0⟩ := hv
  have hx := B.exec
  have hb := B.bytes
  have hr := B.returns
  have hts := atoms_spec (ws := wsX12_clearTie) B.pre
  have hown : s.vm.findClass RX12 = some m.cls := findClass_of_methodNamed B.named
  have hlocks := B.notSynchronized
  have hK := hG.1
  subst hsz
  have hD := hD0.self (sz := s.heap.size)
  have hA : ∀ q : Nat, s.heap.size ≤ q → (va_A (wX12 cy a o S) s.heap.size) q := fun q h => Or.inr h
  have hS : va_S (va_A (wX12 cy a o S) s.heap.size) s.heap s.heap [] := va_S.rf
  have hinX12 := (by decide +kernel : ∀ w ∈ wsX120, w ∈ wsX12_clearTie)
  have hf7 := hts (.fieldLink RX12 7 "PianoRoundsModel" "m" "[I") (by decide +kernel)
  have hl := lv_entry ([.ref (a o)]) (n := 2) (Nat.le_of_ble_eq_true rfl)
  rw [lg_entry_eq]
  generalize (lg_sl ([.ref (a o)]) ++ List.replicate (2 - (lg_sl ([.ref (a o)])).length) Slot.unset).toArray = ls at hl ⊢
  have hl : lv_has ls 2 [(0, .ref (a o))] := hl
  rw [DX12_clearTie] at h
  refine lv_aload_n hx hb dX12_clearTie_0 rfl (lv_at hl 0 rfl) ?_
  refine va_get (D := D) (ci := 12) (v := .ref (a (o + 1))) (C := RX12) (T := TX12) (N := 12) hx hb hts hinX12 hown hK hP 0 rfl rfl 0 (by decide) hf7 (fun _ h9 => h9) rfl dX12_clearTie_1 ?_
  refine lv_bipush (v := (9 : Int32)) hx hb dX12_clearTie_4 (by decide) ?_
  refine lv_iconst (v := (0 : Int32)) hx hb dX12_clearTie_6 (by decide) ?_
  refine r_ast (f := (gX12_m S)) (f' := (upd (gX12_m S) 9 (0 : Int32))) (n := 714) (ws' := (wX12 cy a o (uX12_m S (upd (gX12_m S) 9 (0 : Int32))))) hx hb hK hP hD hS 1 0 rfl rfl (vp_in_nI (n := 9) (N := 714) (by decide) (by decide)) (updc (nI_clamp (n := 9) (by decide))) rfl dX12_clearTie_7 (fun H locs hP hD hS => ?_)
  obtain ⟨S1, eS2, h⟩ := lt_elim h
  have hP : va_P D vwCl (wX12 cy a o S1) H := by rw [eS2]; exact hP
  have hD : va_D (va_A (wX12 cy a o S) s.heap.size) (wX12 cy a o S1) := by rw [eS2]; exact hD
  refine lv_aload_n hx hb dX12_clearTie_8 rfl (lv_at hl 0 rfl) ?_
  refine va_get (D := D) (ci := 12) (v := .ref (a (o + 1))) (C := RX12) (T := TX12) (N := 12) hx hb hts hinX12 hown hK hP 0 rfl rfl 0 (by decide) hf7 (fun _ h9 => h9) rfl dX12_clearTie_9 ?_
  refine lv_bipush (v := (10 : Int32)) hx hb dX12_clearTie_12 (by decide) ?_
  refine lv_iconst (v := (0 : Int32)) hx hb dX12_clearTie_14 (by decide) ?_
  refine r_ast (f := (gX12_m S1)) (f' := (upd (gX12_m S1) 10 (0 : Int32))) (n := 714) (ws' := (wX12 cy a o (uX12_m S1 (upd (gX12_m S1) 10 (0 : Int32))))) hx hb hK hP hD hS 1 0 rfl rfl (vp_in_nI (n := 10) (N := 714) (by decide) (by decide)) (updc (nI_clamp (n := 10) (by decide))) rfl dX12_clearTie_15 (fun H locs hP hD hS => ?_)
  obtain ⟨S3, eS4, h⟩ := lt_elim h
  have hP : va_P D vwCl (wX12 cy a o S3) H := by rw [eS4]; exact hP
  have hD : va_D (va_A (wX12 cy a o S) s.heap.size) (wX12 cy a o S3) := by rw [eS4]; exact hD
  refine lv_iconst (v := (0 : Int32)) hx hb dX12_clearTie_16 (by decide) ?_
  refine lv_istore_n (lv' := [(1, .int (0 : Int32)), (0, .ref (a o))]) hx hb dX12_clearTie_17 rfl hl (by decide) rfl (fun ls hl => ?_)
  have L22 : ∀ (k6 : SX12 → Option (SX12)) (hk6 : ∀ (S7 : SX12) (H : Heap) (locs : List Loc) (ls : Array Slot), k6 S7 = some rs → va_P D vwCl (wX12 cy a o S7) H → va_D (va_A (wX12 cy a o S) s.heap.size) (wX12 cy a o S7) → va_S (va_A (wX12 cy a o S) s.heap.size) s.heap H locs → lv_has ls 2 [(0, .ref (a o))] → W p l e (headSpec wsX12_clearTie ({ frames := 0, cells := 0, slots := 0, locals := 0 } : Room)).room s m ([.ref (a o)] : List Value).toArray below meth c H locs 0 0 (MQ below (va_Qv (fun (u : SX12) => u = rs) (fun u t => mB D s.heap.size (wX12 cy a o S) (wX12 cy a o u) t) (va_A (wX12 cy a o S) s.heap.size)) ([.ref (a o)] : List Value).toArray s 0 0 (va_A (wX12 cy a o S) s.heap.size)) (F0 m 41 ls [])) (f : Nat) (v1_18 : Int32) (S5 : SX12) (H : Heap) (locs : List Loc) (ls : Array Slot), DX12_clearTie_L18 k6 f v1_18 S5 = some rs → va_P D vwCl (wX12 cy a o S5) H → va_D (va_A (wX12 cy a o S) s.heap.size) (wX12 cy a o S5) → va_S (va_A (wX12 cy a o S) s.heap.size) s.heap H locs → lv_has ls 2 [(0, .ref (a o)), (1, .int v1_18)] → W p l e (headSpec wsX12_clearTie ({ frames := 0, cells := 0, slots := 0, locals := 0 } : Room)).room s m ([.ref (a o)] : List Value).toArray below meth c H locs 0 0 (MQ below (va_Qv (fun (u : SX12) => u = rs) (fun u t => mB D s.heap.size (wX12 cy a o S) (wX12 cy a o u) t) (va_A (wX12 cy a o S) s.heap.size)) ([.ref (a o)] : List Value).toArray s 0 0 (va_A (wX12 cy a o S) s.heap.size)) (F0 m 18 ls []) := by
    intro k6 hk6 f
    induction f with
    | zero =>
      intro v1_18 S5 H locs ls h hP hD hS hl
      rw [DX12_clearTie_L18] at h
      cases h
    | succ f ih =>
      intro v1_18 S5 H locs ls h hP hD hS hl
      rw [DX12_clearTie_L18] at h
      refine lv_iload_n hx hb dX12_clearTie_18 rfl (lv_at hl 1 rfl) ?_
      refine lv_bipush (v := (84 : Int32)) hx hb dX12_clearTie_19 (by decide) ?_
      refine lv_icmp_ge (tgt := 41) hx hb dX12_clearTie_21 (by decide) (fun cc => ?_) (fun cc => ?_)
      · have h := ite_p cc h
        exact hk6 S5 H locs ls h hP hD hS (lv_sub hl [0] rfl)
      · have h := ite_n cc h
        refine lv_aload_n hx hb dX12_clearTie_24 rfl (lv_at hl 0 rfl) ?_
        refine va_get (D := D) (ci := 12) (v := .ref (a (o + 1))) (C := RX12) (T := TX12) (N := 12) hx hb hts hinX12 hown hK hP 0 rfl rfl 0 (by decide) hf7 (fun _ h9 => h9) rfl dX12_clearTie_25 ?_
        refine lv_sipush (v := (570 : Int32)) hx hb dX12_clearTie_28 (by decide) ?_
        refine lv_iload_n hx hb dX12_clearTie_31 rfl (lv_at hl 1 rfl) ?_
        refine lv_iadd hx hb dX12_clearTie_32 ?_
        refine lv_iconst (v := (-1 : Int32)) hx hb dX12_clearTie_33 (by decide) ?_
        obtain ⟨g19, h⟩ := gd_some h
        refine r_ast (f := (gX12_m S5)) (f' := (upd (gX12_m S5) ((((570 : Int32) + v1_18)).toNatClampNeg) (-1 : Int32))) (n := 714) (ws' := (wX12 cy a o (uX12_m S5 (upd (gX12_m S5) ((((570 : Int32) + v1_18)).toNatClampNeg) (-1 : Int32))))) hx hb hK hP hD hS 1 0 rfl rfl (gIn_in g19) rfl rfl dX12_clearTie_34 (fun H locs hP hD hS => ?_)
        obtain ⟨S20, eS21, h⟩ := lt_elim h
        have hP : va_P D vwCl (wX12 cy a o S20) H := by rw [eS21]; exact hP
        have hD : va_D (va_A (wX12 cy a o S) s.heap.size) (wX12 cy a o S20) := by rw [eS21]; exact hD
        refine lv_iinc (v := (v1_18 + (1 : Int32))) (lv' := [(1, .int (v1_18 + (1 : Int32))), (0, .ref (a o))]) hx hb dX12_clearTie_35 hl (k := 1) rfl (by rfl) (by decide) rfl (fun ls hl => ?_)
        refine lv_goto (tgt := 18) hx hb dX12_clearTie_38 (by decide) ?_
        exact ih (v1_18 + (1 : Int32)) S20 H locs ls h hP hD hS (lv_sub hl [1, 0] rfl)
  refine L22  _ ?_ fu (0 : Int32) S3 H locs ls h hP hD hS (lv_sub hl [1, 0] rfl)
  intro S8 H locs ls h hP hD hS hl
  refine lv_iconst (v := (0 : Int32)) hx hb dX12_clearTie_41 (by decide) ?_
  refine lv_istore_n (lv' := [(1, .int (0 : Int32)), (0, .ref (a o))]) hx hb dX12_clearTie_42 rfl hl (by decide) rfl (fun ls hl => ?_)
  have L17 : ∀ (k10 : SX12 → Option (SX12)) (hk10 : ∀ (S11 : SX12) (H : Heap) (locs : List Loc) (ls : Array Slot), k10 S11 = some rs → va_P D vwCl (wX12 cy a o S11) H → va_D (va_A (wX12 cy a o S) s.heap.size) (wX12 cy a o S11) → va_S (va_A (wX12 cy a o S) s.heap.size) s.heap H locs → lv_has ls 2 [] → W p l e (headSpec wsX12_clearTie ({ frames := 0, cells := 0, slots := 0, locals := 0 } : Room)).room s m ([.ref (a o)] : List Value).toArray below meth c H locs 0 0 (MQ below (va_Qv (fun (u : SX12) => u = rs) (fun u t => mB D s.heap.size (wX12 cy a o S) (wX12 cy a o u) t) (va_A (wX12 cy a o S) s.heap.size)) ([.ref (a o)] : List Value).toArray s 0 0 (va_A (wX12 cy a o S) s.heap.size)) (F0 m 66 ls [])) (f : Nat) (v1_13 : Int32) (S9 : SX12) (H : Heap) (locs : List Loc) (ls : Array Slot), DX12_clearTie_L43 k10 f v1_13 S9 = some rs → va_P D vwCl (wX12 cy a o S9) H → va_D (va_A (wX12 cy a o S) s.heap.size) (wX12 cy a o S9) → va_S (va_A (wX12 cy a o S) s.heap.size) s.heap H locs → lv_has ls 2 [(0, .ref (a o)), (1, .int v1_13)] → W p l e (headSpec wsX12_clearTie ({ frames := 0, cells := 0, slots := 0, locals := 0 } : Room)).room s m ([.ref (a o)] : List Value).toArray below meth c H locs 0 0 (MQ below (va_Qv (fun (u : SX12) => u = rs) (fun u t => mB D s.heap.size (wX12 cy a o S) (wX12 cy a o u) t) (va_A (wX12 cy a o S) s.heap.size)) ([.ref (a o)] : List Value).toArray s 0 0 (va_A (wX12 cy a o S) s.heap.size)) (F0 m 43 ls []) := by
    intro k10 hk10 f
    induction f with
    | zero =>
      intro v1_13 S9 H locs ls h hP hD hS hl
      rw [DX12_clearTie_L43] at h
      cases h
    | succ f ih =>
      intro v1_13 S9 H locs ls h hP hD hS hl
      rw [DX12_clearTie_L43] at h
      refine lv_iload_n hx hb dX12_clearTie_43 rfl (lv_at hl 1 rfl) ?_
      refine lv_bipush (v := (12 : Int32)) hx hb dX12_clearTie_44 (by decide) ?_
      refine lv_icmp_ge (tgt := 66) hx hb dX12_clearTie_46 (by decide) (fun cc => ?_) (fun cc => ?_)
      · have h := ite_p cc h
        exact hk10 S9 H locs ls h hP hD hS (lv_sub hl [] rfl)
      · have h := ite_n cc h
        refine lv_aload_n hx hb dX12_clearTie_49 rfl (lv_at hl 0 rfl) ?_
        refine va_get (D := D) (ci := 12) (v := .ref (a (o + 1))) (C := RX12) (T := TX12) (N := 12) hx hb hts hinX12 hown hK hP 0 rfl rfl 0 (by decide) hf7 (fun _ h9 => h9) rfl dX12_clearTie_50 ?_
        refine lv_sipush (v := (654 : Int32)) hx hb dX12_clearTie_53 (by decide) ?_
        refine lv_iload_n hx hb dX12_clearTie_56 rfl (lv_at hl 1 rfl) ?_
        refine lv_iadd hx hb dX12_clearTie_57 ?_
        refine lv_iconst (v := (0 : Int32)) hx hb dX12_clearTie_58 (by decide) ?_
        obtain ⟨g14, h⟩ := gd_some h
        refine r_ast (f := (gX12_m S9)) (f' := (upd (gX12_m S9) ((((654 : Int32) + v1_13)).toNatClampNeg) (0 : Int32))) (n := 714) (ws' := (wX12 cy a o (uX12_m S9 (upd (gX12_m S9) ((((654 : Int32) + v1_13)).toNatClampNeg) (0 : Int32))))) hx hb hK hP hD hS 1 0 rfl rfl (gIn_in g14) rfl rfl dX12_clearTie_59 (fun H locs hP hD hS => ?_)
        obtain ⟨S15, eS16, h⟩ := lt_elim h
        have hP : va_P D vwCl (wX12 cy a o S15) H := by rw [eS16]; exact hP
        have hD : va_D (va_A (wX12 cy a o S) s.heap.size) (wX12 cy a o S15) := by rw [eS16]; exact hD
        refine lv_iinc (v := (v1_13 + (1 : Int32))) (lv' := [(1, .int (v1_13 + (1 : Int32))), (0, .ref (a o))]) hx hb dX12_clearTie_60 hl (k := 1) rfl (by rfl) (by decide) rfl (fun ls hl => ?_)
        refine lv_goto (tgt := 43) hx hb dX12_clearTie_63 (by decide) ?_
        exact ih (v1_13 + (1 : Int32)) S15 H locs ls h hP hD hS (lv_sub hl [1, 0] rfl)
  refine L17  _ ?_ fu (0 : Int32) S8 H locs ls h hP hD hS (lv_sub hl [1, 0] rfl)
  intro S12 H locs ls h hP hD hS hl
  exact W.vret hx hb hr (fun t ht hW => ⟨⟨S12, rfl, some_in h, by rw [ht]; exact hP, hD⟩, hS.F ht⟩) hS.2.2 dX12_clearTie_66
