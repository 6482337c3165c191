set_option maxHeartbeats 4000000 in
set_option maxRecDepth 100000 in
theorem qX12_thrown (l : Launch) (D : va_G) (cy : Nat → ClassId) (a : Nat → Nat) (o : Nat) (S : SX12)  (rs : Int32) (h : DX12_thrown S = some rs) : Met l yX12_thrown wsX12_thrown ({ frames := 0, cells := 0, slots := 0, locals := 0 } : Room) (va_Pc [.ref (a o)] (fun U => va_P D vwCl (wX12 cy a o S) U.heap ∧ gK D cy U)) (vp_Si (fun z => z = rs)) 0 0 (fun _ => False) := by
  refine Met.ofW (cc := cX12_thrown) (maxL := 1) (ret := (some .int)) (by decide) rfl ?_
  intro p e s m args below meth c s₁ B hml hv
  obtain ⟨rfl, hP, hG⟩ := hv
  have hx := B.exec
  have hb := B.bytes
  have hr := B.returns
  have hts := atoms_spec (ws := wsX12_thrown) B.pre
  have hown : s.vm.findClass RX12 = some m.cls := findClass_of_methodNamed B.named
  have hlocks := B.notSynchronized
  have hK := hG.1
  have hinX12 := (by decide +kernel : ∀ w ∈ wsX120, w ∈ wsX12_thrown)
  have hf31 := hts (.fieldLink RX12 31 "PianoRoundsModel" "code" "I") (by decide +kernel)
  have hl := lv_entry ([.ref (a o)]) (n := 1) (Nat.le_of_ble_eq_true rfl)
  rw [lg_entry_eq]
  generalize (lg_sl ([.ref (a o)]) ++ List.replicate (1 - (lg_sl ([.ref (a o)])).length) Slot.unset).toArray = ls at hl ⊢
  have hl : lv_has ls 1 [(0, .ref (a o))] := hl
  rw [DX12_thrown] at h
  refine lv_aload_n hx hb dX12_thrown_0 rfl (lv_at hl 0 rfl) ?_
  refine va_get (D := D) (ci := 12) (v := .int (gX12_code S)) (C := RX12) (T := TX12) (N := 12) hx hb hts hinX12 hown hK hP 0 rfl rfl 5 (by decide) hf31 (fun _ h9 => h9) rfl dX12_thrown_1 ?_
  exact W.iret (v := (gX12_code S)) hx hb hr (fun t ht hW => ⟨(gX12_code S), rfl, some_in h, ht⟩) (fun q hq => nomatch hq) dX12_thrown_4
set_option maxHeartbeats 4000000 in
set_option maxRecDepth 100000 in
theorem qX12_in (l : Launch) (D : va_G) (cy : Nat → ClassId)   (p0 : Int32) (p1 : Int32) (p2 : Int32) (rs : Int32) (h : DX12_in p0 p1 p2 = some rs) : Met l yX12_in wsX12_in ({ frames := 0, cells := 0, slots := 0, locals := 0 } : Room) (va_Pc [.int p0, .int p1, .int p2] (fun U => va_P D vwCl ([] : va_W) U.heap ∧ gK D cy U)) (vp_Si (fun z => z = rs)) 0 0 (fun _ => False) := by
  refine Met.ofW (cc := cX12_in) (maxL := 3) (ret := (some .boolean)) (by decide) rfl ?_
  intro p e s m args below meth c s₁ B hml hv
  obtain ⟨rfl, hP, hG⟩ := hv
  have hx := B.exec
  have hb := B.bytes
  have hr := B.returns
  have hts := atoms_spec (ws := wsX12_in) B.pre
  have hown : s.vm.findClass RX12 = some m.cls := findClass_of_methodNamed B.named
  have hlocks := B.notSynchronized
  have hK := hG.1
  have hl := lv_entry ([.int p0, .int p1, .int p2]) (n := 3) (Nat.le_of_ble_eq_true rfl)
  rw [lg_entry_eq]
  generalize (lg_sl ([.int p0, .int p1, .int p2]) ++ List.replicate (3 - (lg_sl ([.int p0, .int p1, .int p2])).length) Slot.unset).toArray = ls at hl ⊢
  have hl : lv_has ls 3 [(0, .int p0), (1, .int p1), (2, .int p2)] := hl
  rw [DX12_in] at h
  refine lv_iload_n hx hb dX12_in_0 rfl (lv_at hl 0 rfl) ?_
  refine lv_iload_n hx hb dX12_in_1 rfl (lv_at hl 1 rfl) ?_
  obtain ⟨j2, hj2, h⟩ := jn_elim h
  have Jj2 : ∀ (x1 : Int32) (ls : Array Slot), j2 x1 = some rs → lv_has ls 3 [] → W p l e (headSpec wsX12_in ({ frames := 0, cells := 0, slots := 0, locals := 0 } : Room)).room s m ([.int p0, .int p1, .int p2] : List Value).toArray below meth c s.heap [] 0 0 (MQ below (vp_Si (fun z => z = rs)) ([.int p0, .int p1, .int p2] : List Value).toArray s 0 0 (fun _ => False)) (F0 m 15 ls [.int x1]) := by
    intro x1 ls h hl
    rw [hj2] at h
    obtain ⟨g3, h⟩ := gd_some h
    exact W.zret (v := x1) hx hb hr (zN g3) (fun t ht hW => ⟨x1, rfl, some_in h, ht⟩) (fun q hq => nomatch hq) dX12_in_15
  obtain ⟨j4, hj4, h⟩ := jn_elim h
  have Jj4 : ∀ (ls : Array Slot), j4 () = some rs → lv_has ls 3 [] → W p l e (headSpec wsX12_in ({ frames := 0, cells := 0, slots := 0, locals := 0 } : Room)).room s m ([.int p0, .int p1, .int p2] : List Value).toArray below meth c s.heap [] 0 0 (MQ below (vp_Si (fun z => z = rs)) ([.int p0, .int p1, .int p2] : List Value).toArray s 0 0 (fun _ => False)) (F0 m 14 ls []) := by
    intro ls h hl
    rw [hj4] at h
    refine lv_iconst (v := (0 : Int32)) hx hb dX12_in_14 (by decide) ?_
    exact Jj2 (0 : Int32) ls h (lv_sub hl [] rfl)
  refine lv_icmp_lt (tgt := 14) hx hb dX12_in_2 (by decide) (fun cc => ?_) (fun cc => ?_)
  · have h := ite_p cc h
    exact Jj4  ls h (lv_sub hl [] rfl)
  · have h := ite_n cc h
    refine lv_iload_n hx hb dX12_in_5 rfl (lv_at hl 0 rfl) ?_
    refine lv_iload_n hx hb dX12_in_6 rfl (lv_at hl 2 rfl) ?_
    refine lv_icmp_gt (tgt := 14) hx hb dX12_in_7 (by decide) (fun cc => ?_) (fun cc => ?_)
    · have h := ite_p cc h
      exact Jj4  ls h (lv_sub hl [] rfl)
    · have h := ite_n cc h
      refine lv_iconst (v := (1 : Int32)) hx hb dX12_in_10 (by decide) ?_
      refine lv_goto (tgt := 15) hx hb dX12_in_11 (by decide) ?_
      exact Jj2 (1 : Int32) ls h (lv_sub hl [] rfl)
set_option maxHeartbeats 4000000 in
set_option maxRecDepth 100000 in
theorem qX12_keep (l : Launch) (D : va_G) (cy : Nat → ClassId) (a : Nat → Nat) (o : Nat) (S : SX12)  (sz : Nat) (rs : SX12) (h : DX12_keep S = some rs) : Met l yX12_keep wsX12_keep ({ frames := 0, cells := 0, slots := 0, locals := 0 } : Room) (mP D cy sz [.ref (a o)] (wX12 cy a o S)) (va_Qv (fun (u : SX12) => u = rs) (fun u t => mB D sz (wX12 cy a o S) (wX12 cy a o u) t) (va_A (wX12 cy a o S) sz)) 0 0 (va_A (wX12 cy a o S) sz) := by
  refine Met.ofW (cc := cX12_keep) (maxL := 2) (ret := none) (by decide) rfl ?_
  intro p e s m args below meth c s₁ B hml hv
  obtain ⟨rfl, hsz, hP, hG, hD0⟩ := hv
  have hx := B.exec
  have hb := B.bytes
  have hr := B.returns
  have hts := atoms_spec (ws := wsX12_keep) B.pre
  have hown : s.vm.findClass RX12 = some m.cls := findClass_of_methodNamed B.named
  have hlocks := B.notSynchronized
  have hK := hG.1
  subst hsz
  have hD := hD0.self (sz := s.heap.size)
  have hA : ∀ q : Nat, s.heap.size ≤ q → (va_A (wX12 cy a o S) s.heap.size) q := fun q h => Or.inr h
  have hS : va_S (va_A (wX12 cy a o S) s.heap.size) s.heap s.heap [] := va_S.rf
  have hinX12 := (by decide +kernel : ∀ w ∈ wsX120, w ∈ wsX12_keep)
  have hf35 := hts (.fieldLink RX12 35 "PianoRoundsModel" "savedCount" "I") (by decide +kernel)
  have hf13 := hts (.fieldLink RX12 13 "PianoRoundsModel" "saved" "[I") (by decide +kernel)
  have hf7 := hts (.fieldLink RX12 7 "PianoRoundsModel" "m" "[I") (by decide +kernel)
  have hl := lv_entry ([.ref (a o)]) (n := 2) (Nat.le_of_ble_eq_true rfl)
  rw [lg_entry_eq]
  generalize (lg_sl ([.ref (a o)]) ++ List.replicate (2 - (lg_sl ([.ref (a o)])).length) Slot.unset).toArray = ls at hl ⊢
  have hl : lv_has ls 2 [(0, .ref (a o))] := hl
  rw [DX12_keep] at h
  refine lv_aload_n hx hb dX12_keep_0 rfl (lv_at hl 0 rfl) ?_
  refine va_get (D := D) (ci := 12) (v := .int (gX12_savedCount S)) (C := RX12) (T := TX12) (N := 12) hx hb hts hinX12 hown hK hP 0 rfl rfl 2 (by decide) hf35 (fun _ h9 => h9) rfl dX12_keep_1 ?_
  refine lv_iconst (v := (4 : Int32)) hx hb dX12_keep_4 (by decide) ?_
  obtain ⟨j2, hj2, h⟩ := jn_elim h
  have Jj2 : ∀ (S1 : SX12) (H : Heap) (locs : List Loc) (ls : Array Slot), j2 S1 = some rs → va_P D vwCl (wX12 cy a o S1) H → va_D (va_A (wX12 cy a o S) s.heap.size) (wX12 cy a o S1) → va_S (va_A (wX12 cy a o S) s.heap.size) s.heap H locs → lv_has ls 2 [(0, .ref (a o))] → W p l e (headSpec wsX12_keep ({ frames := 0, cells := 0, slots := 0, locals := 0 } : Room)).room s m ([.ref (a o)] : List Value).toArray below meth c H locs 0 0 (MQ below (va_Qv (fun (u : SX12) => u = rs) (fun u t => mB D s.heap.size (wX12 cy a o S) (wX12 cy a o u) t) (va_A (wX12 cy a o S) s.heap.size)) ([.ref (a o)] : List Value).toArray s 0 0 (va_A (wX12 cy a o S) s.heap.size)) (F0 m 49 ls []) := by
    intro S1 H locs ls h hP hD hS hl
    rw [hj2] at h
    refine lv_iconst (v := (0 : Int32)) hx hb dX12_keep_49 (by decide) ?_
    refine lv_istore_n (lv' := [(1, .int (0 : Int32)), (0, .ref (a o))]) hx hb dX12_keep_50 rfl hl (by decide) rfl (fun ls hl => ?_)
    have L14 : ∀ (k4 : SX12 → Option (SX12)) (hk4 : ∀ (S5 : SX12) (H : Heap) (locs : List Loc) (ls : Array Slot), k4 S5 = some rs → va_P D vwCl (wX12 cy a o S5) H → va_D (va_A (wX12 cy a o S) s.heap.size) (wX12 cy a o S5) → va_S (va_A (wX12 cy a o S) s.heap.size) s.heap H locs → lv_has ls 2 [(0, .ref (a o))] → W p l e (headSpec wsX12_keep ({ frames := 0, cells := 0, slots := 0, locals := 0 } : Room)).room s m ([.ref (a o)] : List Value).toArray below meth c H locs 0 0 (MQ below (va_Qv (fun (u : SX12) => u = rs) (fun u t => mB D s.heap.size (wX12 cy a o S) (wX12 cy a o u) t) (va_A (wX12 cy a o S) s.heap.size)) ([.ref (a o)] : List Value).toArray s 0 0 (va_A (wX12 cy a o S) s.heap.size)) (F0 m 85 ls [])) (f : Nat) (v1_9 : Int32) (S3 : SX12) (H : Heap) (locs : List Loc) (ls : Array Slot), DX12_keep_L51 k4 f v1_9 S3 = some rs → va_P D vwCl (wX12 cy a o S3) H → va_D (va_A (wX12 cy a o S) s.heap.size) (wX12 cy a o S3) → va_S (va_A (wX12 cy a o S) s.heap.size) s.heap H locs → lv_has ls 2 [(0, .ref (a o)), (1, .int v1_9)] → W p l e (headSpec wsX12_keep ({ frames := 0, cells := 0, slots := 0, locals := 0 } : Room)).room s m ([.ref (a o)] : List Value).toArray below meth c H locs 0 0 (MQ below (va_Qv (fun (u : SX12) => u = rs) (fun u t => mB D s.heap.size (wX12 cy a o S) (wX12 cy a o u) t) (va_A (wX12 cy a o S) s.heap.size)) ([.ref (a o)] : List Value).toArray s 0 0 (va_A (wX12 cy a o S) s.heap.size)) (F0 m 51 ls []) := by
      intro k4 hk4 f
      induction f with
      | zero =>
        intro v1_9 S3 H locs ls h hP hD hS hl
        rw [DX12_keep_L51] at h
        cases h
      | succ f ih =>
        intro v1_9 S3 H locs ls h hP hD hS hl
        rw [DX12_keep_L51] at h
        refine lv_iload_n hx hb dX12_keep_51 rfl (lv_at hl 1 rfl) ?_
        refine lv_sipush (v := (714 : Int32)) hx hb dX12_keep_52 (by decide) ?_
        refine lv_icmp_ge (tgt := 85) hx hb dX12_keep_55 (by decide) (fun cc => ?_) (fun cc => ?_)
        · have h := ite_p cc h
          exact hk4 S3 H locs ls h hP hD hS (lv_sub hl [0] rfl)
        · have h := ite_n cc h
          refine lv_aload_n hx hb dX12_keep_58 rfl (lv_at hl 0 rfl) ?_
          refine va_get (D := D) (ci := 12) (v := .ref (a (o + 2))) (C := RX12) (T := TX12) (N := 12) hx hb hts hinX12 hown hK hP 0 rfl rfl 1 (by decide) hf13 (fun _ h9 => h9) rfl dX12_keep_59 ?_
          refine lv_sipush (v := (714 : Int32)) hx hb dX12_keep_62 (by decide) ?_
          refine lv_aload_n hx hb dX12_keep_65 rfl (lv_at hl 0 rfl) ?_
          refine va_get (D := D) (ci := 12) (v := .int (gX12_savedCount S3)) (C := RX12) (T := TX12) (N := 12) hx hb hts hinX12 hown hK hP 0 rfl rfl 2 (by decide) hf35 (fun _ h9 => h9) rfl dX12_keep_66 ?_
          refine lv_imul hx hb dX12_keep_69 ?_
          refine lv_iload_n hx hb dX12_keep_70 rfl (lv_at hl 1 rfl) ?_
          refine lv_iadd hx hb dX12_keep_71 ?_
          refine lv_aload_n hx hb dX12_keep_72 rfl (lv_at hl 0 rfl) ?_
          refine va_get (D := D) (ci := 12) (v := .ref (a (o + 1))) (C := RX12) (T := TX12) (N := 12) hx hb hts hinX12 hown hK hP 0 rfl rfl 0 (by decide) hf7 (fun _ h9 => h9) rfl dX12_keep_73 ?_
          refine lv_iload_n hx hb dX12_keep_76 rfl (lv_at hl 1 rfl) ?_
          obtain ⟨g10, h⟩ := gd_some h
          refine r_ald (f := (gX12_m S3)) (n := 714) (v := ((gX12_m S3) ((v1_9).toNatClampNeg))) hx hb hK hP 1 0 rfl rfl (gIn_in g10) rfl dX12_keep_77 ?_
          obtain ⟨g11, h⟩ := gd_some h
          refine r_ast (f := (gX12_saved S3)) (f' := (upd (gX12_saved S3) (((((714 : Int32) * (gX12_savedCount S3)) + v1_9)).toNatClampNeg) ((gX12_m S3) ((v1_9).toNatClampNeg)))) (n := 2856) (ws' := (wX12 cy a o (uX12_saved S3 (upd (gX12_saved S3) (((((714 : Int32) * (gX12_savedCount S3)) + v1_9)).toNatClampNeg) ((gX12_m S3) ((v1_9).toNatClampNeg)))))) hx hb hK hP hD hS 2 0 rfl rfl (gIn_in g11) rfl rfl dX12_keep_78 (fun H locs hP hD hS => ?_)
          obtain ⟨S12, eS13, h⟩ := lt_elim h
          have hP : va_P D vwCl (wX12 cy a o S12) H := by rw [eS13]; exact hP
          have hD : va_D (va_A (wX12 cy a o S) s.heap.size) (wX12 cy a o S12) := by rw [eS13]; exact hD
          refine lv_iinc (v := (v1_9 + (1 : Int32))) (lv' := [(1, .int (v1_9 + (1 : Int32))), (0, .ref (a o))]) hx hb dX12_keep_79 hl (k := 1) rfl (by rfl) (by decide) rfl (fun ls hl => ?_)
          refine lv_goto (tgt := 51) hx hb dX12_keep_82 (by decide) ?_
          exact ih (v1_9 + (1 : Int32)) S12 H locs ls h hP hD hS (lv_sub hl [1, 0] rfl)
    refine L14  _ ?_ fu (0 : Int32) S1 H locs ls h hP hD hS (lv_sub hl [1, 0] rfl)
    intro S6 H locs ls h hP hD hS hl
    refine lv_aload_n hx hb dX12_keep_85 rfl (lv_at hl 0 rfl) ?_
    refine lv_dup hx hb dX12_keep_86 rfl ?_
    refine va_get (D := D) (ci := 12) (v := .int (gX12_savedCount S6)) (C := RX12) (T := TX12) (N := 12) hx hb hts hinX12 hown hK hP 0 rfl rfl 2 (by decide) hf35 (fun _ h9 => h9) rfl dX12_keep_87 ?_
    refine lv_iconst (v := (1 : Int32)) hx hb dX12_keep_90 (by decide) ?_
    refine lv_iadd hx hb dX12_keep_91 ?_
    refine va_put (D := D) (ci := 12) (v := .int ((gX12_savedCount S6) + (1 : Int32))) (ty := .int) (C := RX12) (T := TX12) (N := 12) hx hb hts hinX12 tyX12 tyX12_ok nmX12 hown hK hP hD hS 0 rfl rfl 2 (by decide) hf35 (fun _ h9 => h9) rfl (by decide +kernel) rfl rfl (Nat.le_of_ble_eq_true rfl) dX12_keep_92 (fun H locs hP hD hS => ?_)
    have hP : va_P D vwCl (wX12 cy a o (uX12_savedCount S6 ((gX12_savedCount S6) + (1 : Int32)))) H := hP
    have hD : va_D (va_A (wX12 cy a o S) s.heap.size) (wX12 cy a o (uX12_savedCount S6 ((gX12_savedCount S6) + (1 : Int32)))) := hD
    obtain ⟨S7, eS8, h⟩ := lt_elim h
    have hP : va_P D vwCl (wX12 cy a o S7) H := by rw [eS8]; exact hP
    have hD : va_D (va_A (wX12 cy a o S) s.heap.size) (wX12 cy a o S7) := by rw [eS8]; exact hD
    exact W.vret hx hb hr (fun t ht hW => ⟨⟨S7, rfl, some_in h, by rw [ht]; exact hP, hD⟩, hS.F ht⟩) hS.2.2 dX12_keep_95
  refine lv_icmp_ne (tgt := 49) hx hb dX12_keep_5 (by decide) (fun cc => ?_) (fun cc => ?_)
  · have h := ite_n cc h
    exact Jj2 S s.heap [] ls h hP hD hS (lv_sub hl [0] rfl)
  · have h := ite_p cc h
    refine lv_iconst (v := (0 : Int32)) hx hb dX12_keep_8 (by decide) ?_
    refine lv_istore_n (lv' := [(1, .int (0 : Int32)), (0, .ref (a o))]) hx hb dX12_keep_9 rfl hl (by decide) rfl (fun ls hl => ?_)
    have L26 : ∀ (k16 : SX12 → Option (SX12)) (hk16 : ∀ (S17 : SX12) (H : Heap) (locs : List Loc) (ls : Array Slot), k16 S17 = some rs → va_P D vwCl (wX12 cy a o S17) H → va_D (va_A (wX12 cy a o S) s.heap.size) (wX12 cy a o S17) → va_S (va_A (wX12 cy a o S) s.heap.size) s.heap H locs → lv_has ls 2 [(0, .ref (a o))] → W p l e (headSpec wsX12_keep ({ frames := 0, cells := 0, slots := 0, locals := 0 } : Room)).room s m ([.ref (a o)] : List Value).toArray below meth c H locs 0 0 (MQ below (va_Qv (fun (u : SX12) => u = rs) (fun u t => mB D s.heap.size (wX12 cy a o S) (wX12 cy a o u) t) (va_A (wX12 cy a o S) s.heap.size)) ([.ref (a o)] : List Value).toArray s 0 0 (va_A (wX12 cy a o S) s.heap.size)) (F0 m 39 ls [])) (f : Nat) (v1_21 : Int32) (S15 : SX12) (H : Heap) (locs : List Loc) (ls : Array Slot), DX12_keep_L10 k16 f v1_21 S15 = some rs → va_P D vwCl (wX12 cy a o S15) H → va_D (va_A (wX12 cy a o S) s.heap.size) (wX12 cy a o S15) → va_S (va_A (wX12 cy a o S) s.heap.size) s.heap H locs → lv_has ls 2 [(0, .ref (a o)), (1, .int v1_21)] → W p l e (headSpec wsX12_keep ({ frames := 0, cells := 0, slots := 0, locals := 0 } : Room)).room s m ([.ref (a o)] : List Value).toArray below meth c H locs 0 0 (MQ below (va_Qv (fun (u : SX12) => u = rs) (fun u t => mB D s.heap.size (wX12 cy a o S) (wX12 cy a o u) t) (va_A (wX12 cy a o S) s.heap.size)) ([.ref (a o)] : List Value).toArray s 0 0 (va_A (wX12 cy a o S) s.heap.size)) (F0 m 10 ls []) := by
      intro k16 hk16 f
      induction f with
      | zero =>
        intro v1_21 S15 H locs ls h hP hD hS hl
        rw [DX12_keep_L10] at h
        cases h
      | succ f ih =>
        intro v1_21 S15 H locs ls h hP hD hS hl
        rw [DX12_keep_L10] at h
        refine lv_iload_n hx hb dX12_keep_10 rfl (lv_at hl 1 rfl) ?_
        refine lv_sipush (v := (2142 : Int32)) hx hb dX12_keep_11 (by decide) ?_
        refine lv_icmp_ge (tgt := 39) hx hb dX12_keep_14 (by decide) (fun cc => ?_) (fun cc => ?_)
        · have h := ite_p cc h
          exact hk16 S15 H locs ls h hP hD hS (lv_sub hl [0] rfl)
        · have h := ite_n cc h
          refine lv_aload_n hx hb dX12_keep_17 rfl (lv_at hl 0 rfl) ?_
          refine va_get (D := D) (ci := 12) (v := .ref (a (o + 2))) (C := RX12) (T := TX12) (N := 12) hx hb hts hinX12 hown hK hP 0 rfl rfl 1 (by decide) hf13 (fun _ h9 => h9) rfl dX12_keep_18 ?_
          refine lv_iload_n hx hb dX12_keep_21 rfl (lv_at hl 1 rfl) ?_
          refine lv_aload_n hx hb dX12_keep_22 rfl (lv_at hl 0 rfl) ?_
          refine va_get (D := D) (ci := 12) (v := .ref (a (o + 2))) (C := RX12) (T := TX12) (N := 12) hx hb hts hinX12 hown hK hP 0 rfl rfl 1 (by decide) hf13 (fun _ h9 => h9) rfl dX12_keep_23 ?_
          refine lv_iload_n hx hb dX12_keep_26 rfl (lv_at hl 1 rfl) ?_
          refine lv_sipush (v := (714 : Int32)) hx hb dX12_keep_27 (by decide) ?_
          refine lv_iadd hx hb dX12_keep_30 ?_
          obtain ⟨g22, h⟩ := gd_some h
          refine r_ald (f := (gX12_saved S15)) (n := 2856) (v := ((gX12_saved S15) (((v1_21 + (714 : Int32))).toNatClampNeg))) hx hb hK hP 2 0 rfl rfl (gIn_in g22) rfl dX12_keep_31 ?_
          obtain ⟨g23, h⟩ := gd_some h
          refine r_ast (f := (gX12_saved S15)) (f' := (upd (gX12_saved S15) ((v1_21).toNatClampNeg) ((gX12_saved S15) (((v1_21 + (714 : Int32))).toNatClampNeg)))) (n := 2856) (ws' := (wX12 cy a o (uX12_saved S15 (upd (gX12_saved S15) ((v1_21).toNatClampNeg) ((gX12_saved S15) (((v1_21 + (714 : Int32))).toNatClampNeg)))))) hx hb hK hP hD hS 2 0 rfl rfl (gIn_in g23) rfl rfl dX12_keep_32 (fun H locs hP hD hS => ?_)
          obtain ⟨S24, eS25, h⟩ := lt_elim h
          have hP : va_P D vwCl (wX12 cy a o S24) H := by rw [eS25]; exact hP
          have hD : va_D (va_A (wX12 cy a o S) s.heap.size) (wX12 cy a o S24) := by rw [eS25]; exact hD
          refine lv_iinc (v := (v1_21 + (1 : Int32))) (lv' := [(1, .int (v1_21 + (1 : Int32))), (0, .ref (a o))]) hx hb dX12_keep_33 hl (k := 1) rfl (by rfl) (by decide) rfl (fun ls hl => ?_)
          refine lv_goto (tgt := 10) hx hb dX12_keep_36 (by decide) ?_
          exact ih (v1_21 + (1 : Int32)) S24 H locs ls h hP hD hS (lv_sub hl [1, 0] rfl)
    refine L26  _ ?_ fu (0 : Int32) S s.heap [] ls h hP hD hS (lv_sub hl [1, 0] rfl)
    intro S18 H locs ls h hP hD hS hl
    refine lv_aload_n hx hb dX12_keep_39 rfl (lv_at hl 0 rfl) ?_
    refine lv_dup hx hb dX12_keep_40 rfl ?_
    refine va_get (D := D) (ci := 12) (v := .int (gX12_savedCount S18)) (C := RX12) (T := TX12) (N := 12) hx hb hts hinX12 hown hK hP 0 rfl rfl 2 (by decide) hf35 (fun _ h9 => h9) rfl dX12_keep_41 ?_
    refine lv_iconst (v := (1 : Int32)) hx hb dX12_keep_44 (by decide) ?_
    refine lv_isub hx hb dX12_keep_45 ?_
    refine va_put (D := D) (ci := 12) (v := .int ((gX12_savedCount S18) - (1 : Int32))) (ty := .int) (C := RX12) (T := TX12) (N := 12) hx hb hts hinX12 tyX12 tyX12_ok nmX12 hown hK hP hD hS 0 rfl rfl 2 (by decide) hf35 (fun _ h9 => h9) rfl (by decide +kernel) rfl rfl (Nat.le_of_ble_eq_true rfl) dX12_keep_46 (fun H locs hP hD hS => ?_)
    have hP : va_P D vwCl (wX12 cy a o (uX12_savedCount S18 ((gX12_savedCount S18) - (1 : Int32)))) H := hP
    have hD : va_D (va_A (wX12 cy a o S) s.heap.size) (wX12 cy a o (uX12_savedCount S18 ((gX12_savedCount S18) - (1 : Int32)))) := hD
    obtain ⟨S19, eS20, h⟩ := lt_elim h
    have hP : va_P D vwCl (wX12 cy a o S19) H := by rw [eS20]; exact hP
    have hD : va_D (va_A (wX12 cy a o S) s.heap.size) (wX12 cy a o S19) := by rw [eS20]; exact hD
    exact Jj2 S19 H locs ls h hP hD hS (lv_sub hl [0] rfl)
set_option maxHeartbeats 4000000 in
set_option maxRecDepth 100000 in
theorem qX12_put (l : Launch) (D : va_G) (cy : Nat → ClassId) (a : Nat → Nat) (o : Nat) (S : SX12) (p1 : Int32) (p2 : Int32) (sz : Nat) (rs : Int32 × SX12) (h : DX12_put S p1 p2 = some rs) : Met l yX12_put wsX12_put ({ frames := 1, cells := 0, slots := 0, locals := 21 } : Room) (mP D cy sz [.ref (a o), .int p1, .int p2] (wX12 cy a o S)) (va_Qi (fun r (u : SX12) => (r, u) = rs) (fun u t => mB D sz (wX12 cy a o S) (wX12 cy a o u) t) (va_A (wX12 cy a o S) sz)) 0 0 (va_A (wX12 cy a o S) sz) := by
  refine Met.ofW (cc := cX12_put) (maxL := 4) (ret := (some .int)) (by decide) rfl ?_
  intro p e s m args below meth c s₁ B hml hv
  obtain ⟨rfl, hsz, hP, hG, hD0⟩ := hv
  have hx := B.exec
  have hb := B.bytes
  have hr := B.returns
  have hts := atoms_spec (ws := wsX12_put) B.pre
  have hown : s.vm.findClass RX12 = some m.cls := findClass_of_methodNamed B.named
  have hlocks := B.notSynchronized
  have hK := hG.1
  subst hsz
  have hD := hD0.self (sz := s.heap.size)
  have hA : ∀ q : Nat, s.heap.size ≤ q → (va_A (wX12 cy a o S) s.heap.size) q := fun q h => Or.inr h
  have hS : va_S (va_A (wX12 cy a o S) s.heap.size) s.heap s.heap [] := va_S.rf
  have hinX12 := (by decide +kernel : ∀ w ∈ wsX120, w ∈ wsX12_put)
  have hf7 := hts (.fieldLink RX12 7 "PianoRoundsModel" "m" "[I") (by decide +kernel)
  have hl := lv_entry ([.ref (a o), .int p1, .int p2]) (n := 4) (Nat.le_of_ble_eq_true rfl)
  rw [lg_entry_eq]
  generalize (lg_sl ([.ref (a o), .int p1, .int p2]) ++ List.replicate (4 - (lg_sl ([.ref (a o), .int p1, .int p2])).length) Slot.unset).toArray = ls at hl ⊢
  have hl : lv_has ls 4 [(0, .ref (a o)), (1, .int p1), (2, .int p2)] := hl
  rw [DX12_put] at h
  refine lv_aload_n hx hb dX12_put_0 rfl (lv_at hl 0 rfl) ?_
  obtain ⟨x1, e2, h⟩ := bd_some h
  refine smVv (As := []) (rest := []) (ws' := (wX12 cy a o x1)) (q0 := 0) (qX12_keep l D cy a o S  (s.heap).size x1 e2) ⟨hx, hb, hml, hown, hts⟩ (cwV 0 hts gX12_put_X12_keep rfl rfl rfl (by decide +kernel) ⟨Nat.le_of_ble_eq_true rfl, Nat.le_of_ble_eq_true rfl⟩) hG hP hD hS hA (pm1 (X := ([] : va_W)) (c := (wX12 cy a o S)) (Y := ([] : va_W)) (show (wX12 cy a o S) = ([] : va_W) ++ ((wX12 cy a o S) ++ ([] : va_W)) from by simp only [List.append_assoc, List.nil_append, List.append_nil] <;> rfl)) (pm1 (X := ([] : va_W)) (c := (wX12 cy a o x1)) (Y := ([] : va_W)) (show (wX12 cy a o x1) = ([] : va_W) ++ ((wX12 cy a o x1) ++ ([] : va_W)) from by simp only [List.append_assoc, List.nil_append, List.append_nil] <;> rfl)) rfl rfl rfl hl.1 rfl (Nat.le_of_ble_eq_true rfl) dX12_put_1 ⟨Nat.zero_le _, Nat.zero_le _⟩ (fun H locs hP hD hS => ?_)
  refine lv_aload_n hx hb dX12_put_4 rfl (lv_at hl 0 rfl) ?_
  refine va_get (D := D) (ci := 12) (v := .ref (a (o + 1))) (C := RX12) (T := TX12) (N := 12) hx hb hts hinX12 hown hK hP 0 rfl rfl 0 (by decide) hf7 (fun _ h9 => h9) rfl dX12_put_5 ?_
  refine lv_iload_n hx hb dX12_put_8 rfl (lv_at hl 1 rfl) ?_
  obtain ⟨g3, h⟩ := gd_some h
  refine r_ald (f := (gX12_m x1)) (n := 714) (v := ((gX12_m x1) ((p1).toNatClampNeg))) hx hb hK hP 1 0 rfl rfl (gIn_in g3) rfl dX12_put_9 ?_
  refine lv_istore_n (lv' := [(3, .int ((gX12_m x1) ((p1).toNatClampNeg))), (0, .ref (a o)), (1, .int p1), (2, .int p2)]) hx hb dX12_put_10 rfl hl (by decide) rfl (fun ls hl => ?_)
  refine lv_aload_n hx hb dX12_put_11 rfl (lv_at hl 1 rfl) ?_
  refine va_get (D := D) (ci := 12) (v := .ref (a (o + 1))) (C := RX12) (T := TX12) (N := 12) hx hb hts hinX12 hown hK hP 0 rfl rfl 0 (by decide) hf7 (fun _ h9 => h9) rfl dX12_put_12 ?_
  refine lv_iload_n hx hb dX12_put_15 rfl (lv_at hl 2 rfl) ?_
  refine lv_iload_n hx hb dX12_put_16 rfl (lv_at hl 3 rfl) ?_
  obtain ⟨g4, h⟩ := gd_some h
  refine r_ast (f := (gX12_m x1)) (f' := (upd (gX12_m x1) ((p1).toNatClampNeg) p2)) (n := 714) (ws' := (wX12 cy a o (uX12_m x1 (upd (gX12_m x1) ((p1).toNatClampNeg) p2)))) hx hb hK hP hD hS 1 0 rfl rfl (gIn_in g4) rfl rfl dX12_put_17 (fun H locs hP hD hS => ?_)
  obtain ⟨S5, eS6, h⟩ := lt_elim h
  have hP : va_P D vwCl (wX12 cy a o S5) H := by rw [eS6]; exact hP
  have hD : va_D (va_A (wX12 cy a o S) s.heap.size) (wX12 cy a o S5) := by rw [eS6]; exact hD
  refine lv_iload_n hx hb dX12_put_18 rfl (lv_at hl 0 rfl) ?_
  exact W.iret (v := ((gX12_m x1) ((p1).toNatClampNeg))) hx hb hr (fun t ht hW => ⟨⟨((gX12_m x1) ((p1).toNatClampNeg)), S5, rfl, some_in h, by rw [ht]; exact hP, hD⟩, hS.F ht⟩) hS.2.2 dX12_put_19
set_option maxHeartbeats 4000000 in
set_option maxRecDepth 100000 in
theorem qX12_isEntrant (l : Launch) (D : va_G) (cy : Nat → ClassId) (a : Nat → Nat) (o : Nat) (S : SX12) (p1 : Int32) (rs : Int32) (h : DX12_isEntrant S p1 = some rs) : Met l yX12_isEntrant wsX12_isEntrant ({ frames := 1, cells := 0, slots := 0, locals := 22 } : Room) (va_Pc [.ref (a o), .int p1] (fun U => va_P D vwCl (wX12 cy a o S) U.heap ∧ gK D cy U)) (vp_Si (fun z => z = rs)) 0 0 (fun _ => False) := by
  refine Met.ofW (cc := cX12_isEntrant) (maxL := 2) (ret := (some .boolean)) (by decide) rfl ?_
  intro p e s m args below meth c s₁ B hml hv
  obtain ⟨rfl, hP, hG⟩ := hv
  have hx := B.exec
  have hb := B.bytes
  have hr := B.returns
  have hts := atoms_spec (ws := wsX12_isEntrant) B.pre
  have hown : s.vm.findClass RX12 = some m.cls := findClass_of_methodNamed B.named
  have hlocks := B.notSynchronized
  have hK := hG.1
  have hinX12 := (by decide +kernel : ∀ w ∈ wsX120, w ∈ wsX12_isEntrant)
  have hf7 := hts (.fieldLink RX12 7 "PianoRoundsModel" "m" "[I") (by decide +kernel)
  have hl := lv_entry ([.ref (a o), .int p1]) (n := 2) (Nat.le_of_ble_eq_true rfl)
  rw [lg_entry_eq]
  generalize (lg_sl ([.ref (a o), .int p1]) ++ List.replicate (2 - (lg_sl ([.ref (a o), .int p1])).length) Slot.unset).toArray = ls at hl ⊢
  have hl : lv_has ls 2 [(0, .ref (a o)), (1, .int p1)] := hl
  rw [DX12_isEntrant] at h
  refine lv_iload_n hx hb dX12_isEntrant_0 rfl (lv_at hl 1 rfl) ?_
  refine lv_iconst (v := (0 : Int32)) hx hb dX12_isEntrant_1 (by decide) ?_
  refine lv_aload_n hx hb dX12_isEntrant_2 rfl (lv_at hl 0 rfl) ?_
  refine va_get (D := D) (ci := 12) (v := .ref (a (o + 1))) (C := RX12) (T := TX12) (N := 12) hx hb hts hinX12 hown hK hP 0 rfl rfl 0 (by decide) hf7 (fun _ h9 => h9) rfl dX12_isEntrant_3 ?_
  refine lv_bipush (v := (6 : Int32)) hx hb dX12_isEntrant_6 (by decide) ?_
  refine r_ald (f := (gX12_m S)) (n := 714) (v := ((gX12_m S) 6)) hx hb hK hP 1 0 rfl rfl (vp_in_nI (n := 6) (N := 714) (by decide) (by decide)) (congrArg (gX12_m S) (nI_clamp (n := 6) (by decide))) dX12_isEntrant_8 ?_
  refine lv_iconst (v := (1 : Int32)) hx hb dX12_isEntrant_9 (by decide) ?_
  refine lv_isub hx hb dX12_isEntrant_10 ?_
  obtain ⟨x1, e2, h⟩ := bd_some h
  refine pcS (As := [.int p1, .int (0 : Int32), .int (((gX12_m S) 6) - (1 : Int32))]) (rest := []) (qX12_in l D cy  p1 (0 : Int32) (((gX12_m S) 6) - (1 : Int32)) x1 e2) ⟨hx, hb, hml, hown, hts⟩ (va_cwS 3 hts gX12_isEntrant_X12_in rfl rfl rfl (by decide +kernel) ⟨Nat.le_of_ble_eq_true rfl, Nat.le_of_ble_eq_true rfl⟩) hG (hP.sub [] rfl) rfl hl.1 rfl (Nat.le_of_ble_eq_true rfl) dX12_isEntrant_11 ⟨Nat.zero_le _, Nat.zero_le _⟩ ?_
  obtain ⟨g3, h⟩ := gd_some h
  exact W.zret (v := x1) hx hb hr (zN g3) (fun t ht hW => ⟨x1, rfl, some_in h, ht⟩) (fun q hq => nomatch hq) dX12_isEntrant_14
set_option maxHeartbeats 4000000 in
set_option maxRecDepth 100000 in
theorem qX12_isJuror (l : Launch) (D : va_G) (cy : Nat → ClassId) (a : Nat → Nat) (o : Nat) (S : SX12) (p1 : Int32) (rs : Int32) (h : DX12_isJuror S p1 = some rs) : Met l yX12_isJuror wsX12_isJuror ({ frames := 1, cells := 0, slots := 0, locals := 22 } : Room) (va_Pc [.ref (a o), .int p1] (fun U => va_P D vwCl (wX12 cy a o S) U.heap ∧ gK D cy U)) (vp_Si (fun z => z = rs)) 0 0 (fun _ => False) := by
  refine Met.ofW (cc := cX12_isJuror) (maxL := 2) (ret := (some .boolean)) (by decide) rfl ?_
  intro p e s m args below meth c s₁ B hml hv
  obtain ⟨rfl, hP, hG⟩ := hv
  have hx := B.exec
  have hb := B.bytes
  have hr := B.returns
  have hts := atoms_spec (ws := wsX12_isJuror) B.pre
  have hown : s.vm.findClass RX12 = some m.cls := findClass_of_methodNamed B.named
  have hlocks := B.notSynchronized
  have hK := hG.1
  have hinX12 := (by decide +kernel : ∀ w ∈ wsX120, w ∈ wsX12_isJuror)
  have hf7 := hts (.fieldLink RX12 7 "PianoRoundsModel" "m" "[I") (by decide +kernel)
  have hl := lv_entry ([.ref (a o), .int p1]) (n := 2) (Nat.le_of_ble_eq_true rfl)
  rw [lg_entry_eq]
  generalize (lg_sl ([.ref (a o), .int p1]) ++ List.replicate (2 - (lg_sl ([.ref (a o), .int p1])).length) Slot.unset).toArray = ls at hl ⊢
  have hl : lv_has ls 2 [(0, .ref (a o)), (1, .int p1)] := hl
  rw [DX12_isJuror] at h
  refine lv_iload_n hx hb dX12_isJuror_0 rfl (lv_at hl 1 rfl) ?_
  refine lv_iconst (v := (0 : Int32)) hx hb dX12_isJuror_1 (by decide) ?_
  refine lv_aload_n hx hb dX12_isJuror_2 rfl (lv_at hl 0 rfl) ?_
  refine va_get (D := D) (ci := 12) (v := .ref (a (o + 1))) (C := RX12) (T := TX12) (N := 12) hx hb hts hinX12 hown hK hP 0 rfl rfl 0 (by decide) hf7 (fun _ h9 => h9) rfl dX12_isJuror_3 ?_
  refine lv_iconst (v := (0 : Int32)) hx hb dX12_isJuror_6 (by decide) ?_
  refine r_ald (f := (gX12_m S)) (n := 714) (v := ((gX12_m S) 0)) hx hb hK hP 1 0 rfl rfl (vp_in_nI (n := 0) (N := 714) (by decide) (by decide)) (congrArg (gX12_m S) (nI_clamp (n := 0) (by decide))) dX12_isJuror_7 ?_
  refine lv_iconst (v := (1 : Int32)) hx hb dX12_isJuror_8 (by decide) ?_
  refine lv_isub hx hb dX12_isJuror_9 ?_
  obtain ⟨x1, e2, h⟩ := bd_some h
  refine pcS (As := [.int p1, .int (0 : Int32), .int (((gX12_m S) 0) - (1 : Int32))]) (rest := []) (qX12_in l D cy  p1 (0 : Int32) (((gX12_m S) 0) - (1 : Int32)) x1 e2) ⟨hx, hb, hml, hown, hts⟩ (va_cwS 3 hts gX12_isJuror_X12_in rfl rfl rfl (by decide +kernel) ⟨Nat.le_of_ble_eq_true rfl, Nat.le_of_ble_eq_true rfl⟩) hG (hP.sub [] rfl) rfl hl.1 rfl (Nat.le_of_ble_eq_true rfl) dX12_isJuror_10 ⟨Nat.zero_le _, Nat.zero_le _⟩ ?_
  obtain ⟨g3, h⟩ := gd_some h
  exact W.zret (v := x1) hx hb hr (zN g3) (fun t ht hW => ⟨x1, rfl, some_in h, ht⟩) (fun q hq => nomatch hq) dX12_isJuror_13
set_option maxHeartbeats 4000000 in
set_option maxRecDepth 100000 in
theorem qX12_isRound (l : Launch) (D : va_G) (cy : Nat → ClassId)   (p0 : Int32) (rs : Int32) (h : DX12_isRound p0 = some rs) : Met l yX12_isRound wsX12_isRound ({ frames := 1, cells := 0, slots := 0, locals := 22 } : Room) (va_Pc [.int p0] (fun U => va_P D vwCl ([] : va_W) U.heap ∧ gK D cy U)) (vp_Si (fun z => z = rs)) 0 0 (fun _ => False) := by
  refine Met.ofW (cc := cX12_isRound) (maxL := 1) (ret := (some .boolean)) (by decide) rfl ?_
  intro p e s m args below meth c s₁ B hml hv
  obtain ⟨rfl, hP, hG⟩ := hv
  have hx := B.exec
  have hb := B.bytes
  have hr := B.returns
  have hts := atoms_spec (ws := wsX12_isRound) B.pre
  have hown : s.vm.findClass RX12 = some m.cls := findClass_of_methodNamed B.named
  have hlocks := B.notSynchronized
  have hK := hG.1
  have hl := lv_entry ([.int p0]) (n := 1) (Nat.le_of_ble_eq_true rfl)
  rw [lg_entry_eq]
  generalize (lg_sl ([.int p0]) ++ List.replicate (1 - (lg_sl ([.int p0])).length) Slot.unset).toArray = ls at hl ⊢
  have hl : lv_has ls 1 [(0, .int p0)] := hl
  rw [DX12_isRound] at h
  refine lv_iload_n hx hb dX12_isRound_0 rfl (lv_at hl 0 rfl) ?_
  refine lv_iconst (v := (0 : Int32)) hx hb dX12_isRound_1 (by decide) ?_
  refine lv_iconst (v := (3 : Int32)) hx hb dX12_isRound_2 (by decide) ?_
  obtain ⟨x1, e2, h⟩ := bd_some h
  refine pcS (As := [.int p0, .int (0 : Int32), .int (3 : Int32)]) (rest := []) (qX12_in l D cy  p0 (0 : Int32) (3 : Int32) x1 e2) ⟨hx, hb, hml, hown, hts⟩ (va_cwS 3 hts gX12_isRound_X12_in rfl rfl rfl (by decide +kernel) ⟨Nat.le_of_ble_eq_true rfl, Nat.le_of_ble_eq_true rfl⟩) hG (hP.sub [] rfl) rfl hl.1 rfl (Nat.le_of_ble_eq_true rfl) dX12_isRound_3 ⟨Nat.zero_le _, Nat.zero_le _⟩ ?_
  obtain ⟨g3, h⟩ := gd_some h
  exact W.zret (v := x1) hx hb hr (zN g3) (fun t ht hW => ⟨x1, rfl, some_in h, ht⟩) (fun q hq => nomatch hq) dX12_isRound_6
set_option maxHeartbeats 4000000 in
set_option maxRecDepth 100000 in
theorem qX12_addWork (l : Launch) (D : va_G) (cy : Nat → ClassId) (a : Nat → Nat) (o : Nat) (S : SX12) (p1 : Int32) (p2 : Int32) (p3 : Int32) (sz : Nat) (rs : Int32 × SX12) (h : DX12_addWork S p1 p2 p3 = some rs) : Met l yX12_addWork wsX12_addWork ({ frames := 1, cells := 0, slots := 0, locals := 22 } : Room) (mP D cy sz [.ref (a o), .int p1, .int p2, .int p3] (wX12 cy a o S)) (va_Qi (fun r (u : SX12) => (r, u) = rs) (fun u t => mB D sz (wX12 cy a o S) (wX12 cy a o u) t) (va_A (wX12 cy a o S) sz)) 0 0 (va_A (wX12 cy a o S) sz) := by
  refine Met.ofW (cc := cX12_addWork) (maxL := 5) (ret := (some .int)) (by decide) rfl ?_
  intro p e s m args below meth c s₁ B hml hv
  obtain ⟨rfl, hsz, hP, hG, hD0⟩ := hv
  have hx := B.exec
  have hb := B.bytes
  have hr := B.returns
  have hts := atoms_spec (ws := wsX12_addWork) B.pre
  have hown : s.vm.findClass RX12 = some m.cls := findClass_of_methodNamed B.named
  have hlocks := B.notSynchronized
  have hK := hG.1
  subst hsz
  have hD := hD0.self (sz := s.heap.size)
  have hA : ∀ q : Nat, s.heap.size ≤ q → (va_A (wX12 cy a o S) s.heap.size) q := fun q h => Or.inr h
  have hS : va_S (va_A (wX12 cy a o S) s.heap.size) s.heap s.heap [] := va_S.rf
  have hinX12 := (by decide +kernel : ∀ w ∈ wsX120, w ∈ wsX12_addWork)
  have hf31 := hts (.fieldLink RX12 31 "PianoRoundsModel" "code" "I") (by decide +kernel)
  have hf7 := hts (.fieldLink RX12 7 "PianoRoundsModel" "m" "[I") (by decide +kernel)
  have hl := lv_entry ([.ref (a o), .int p1, .int p2, .int p3]) (n := 5) (Nat.le_of_ble_eq_true rfl)
  rw [lg_entry_eq]
  generalize (lg_sl ([.ref (a o), .int p1, .int p2, .int p3]) ++ List.replicate (5 - (lg_sl ([.ref (a o), .int p1, .int p2, .int p3])).length) Slot.unset).toArray = ls at hl ⊢
  have hl : lv_has ls 5 [(0, .ref (a o)), (1, .int p1), (2, .int p2), (3, .int p3)] := hl
  rw [DX12_addWork] at h
  refine lv_aload_n hx hb dX12_addWork_0 rfl (lv_at hl 0 rfl) ?_
  refine lv_iload_n hx hb dX12_addWork_1 rfl (lv_at hl 1 rfl) ?_
  refine lv_iconst (v := (0 : Int32)) hx hb dX12_addWork_2 (by decide) ?_
  refine lv_bipush (v := (9 : Int32)) hx hb dX12_addWork_3 (by decide) ?_
  obtain ⟨x1, e2, h⟩ := bd_some h
  refine pcS (As := [.int p1, .int (0 : Int32), .int (9 : Int32)]) (rest := [.ref (a o)]) (qX12_in l D cy  p1 (0 : Int32) (9 : Int32) x1 e2) ⟨hx, hb, hml, hown, hts⟩ (va_cwS 3 hts gX12_addWork_X12_in rfl rfl rfl (by decide +kernel) ⟨Nat.le_of_ble_eq_true rfl, Nat.le_of_ble_eq_true rfl⟩) hG (hP.sub [] rfl) rfl hl.1 rfl (Nat.le_of_ble_eq_true rfl) dX12_addWork_5 ⟨Nat.zero_le _, Nat.zero_le _⟩ ?_
  obtain ⟨j4, hj4, h⟩ := jn_elim h
  have Jj4 : ∀ (x3 : Int32) (ls : Array Slot), j4 x3 = some rs → lv_has ls 5 [(0, .ref (a o)), (1, .int p1), (2, .int p2), (3, .int p3)] → W p l e (headSpec wsX12_addWork ({ frames := 1, cells := 0, slots := 0, locals := 22 } : Room)).room s m ([.ref (a o), .int p1, .int p2, .int p3] : List Value).toArray below meth c s.heap [] 0 0 (MQ below (va_Qi (fun r (u : SX12) => (r, u) = rs) (fun u t => mB D s.heap.size (wX12 cy a o S) (wX12 cy a o u) t) (va_A (wX12 cy a o S) s.heap.size)) ([.ref (a o), .int p1, .int p2, .int p3] : List Value).toArray s 0 0 (va_A (wX12 cy a o S) s.heap.size)) (F0 m 59 ls [.int x3, .ref (a o)]) := by
    intro x3 ls h hl
    rw [hj4] at h
    refine va_put (D := D) (ci := 12) (v := .int x3) (ty := .int) (C := RX12) (T := TX12) (N := 12) hx hb hts hinX12 tyX12 tyX12_ok nmX12 hown hK hP hD hS 0 rfl rfl 5 (by decide) hf31 (fun _ h9 => h9) rfl (by decide +kernel) rfl rfl (Nat.le_of_ble_eq_true rfl) dX12_addWork_59 (fun H locs hP hD hS => ?_)
    have hP : va_P D vwCl (wX12 cy a o (uX12_code S x3)) H := hP
    have hD : va_D (va_A (wX12 cy a o S) s.heap.size) (wX12 cy a o (uX12_code S x3)) := hD
    obtain ⟨S5, eS6, h⟩ := lt_elim h
    have hP : va_P D vwCl (wX12 cy a o S5) H := by rw [eS6]; exact hP
    have hD : va_D (va_A (wX12 cy a o S) s.heap.size) (wX12 cy a o S5) := by rw [eS6]; exact hD
    refine lv_aload_n hx hb dX12_addWork_62 rfl (lv_at hl 0 rfl) ?_
    refine va_get (D := D) (ci := 12) (v := .int (gX12_code S5)) (C := RX12) (T := TX12) (N := 12) hx hb hts hinX12 hown hK hP 0 rfl rfl 5 (by decide) hf31 (fun _ h9 => h9) rfl dX12_addWork_63 ?_
    refine lv_if_eq (tgt := 71) hx hb dX12_addWork_66 (by decide) (fun cc => ?_) (fun cc => ?_)
    · have h := ite_p cc h
      refine lv_aload_n hx hb dX12_addWork_71 rfl (lv_at hl 0 rfl) ?_
      obtain ⟨x7, e8, h⟩ := bd_some h
      refine smVv (As := []) (rest := []) (ws' := (wX12 cy a o x7)) (q0 := 0) (qX12_keep l D cy a o S5  (H).size x7 e8) ⟨hx, hb, hml, hown, hts⟩ (cwV 0 hts gX12_addWork_X12_keep rfl rfl rfl (by decide +kernel) ⟨Nat.le_of_ble_eq_true rfl, Nat.le_of_ble_eq_true rfl⟩) hG hP hD hS hA (pm1 (X := ([] : va_W)) (c := (wX12 cy a o S5)) (Y := ([] : va_W)) (show (wX12 cy a o S5) = ([] : va_W) ++ ((wX12 cy a o S5) ++ ([] : va_W)) from by simp only [List.append_assoc, List.nil_append, List.append_nil] <;> rfl)) (pm1 (X := ([] : va_W)) (c := (wX12 cy a o x7)) (Y := ([] : va_W)) (show (wX12 cy a o x7) = ([] : va_W) ++ ((wX12 cy a o x7) ++ ([] : va_W)) from by simp only [List.append_assoc, List.nil_append, List.append_nil] <;> rfl)) rfl rfl rfl hl.1 rfl (Nat.le_of_ble_eq_true rfl) dX12_addWork_72 ⟨Nat.zero_le _, Nat.zero_le _⟩ (fun H locs hP hD hS => ?_)
      refine lv_bipush (v := (12 : Int32)) hx hb dX12_addWork_75 (by decide) ?_
      refine lv_iconst (v := (3 : Int32)) hx hb dX12_addWork_77 (by decide) ?_
      refine lv_aload_n hx hb dX12_addWork_78 rfl (lv_at hl 0 rfl) ?_
      refine va_get (D := D) (ci := 12) (v := .ref (a (o + 1))) (C := RX12) (T := TX12) (N := 12) hx hb hts hinX12 hown hK hP 0 rfl rfl 0 (by decide) hf7 (fun _ h9 => h9) rfl dX12_addWork_79 ?_
      refine lv_iconst (v := (5 : Int32)) hx hb dX12_addWork_82 (by decide) ?_
      refine r_ald (f := (gX12_m x7)) (n := 714) (v := ((gX12_m x7) 5)) hx hb hK hP 1 0 rfl rfl (vp_in_nI (n := 5) (N := 714) (by decide) (by decide)) (congrArg (gX12_m x7) (nI_clamp (n := 5) (by decide))) dX12_addWork_83 ?_
      refine lv_imul hx hb dX12_addWork_84 ?_
      refine lv_iadd hx hb dX12_addWork_85 ?_
      refine lv_istore (lv' := [(4, .int ((12 : Int32) + ((3 : Int32) * ((gX12_m x7) 5)))), (0, .ref (a o)), (1, .int p1), (2, .int p2), (3, .int p3)]) hx hb dX12_addWork_86 hl (by decide) rfl (fun ls hl => ?_)
      refine lv_aload_n hx hb dX12_addWork_88 rfl (lv_at hl 1 rfl) ?_
      refine va_get (D := D) (ci := 12) (v := .ref (a (o + 1))) (C := RX12) (T := TX12) (N := 12) hx hb hts hinX12 hown hK hP 0 rfl rfl 0 (by decide) hf7 (fun _ h9 => h9) rfl dX12_addWork_89 ?_
      refine lv_iload hx hb dX12_addWork_92 (lv_at hl 0 rfl) ?_
      refine lv_iload_n hx hb dX12_addWork_94 rfl (lv_at hl 2 rfl) ?_
      obtain ⟨g9, h⟩ := gd_some h
      refine r_ast (f := (gX12_m x7)) (f' := (upd (gX12_m x7) ((((12 : Int32) + ((3 : Int32) * ((gX12_m x7) 5)))).toNatClampNeg) p1)) (n := 714) (ws' := (wX12 cy a o (uX12_m x7 (upd (gX12_m x7) ((((12 : Int32) + ((3 : Int32) * ((gX12_m x7) 5)))).toNatClampNeg) p1)))) hx hb hK hP hD hS 1 0 rfl rfl (gIn_in g9) rfl rfl dX12_addWork_95 (fun H locs hP hD hS => ?_)
      obtain ⟨S10, eS11, h⟩ := lt_elim h
      have hP : va_P D vwCl (wX12 cy a o S10) H := by rw [eS11]; exact hP
      have hD : va_D (va_A (wX12 cy a o S) s.heap.size) (wX12 cy a o S10) := by rw [eS11]; exact hD
      refine lv_aload_n hx hb dX12_addWork_96 rfl (lv_at hl 1 rfl) ?_
      refine va_get (D := D) (ci := 12) (v := .ref (a (o + 1))) (C := RX12) (T := TX12) (N := 12) hx hb hts hinX12 hown hK hP 0 rfl rfl 0 (by decide) hf7 (fun _ h9 => h9) rfl dX12_addWork_97 ?_
      refine lv_iload hx hb dX12_addWork_100 (lv_at hl 0 rfl) ?_
      refine lv_iconst (v := (1 : Int32)) hx hb dX12_addWork_102 (by decide) ?_
      refine lv_iadd hx hb dX12_addWork_103 ?_
      refine lv_iload_n hx hb dX12_addWork_104 rfl (lv_at hl 3 rfl) ?_
      obtain ⟨g12, h⟩ := gd_some h
      refine r_ast (f := (gX12_m S10)) (f' := (upd (gX12_m S10) (((((12 : Int32) + ((3 : Int32) * ((gX12_m x7) 5))) + (1 : Int32))).toNatClampNeg) p2)) (n := 714) (ws' := (wX12 cy a o (uX12_m S10 (upd (gX12_m S10) (((((12 : Int32) + ((3 : Int32) * ((gX12_m x7) 5))) + (1 : Int32))).toNatClampNeg) p2)))) hx hb hK hP hD hS 1 0 rfl rfl (gIn_in g12) rfl rfl dX12_addWork_105 (fun H locs hP hD hS => ?_)
      obtain ⟨S13, eS14, h⟩ := lt_elim h
      have hP : va_P D vwCl (wX12 cy a o S13) H := by rw [eS14]; exact hP
      have hD : va_D (va_A (wX12 cy a o S) s.heap.size) (wX12 cy a o S13) := by rw [eS14]; exact hD
      refine lv_aload_n hx hb dX12_addWork_106 rfl (lv_at hl 1 rfl) ?_
      refine va_get (D := D) (ci := 12) (v := .ref (a (o + 1))) (C := RX12) (T := TX12) (N := 12) hx hb hts hinX12 hown hK hP 0 rfl rfl 0 (by decide) hf7 (fun _ h9 => h9) rfl dX12_addWork_107 ?_
      refine lv_iload hx hb dX12_addWork_110 (lv_at hl 0 rfl) ?_
      refine lv_iconst (v := (2 : Int32)) hx hb dX12_addWork_112 (by decide) ?_
      refine lv_iadd hx hb dX12_addWork_113 ?_
      refine lv_iload_n hx hb dX12_addWork_114 rfl (lv_at hl 4 rfl) ?_
      obtain ⟨g15, h⟩ := gd_some h
      refine r_ast (f := (gX12_m S13)) (f' := (upd (gX12_m S13) (((((12 : Int32) + ((3 : Int32) * ((gX12_m x7) 5))) + (2 : Int32))).toNatClampNeg) p3)) (n := 714) (ws' := (wX12 cy a o (uX12_m S13 (upd (gX12_m S13) (((((12 : Int32) + ((3 : Int32) * ((gX12_m x7) 5))) + (2 : Int32))).toNatClampNeg) p3)))) hx hb hK hP hD hS 1 0 rfl rfl (gIn_in g15) rfl rfl dX12_addWork_115 (fun H locs hP hD hS => ?_)
      obtain ⟨S16, eS17, h⟩ := lt_elim h
      have hP : va_P D vwCl (wX12 cy a o S16) H := by rw [eS17]; exact hP
      have hD : va_D (va_A (wX12 cy a o S) s.heap.size) (wX12 cy a o S16) := by rw [eS17]; exact hD
      refine lv_aload_n hx hb dX12_addWork_116 rfl (lv_at hl 1 rfl) ?_
      refine va_get (D := D) (ci := 12) (v := .ref (a (o + 1))) (C := RX12) (T := TX12) (N := 12) hx hb hts hinX12 hown hK hP 0 rfl rfl 0 (by decide) hf7 (fun _ h9 => h9) rfl dX12_addWork_117 ?_
      refine lv_iconst (v := (5 : Int32)) hx hb dX12_addWork_120 (by decide) ?_
      refine lv_dup2_11 hx hb dX12_addWork_121 rfl rfl ?_
      refine r_ald (f := (gX12_m S16)) (n := 714) (v := ((gX12_m S16) 5)) hx hb hK hP 1 0 rfl rfl (vp_in_nI (n := 5) (N := 714) (by decide) (by decide)) (congrArg (gX12_m S16) (nI_clamp (n := 5) (by decide))) dX12_addWork_122 ?_
      refine lv_iconst (v := (1 : Int32)) hx hb dX12_addWork_123 (by decide) ?_
      refine lv_iadd hx hb dX12_addWork_124 ?_
      refine r_ast (f := (gX12_m S16)) (f' := (upd (gX12_m S16) 5 (((gX12_m S16) 5) + (1 : Int32)))) (n := 714) (ws' := (wX12 cy a o (uX12_m S16 (upd (gX12_m S16) 5 (((gX12_m S16) 5) + (1 : Int32)))))) hx hb hK hP hD hS 1 0 rfl rfl (vp_in_nI (n := 5) (N := 714) (by decide) (by decide)) (updc (nI_clamp (n := 5) (by decide))) rfl dX12_addWork_125 (fun H locs hP hD hS => ?_)
      obtain ⟨S18, eS19, h⟩ := lt_elim h
      have hP : va_P D vwCl (wX12 cy a o S18) H := by rw [eS19]; exact hP
      have hD : va_D (va_A (wX12 cy a o S) s.heap.size) (wX12 cy a o S18) := by rw [eS19]; exact hD
      refine lv_aload_n hx hb dX12_addWork_126 rfl (lv_at hl 1 rfl) ?_
      refine va_get (D := D) (ci := 12) (v := .ref (a (o + 1))) (C := RX12) (T := TX12) (N := 12) hx hb hts hinX12 hown hK hP 0 rfl rfl 0 (by decide) hf7 (fun _ h9 => h9) rfl dX12_addWork_127 ?_
      refine lv_iconst (v := (5 : Int32)) hx hb dX12_addWork_130 (by decide) ?_
      refine r_ald (f := (gX12_m S18)) (n := 714) (v := ((gX12_m S18) 5)) hx hb hK hP 1 0 rfl rfl (vp_in_nI (n := 5) (N := 714) (by decide) (by decide)) (congrArg (gX12_m S18) (nI_clamp (n := 5) (by decide))) dX12_addWork_131 ?_
      refine lv_iconst (v := (1 : Int32)) hx hb dX12_addWork_132 (by decide) ?_
      refine lv_isub hx hb dX12_addWork_133 ?_
      exact W.iret (v := (((gX12_m S18) 5) - (1 : Int32))) hx hb hr (fun t ht hW => ⟨⟨(((gX12_m S18) 5) - (1 : Int32)), S18, rfl, some_in h, by rw [ht]; exact hP, hD⟩, hS.F ht⟩) hS.2.2 dX12_addWork_134
    · have h := ite_n cc h
      refine lv_iconst (v := (0 : Int32)) hx hb dX12_addWork_69 (by decide) ?_
      exact W.iret (v := (0 : Int32)) hx hb hr (fun t ht hW => ⟨⟨(0 : Int32), S5, rfl, some_in h, by rw [ht]; exact hP, hD⟩, hS.F ht⟩) hS.2.2 dX12_addWork_70
  obtain ⟨j20, hj20, h⟩ := jn_elim h
  have Jj20 : ∀ (ls : Array Slot), j20 () = some rs → lv_has ls 5 [(0, .ref (a o)), (1, .int p1), (2, .int p2), (3, .int p3)] → W p l e (headSpec wsX12_addWork ({ frames := 1, cells := 0, slots := 0, locals := 22 } : Room)).room s m ([.ref (a o), .int p1, .int p2, .int p3] : List Value).toArray below meth c s.heap [] 0 0 (MQ below (va_Qi (fun r (u : SX12) => (r, u) = rs) (fun u t => mB D s.heap.size (wX12 cy a o S) (wX12 cy a o u) t) (va_A (wX12 cy a o S) s.heap.size)) ([.ref (a o), .int p1, .int p2, .int p3] : List Value).toArray s 0 0 (va_A (wX12 cy a o S) s.heap.size)) (F0 m 30 ls [.ref (a o)]) := by
    intro ls h hl
    rw [hj20] at h
    refine lv_iconst (v := (1 : Int32)) hx hb dX12_addWork_30 (by decide) ?_
    refine lv_goto (tgt := 59) hx hb dX12_addWork_31 (by decide) ?_
    exact Jj4 (1 : Int32) ls h (lv_sub hl [0, 1, 2, 3] rfl)
  refine lv_if_eq (tgt := 30) hx hb dX12_addWork_8 (by decide) (fun cc => ?_) (fun cc => ?_)
  · have h := ite_p cc h
    exact Jj20  ls h (lv_sub hl [0, 1, 2, 3] rfl)
  · have h := ite_n cc h
    refine lv_iload_n hx hb dX12_addWork_11 rfl (lv_at hl 2 rfl) ?_
    refine lv_iconst (v := (0 : Int32)) hx hb dX12_addWork_12 (by decide) ?_
    refine lv_iconst (v := (4 : Int32)) hx hb dX12_addWork_13 (by decide) ?_
    obtain ⟨x21, e22, h⟩ := bd_some h
    refine pcS (As := [.int p2, .int (0 : Int32), .int (4 : Int32)]) (rest := [.ref (a o)]) (qX12_in l D cy  p2 (0 : Int32) (4 : Int32) x21 e22) ⟨hx, hb, hml, hown, hts⟩ (va_cwS 3 hts gX12_addWork_X12_in rfl rfl rfl (by decide +kernel) ⟨Nat.le_of_ble_eq_true rfl, Nat.le_of_ble_eq_true rfl⟩) hG (hP.sub [] rfl) rfl hl.1 rfl (Nat.le_of_ble_eq_true rfl) dX12_addWork_14 ⟨Nat.zero_le _, Nat.zero_le _⟩ ?_
    refine lv_if_eq (tgt := 30) hx hb dX12_addWork_17 (by decide) (fun cc => ?_) (fun cc => ?_)
    · have h := ite_p cc h
      exact Jj20  ls h (lv_sub hl [0, 1, 2, 3] rfl)
    · have h := ite_n cc h
      refine lv_iload_n hx hb dX12_addWork_20 rfl (lv_at hl 3 rfl) ?_
      refine lv_iconst (v := (1 : Int32)) hx hb dX12_addWork_21 (by decide) ?_
      refine lv_bipush (v := (60 : Int32)) hx hb dX12_addWork_22 (by decide) ?_
      obtain ⟨x23, e24, h⟩ := bd_some h
      refine pcS (As := [.int p3, .int (1 : Int32), .int (60 : Int32)]) (rest := [.ref (a o)]) (qX12_in l D cy  p3 (1 : Int32) (60 : Int32) x23 e24) ⟨hx, hb, hml, hown, hts⟩ (va_cwS 3 hts gX12_addWork_X12_in rfl rfl rfl (by decide +kernel) ⟨Nat.le_of_ble_eq_true rfl, Nat.le_of_ble_eq_true rfl⟩) hG (hP.sub [] rfl) rfl hl.1 rfl (Nat.le_of_ble_eq_true rfl) dX12_addWork_24 ⟨Nat.zero_le _, Nat.zero_le _⟩ ?_
      refine lv_if_ne (tgt := 34) hx hb dX12_addWork_27 (by decide) (fun cc => ?_) (fun cc => ?_)
      · have h := ite_n cc h
        refine lv_aload_n hx hb dX12_addWork_34 rfl (lv_at hl 0 rfl) ?_
        refine va_get (D := D) (ci := 12) (v := .ref (a (o + 1))) (C := RX12) (T := TX12) (N := 12) hx hb hts hinX12 hown hK hP 0 rfl rfl 0 (by decide) hf7 (fun _ h9 => h9) rfl dX12_addWork_35 ?_
        refine lv_iconst (v := (3 : Int32)) hx hb dX12_addWork_38 (by decide) ?_
        refine r_ald (f := (gX12_m S)) (n := 714) (v := ((gX12_m S) 3)) hx hb hK hP 1 0 rfl rfl (vp_in_nI (n := 3) (N := 714) (by decide) (by decide)) (congrArg (gX12_m S) (nI_clamp (n := 3) (by decide))) dX12_addWork_39 ?_
        obtain ⟨j25, hj25, h⟩ := jn_elim h
        have Jj25 : ∀ (ls : Array Slot), j25 () = some rs → lv_has ls 5 [(0, .ref (a o)), (1, .int p1), (2, .int p2), (3, .int p3)] → W p l e (headSpec wsX12_addWork ({ frames := 1, cells := 0, slots := 0, locals := 22 } : Room)).room s m ([.ref (a o), .int p1, .int p2, .int p3] : List Value).toArray below meth c s.heap [] 0 0 (MQ below (va_Qi (fun r (u : SX12) => (r, u) = rs) (fun u t => mB D s.heap.size (wX12 cy a o S) (wX12 cy a o u) t) (va_A (wX12 cy a o S) s.heap.size)) ([.ref (a o), .int p1, .int p2, .int p3] : List Value).toArray s 0 0 (va_A (wX12 cy a o S) s.heap.size)) (F0 m 54 ls [.ref (a o)]) := by
          intro ls h hl
          rw [hj25] at h
          refine lv_iconst (v := (2 : Int32)) hx hb dX12_addWork_54 (by decide) ?_
          refine lv_goto (tgt := 59) hx hb dX12_addWork_55 (by decide) ?_
          exact Jj4 (2 : Int32) ls h (lv_sub hl [0, 1, 2, 3] rfl)
        refine lv_if_ne (tgt := 54) hx hb dX12_addWork_40 (by decide) (fun cc => ?_) (fun cc => ?_)
        · have h := ite_n cc h
          exact Jj25  ls h (lv_sub hl [0, 1, 2, 3] rfl)
        · have h := ite_p cc h
          refine lv_aload_n hx hb dX12_addWork_43 rfl (lv_at hl 0 rfl) ?_
          refine va_get (D := D) (ci := 12) (v := .ref (a (o + 1))) (C := RX12) (T := TX12) (N := 12) hx hb hts hinX12 hown hK hP 0 rfl rfl 0 (by decide) hf7 (fun _ h9 => h9) rfl dX12_addWork_44 ?_
          refine lv_iconst (v := (5 : Int32)) hx hb dX12_addWork_47 (by decide) ?_
          refine r_ald (f := (gX12_m S)) (n := 714) (v := ((gX12_m S) 5)) hx hb hK hP 1 0 rfl rfl (vp_in_nI (n := 5) (N := 714) (by decide) (by decide)) (congrArg (gX12_m S) (nI_clamp (n := 5) (by decide))) dX12_addWork_48 ?_
          refine lv_bipush (v := (30 : Int32)) hx hb dX12_addWork_49 (by decide) ?_
          refine lv_icmp_ne (tgt := 58) hx hb dX12_addWork_51 (by decide) (fun cc => ?_) (fun cc => ?_)
          · have h := ite_n cc h
            refine lv_iconst (v := (0 : Int32)) hx hb dX12_addWork_58 (by decide) ?_
            exact Jj4 (0 : Int32) ls h (lv_sub hl [0, 1, 2, 3] rfl)
          · have h := ite_p cc h
            exact Jj25  ls h (lv_sub hl [0, 1, 2, 3] rfl)
      · have h := ite_p cc h
        exact Jj20  ls h (lv_sub hl [0, 1, 2, 3] rfl)
set_option maxHeartbeats 4000000 in
set_option maxRecDepth 100000 in
theorem qX12_work (l : Launch) (D : va_G) (cy : Nat → ClassId) (a : Nat → Nat) (o : Nat) (S : SX12) (p1 : Int32) (p2 : Int32) (sz : Nat) (rs : Int32 × SX12) (h : DX12_work S p1 p2 = some rs) : Met l yX12_work wsX12_work ({ frames := 1, cells := 0, slots := 0, locals := 22 } : Room) (mP D cy sz [.ref (a o), .int p1, .int p2] (wX12 cy a o S)) (va_Qi (fun r (u : SX12) => (r, u) = rs) (fun u t => mB D sz (wX12 cy a o S) (wX12 cy a o u) t) (va_A (wX12 cy a o S) sz)) 0 0 (va_A (wX12 cy a o S) sz) := by
  refine Met.ofW (cc := cX12_work) (maxL := 3) (ret := (some .int)) (by decide) rfl ?_
  intro p e s m args below meth c s₁ B hml hv
  obtain ⟨rfl, hsz, hP, hG, hD0⟩ := hv
  have hx := B.exec
  have hb := B.bytes
  have hr := B.returns
  have hts := atoms_spec (ws := wsX12_work) B.pre
  have hown : s.vm.findClass RX12 = some m.cls := findClass_of_methodNamed B.named
  have hlocks := B.notSynchronized
  have hK := hG.1
  subst hsz
  have hD := hD0.self (sz := s.heap.size)
  have hA : ∀ q : Nat, s.heap.size ≤ q → (va_A (wX12 cy a o S) s.heap.size) q := fun q h => Or.inr h
  have hS : va_S (va_A (wX12 cy a o S) s.heap.size) s.heap s.heap [] := va_S.rf
  have hinX12 := (by decide +kernel : ∀ w ∈ wsX120, w ∈ wsX12_work)
  have hf7 := hts (.fieldLink RX12 7 "PianoRoundsModel" "m" "[I") (by decide +kernel)
  have hf31 := hts (.fieldLink RX12 31 "PianoRoundsModel" "code" "I") (by decide +kernel)
  have hl := lv_entry ([.ref (a o), .int p1, .int p2]) (n := 3) (Nat.le_of_ble_eq_true rfl)
  rw [lg_entry_eq]
  generalize (lg_sl ([.ref (a o), .int p1, .int p2]) ++ List.replicate (3 - (lg_sl ([.ref (a o), .int p1, .int p2])).length) Slot.unset).toArray = ls at hl ⊢
  have hl : lv_has ls 3 [(0, .ref (a o)), (1, .int p1), (2, .int p2)] := hl
  rw [DX12_work] at h
  refine lv_aload_n hx hb dX12_work_0 rfl (lv_at hl 0 rfl) ?_
  refine lv_iload_n hx hb dX12_work_1 rfl (lv_at hl 1 rfl) ?_
  refine lv_iconst (v := (0 : Int32)) hx hb dX12_work_2 (by decide) ?_
  refine lv_aload_n hx hb dX12_work_3 rfl (lv_at hl 0 rfl) ?_
  refine va_get (D := D) (ci := 12) (v := .ref (a (o + 1))) (C := RX12) (T := TX12) (N := 12) hx hb hts hinX12 hown hK hP 0 rfl rfl 0 (by decide) hf7 (fun _ h9 => h9) rfl dX12_work_4 ?_
  refine lv_iconst (v := (5 : Int32)) hx hb dX12_work_7 (by decide) ?_
  refine r_ald (f := (gX12_m S)) (n := 714) (v := ((gX12_m S) 5)) hx hb hK hP 1 0 rfl rfl (vp_in_nI (n := 5) (N := 714) (by decide) (by decide)) (congrArg (gX12_m S) (nI_clamp (n := 5) (by decide))) dX12_work_8 ?_
  refine lv_iconst (v := (1 : Int32)) hx hb dX12_work_9 (by decide) ?_
  refine lv_isub hx hb dX12_work_10 ?_
  obtain ⟨x1, e2, h⟩ := bd_some h
  refine pcS (As := [.int p1, .int (0 : Int32), .int (((gX12_m S) 5) - (1 : Int32))]) (rest := [.ref (a o)]) (qX12_in l D cy  p1 (0 : Int32) (((gX12_m S) 5) - (1 : Int32)) x1 e2) ⟨hx, hb, hml, hown, hts⟩ (va_cwS 3 hts gX12_work_X12_in rfl rfl rfl (by decide +kernel) ⟨Nat.le_of_ble_eq_true rfl, Nat.le_of_ble_eq_true rfl⟩) hG (hP.sub [] rfl) rfl hl.1 rfl (Nat.le_of_ble_eq_true rfl) dX12_work_11 ⟨Nat.zero_le _, Nat.zero_le _⟩ ?_
  obtain ⟨j4, hj4, h⟩ := jn_elim h
  have Jj4 : ∀ (x3 : Int32) (ls : Array Slot), j4 x3 = some rs → lv_has ls 3 [(0, .ref (a o)), (1, .int p1), (2, .int p2)] → W p l e (headSpec wsX12_work ({ frames := 1, cells := 0, slots := 0, locals := 22 } : Room)).room s m ([.ref (a o), .int p1, .int p2] : List Value).toArray below meth c s.heap [] 0 0 (MQ below (va_Qi (fun r (u : SX12) => (r, u) = rs) (fun u t => mB D s.heap.size (wX12 cy a o S) (wX12 cy a o u) t) (va_A (wX12 cy a o S) s.heap.size)) ([.ref (a o), .int p1, .int p2] : List Value).toArray s 0 0 (va_A (wX12 cy a o S) s.heap.size)) (F0 m 35 ls [.int x3, .ref (a o)]) := by
    intro x3 ls h hl
    rw [hj4] at h
    refine va_put (D := D) (ci := 12) (v := .int x3) (ty := .int) (C := RX12) (T := TX12) (N := 12) hx hb hts hinX12 tyX12 tyX12_ok nmX12 hown hK hP hD hS 0 rfl rfl 5 (by decide) hf31 (fun _ h9 => h9) rfl (by decide +kernel) rfl rfl (Nat.le_of_ble_eq_true rfl) dX12_work_35 (fun H locs hP hD hS => ?_)
    have hP : va_P D vwCl (wX12 cy a o (uX12_code S x3)) H := hP
    have hD : va_D (va_A (wX12 cy a o S) s.heap.size) (wX12 cy a o (uX12_code S x3)) := hD
    obtain ⟨S5, eS6, h⟩ := lt_elim h
    have hP : va_P D vwCl (wX12 cy a o S5) H := by rw [eS6]; exact hP
    have hD : va_D (va_A (wX12 cy a o S) s.heap.size) (wX12 cy a o S5) := by rw [eS6]; exact hD
    refine lv_aload_n hx hb dX12_work_38 rfl (lv_at hl 0 rfl) ?_
    refine va_get (D := D) (ci := 12) (v := .int (gX12_code S5)) (C := RX12) (T := TX12) (N := 12) hx hb hts hinX12 hown hK hP 0 rfl rfl 5 (by decide) hf31 (fun _ h9 => h9) rfl dX12_work_39 ?_
    obtain ⟨j8, hj8, h⟩ := jn_elim h
    have Jj8 : ∀ (x7 : Int32) (ls : Array Slot), j8 x7 = some rs → lv_has ls 3 [] → W p l e (headSpec wsX12_work ({ frames := 1, cells := 0, slots := 0, locals := 22 } : Room)).room s m ([.ref (a o), .int p1, .int p2] : List Value).toArray below meth c H locs 0 0 (MQ below (va_Qi (fun r (u : SX12) => (r, u) = rs) (fun u t => mB D s.heap.size (wX12 cy a o S) (wX12 cy a o u) t) (va_A (wX12 cy a o S) s.heap.size)) ([.ref (a o), .int p1, .int p2] : List Value).toArray s 0 0 (va_A (wX12 cy a o S) s.heap.size)) (F0 m 62 ls [.int x7]) := by
      intro x7 ls h hl
      rw [hj8] at h
      exact W.iret (v := x7) hx hb hr (fun t ht hW => ⟨⟨x7, S5, rfl, some_in h, by rw [ht]; exact hP, hD⟩, hS.F ht⟩) hS.2.2 dX12_work_62
    refine lv_if_eq (tgt := 49) hx hb dX12_work_42 (by decide) (fun cc => ?_) (fun cc => ?_)
    · have h := ite_p cc h
      refine lv_aload_n hx hb dX12_work_49 rfl (lv_at hl 0 rfl) ?_
      refine va_get (D := D) (ci := 12) (v := .ref (a (o + 1))) (C := RX12) (T := TX12) (N := 12) hx hb hts hinX12 hown hK hP 0 rfl rfl 0 (by decide) hf7 (fun _ h9 => h9) rfl dX12_work_50 ?_
      refine lv_bipush (v := (12 : Int32)) hx hb dX12_work_53 (by decide) ?_
      refine lv_iconst (v := (3 : Int32)) hx hb dX12_work_55 (by decide) ?_
      refine lv_iload_n hx hb dX12_work_56 rfl (lv_at hl 1 rfl) ?_
      refine lv_imul hx hb dX12_work_57 ?_
      refine lv_iadd hx hb dX12_work_58 ?_
      refine lv_iload_n hx hb dX12_work_59 rfl (lv_at hl 2 rfl) ?_
      refine lv_iadd hx hb dX12_work_60 ?_
      obtain ⟨g9, h⟩ := gd_some h
      refine r_ald (f := (gX12_m S5)) (n := 714) (v := ((gX12_m S5) (((((12 : Int32) + ((3 : Int32) * p1)) + p2)).toNatClampNeg))) hx hb hK hP 1 0 rfl rfl (gIn_in g9) rfl dX12_work_61 ?_
      exact Jj8 ((gX12_m S5) (((((12 : Int32) + ((3 : Int32) * p1)) + p2)).toNatClampNeg)) ls h (lv_sub hl [] rfl)
    · have h := ite_n cc h
      refine lv_iconst (v := (0 : Int32)) hx hb dX12_work_45 (by decide) ?_
      refine lv_goto (tgt := 62) hx hb dX12_work_46 (by decide) ?_
      exact Jj8 (0 : Int32) ls h (lv_sub hl [] rfl)
  refine lv_if_ne (tgt := 21) hx hb dX12_work_14 (by decide) (fun cc => ?_) (fun cc => ?_)
  · have h := ite_n cc h
    refine lv_iload_n hx hb dX12_work_21 rfl (lv_at hl 2 rfl) ?_
    refine lv_iconst (v := (0 : Int32)) hx hb dX12_work_22 (by decide) ?_
    refine lv_iconst (v := (2 : Int32)) hx hb dX12_work_23 (by decide) ?_
    obtain ⟨x10, e11, h⟩ := bd_some h
    refine pcS (As := [.int p2, .int (0 : Int32), .int (2 : Int32)]) (rest := [.ref (a o)]) (qX12_in l D cy  p2 (0 : Int32) (2 : Int32) x10 e11) ⟨hx, hb, hml, hown, hts⟩ (va_cwS 3 hts gX12_work_X12_in rfl rfl rfl (by decide +kernel) ⟨Nat.le_of_ble_eq_true rfl, Nat.le_of_ble_eq_true rfl⟩) hG (hP.sub [] rfl) rfl hl.1 rfl (Nat.le_of_ble_eq_true rfl) dX12_work_24 ⟨Nat.zero_le _, Nat.zero_le _⟩ ?_
    refine lv_if_eq (tgt := 34) hx hb dX12_work_27 (by decide) (fun cc => ?_) (fun cc => ?_)
    · have h := ite_p cc h
      refine lv_iconst (v := (2 : Int32)) hx hb dX12_work_34 (by decide) ?_
      exact Jj4 (2 : Int32) ls h (lv_sub hl [0, 1, 2] rfl)
    · have h := ite_n cc h
      refine lv_iconst (v := (0 : Int32)) hx hb dX12_work_30 (by decide) ?_
      refine lv_goto (tgt := 35) hx hb dX12_work_31 (by decide) ?_
      exact Jj4 (0 : Int32) ls h (lv_sub hl [0, 1, 2] rfl)
  · have h := ite_p cc h
    refine lv_iconst (v := (1 : Int32)) hx hb dX12_work_17 (by decide) ?_
    refine lv_goto (tgt := 35) hx hb dX12_work_18 (by decide) ?_
    exact Jj4 (1 : Int32) ls h (lv_sub hl [0, 1, 2] rfl)
set_option maxHeartbeats 4000000 in
set_option maxRecDepth 100000 in
theorem qX12_addEntrant (l : Launch) (D : va_G) (cy : Nat → ClassId) (a : Nat → Nat) (o : Nat) (S : SX12)  (sz : Nat) (rs : Int32 × SX12) (h : DX12_addEntrant S = some rs) : Met l yX12_addEntrant wsX12_addEntrant ({ frames := 1, cells := 0, slots := 0, locals := 21 } : Room) (mP D cy sz [.ref (a o)] (wX12 cy a o S)) (va_Qi (fun r (u : SX12) => (r, u) = rs) (fun u t => mB D sz (wX12 cy a o S) (wX12 cy a o u) t) (va_A (wX12 cy a o S) sz)) 0 0 (va_A (wX12 cy a o S) sz) := by
  refine Met.ofW (cc := cX12_addEntrant) (maxL := 1) (ret := (some .int)) (by decide) rfl ?_
  intro p e s m args below meth c s₁ B hml hv
  obtain ⟨rfl, hsz, hP, hG, hD0⟩ := hv
  have hx := B.exec
  have hb := B.bytes
  have hr := B.returns
  have hts := atoms_spec (ws := wsX12_addEntrant) B.pre
  have hown : s.vm.findClass RX12 = some m.cls := findClass_of_methodNamed B.named
  have hlocks := B.notSynchronized
  have hK := hG.1
  subst hsz
  have hD := hD0.self (sz := s.heap.size)
  have hA : ∀ q : Nat, s.heap.size ≤ q → (va_A (wX12 cy a o S) s.heap.size) q := fun q h => Or.inr h
  have hS : va_S (va_A (wX12 cy a o S) s.heap.size) s.heap s.heap [] := va_S.rf
  have hinX12 := (by decide +kernel : ∀ w ∈ wsX120, w ∈ wsX12_addEntrant)
  have hf7 := hts (.fieldLink RX12 7 "PianoRoundsModel" "m" "[I") (by decide +kernel)
  have hf31 := hts (.fieldLink RX12 31 "PianoRoundsModel" "code" "I") (by decide +kernel)
  have hl := lv_entry ([.ref (a o)]) (n := 1) (Nat.le_of_ble_eq_true rfl)
  rw [lg_entry_eq]
  generalize (lg_sl ([.ref (a o)]) ++ List.replicate (1 - (lg_sl ([.ref (a o)])).length) Slot.unset).toArray = ls at hl ⊢
  have hl : lv_has ls 1 [(0, .ref (a o))] := hl
  rw [DX12_addEntrant] at h
  refine lv_aload_n hx hb dX12_addEntrant_0 rfl (lv_at hl 0 rfl) ?_
  refine lv_aload_n hx hb dX12_addEntrant_1 rfl (lv_at hl 0 rfl) ?_
  refine va_get (D := D) (ci := 12) (v := .ref (a (o + 1))) (C := RX12) (T := TX12) (N := 12) hx hb hts hinX12 hown hK hP 0 rfl rfl 0 (by decide) hf7 (fun _ h9 => h9) rfl dX12_addEntrant_2 ?_
  refine lv_iconst (v := (3 : Int32)) hx hb dX12_addEntrant_5 (by decide) ?_
  refine r_ald (f := (gX12_m S)) (n := 714) (v := ((gX12_m S) 3)) hx hb hK hP 1 0 rfl rfl (vp_in_nI (n := 3) (N := 714) (by decide) (by decide)) (congrArg (gX12_m S) (nI_clamp (n := 3) (by decide))) dX12_addEntrant_6 ?_
  obtain ⟨j2, hj2, h⟩ := jn_elim h
  have Jj2 : ∀ (x1 : Int32) (ls : Array Slot), j2 x1 = some rs → lv_has ls 1 [(0, .ref (a o))] → W p l e (headSpec wsX12_addEntrant ({ frames := 1, cells := 0, slots := 0, locals := 21 } : Room)).room s m ([.ref (a o)] : List Value).toArray below meth c s.heap [] 0 0 (MQ below (va_Qi (fun r (u : SX12) => (r, u) = rs) (fun u t => mB D s.heap.size (wX12 cy a o S) (wX12 cy a o u) t) (va_A (wX12 cy a o S) s.heap.size)) ([.ref (a o)] : List Value).toArray s 0 0 (va_A (wX12 cy a o S) s.heap.size)) (F0 m 27 ls [.int x1, .ref (a o)]) := by
    intro x1 ls h hl
    rw [hj2] at h
    refine va_put (D := D) (ci := 12) (v := .int x1) (ty := .int) (C := RX12) (T := TX12) (N := 12) hx hb hts hinX12 tyX12 tyX12_ok nmX12 hown hK hP hD hS 0 rfl rfl 5 (by decide) hf31 (fun _ h9 => h9) rfl (by decide +kernel) rfl rfl (Nat.le_of_ble_eq_true rfl) dX12_addEntrant_27 (fun H locs hP hD hS => ?_)
    have hP : va_P D vwCl (wX12 cy a o (uX12_code S x1)) H := hP
    have hD : va_D (va_A (wX12 cy a o S) s.heap.size) (wX12 cy a o (uX12_code S x1)) := hD
    obtain ⟨S3, eS4, h⟩ := lt_elim h
    have hP : va_P D vwCl (wX12 cy a o S3) H := by rw [eS4]; exact hP
    have hD : va_D (va_A (wX12 cy a o S) s.heap.size) (wX12 cy a o S3) := by rw [eS4]; exact hD
    refine lv_aload_n hx hb dX12_addEntrant_30 rfl (lv_at hl 0 rfl) ?_
    refine va_get (D := D) (ci := 12) (v := .int (gX12_code S3)) (C := RX12) (T := TX12) (N := 12) hx hb hts hinX12 hown hK hP 0 rfl rfl 5 (by decide) hf31 (fun _ h9 => h9) rfl dX12_addEntrant_31 ?_
    refine lv_if_eq (tgt := 39) hx hb dX12_addEntrant_34 (by decide) (fun cc => ?_) (fun cc => ?_)
    · have h := ite_p cc h
      refine lv_aload_n hx hb dX12_addEntrant_39 rfl (lv_at hl 0 rfl) ?_
      obtain ⟨x5, e6, h⟩ := bd_some h
      refine smVv (As := []) (rest := []) (ws' := (wX12 cy a o x5)) (q0 := 0) (qX12_keep l D cy a o S3  (H).size x5 e6) ⟨hx, hb, hml, hown, hts⟩ (cwV 0 hts gX12_addEntrant_X12_keep rfl rfl rfl (by decide +kernel) ⟨Nat.le_of_ble_eq_true rfl, Nat.le_of_ble_eq_true rfl⟩) hG hP hD hS hA (pm1 (X := ([] : va_W)) (c := (wX12 cy a o S3)) (Y := ([] : va_W)) (show (wX12 cy a o S3) = ([] : va_W) ++ ((wX12 cy a o S3) ++ ([] : va_W)) from by simp only [List.append_assoc, List.nil_append, List.append_nil] <;> rfl)) (pm1 (X := ([] : va_W)) (c := (wX12 cy a o x5)) (Y := ([] : va_W)) (show (wX12 cy a o x5) = ([] : va_W) ++ ((wX12 cy a o x5) ++ ([] : va_W)) from by simp only [List.append_assoc, List.nil_append, List.append_nil] <;> rfl)) rfl rfl rfl hl.1 rfl (Nat.le_of_ble_eq_true rfl) dX12_addEntrant_40 ⟨Nat.zero_le _, Nat.zero_le _⟩ (fun H locs hP hD hS => ?_)
      refine lv_aload_n hx hb dX12_addEntrant_43 rfl (lv_at hl 0 rfl) ?_
      refine va_get (D := D) (ci := 12) (v := .ref (a (o + 1))) (C := RX12) (T := TX12) (N := 12) hx hb hts hinX12 hown hK hP 0 rfl rfl 0 (by decide) hf7 (fun _ h9 => h9) rfl dX12_addEntrant_44 ?_
      refine lv_bipush (v := (126 : Int32)) hx hb dX12_addEntrant_47 (by decide) ?_
      refine lv_aload_n hx hb dX12_addEntrant_49 rfl (lv_at hl 0 rfl) ?_
      refine va_get (D := D) (ci := 12) (v := .ref (a (o + 1))) (C := RX12) (T := TX12) (N := 12) hx hb hts hinX12 hown hK hP 0 rfl rfl 0 (by decide) hf7 (fun _ h9 => h9) rfl dX12_addEntrant_50 ?_
      refine lv_bipush (v := (6 : Int32)) hx hb dX12_addEntrant_53 (by decide) ?_
      refine r_ald (f := (gX12_m x5)) (n := 714) (v := ((gX12_m x5) 6)) hx hb hK hP 1 0 rfl rfl (vp_in_nI (n := 6) (N := 714) (by decide) (by decide)) (congrArg (gX12_m x5) (nI_clamp (n := 6) (by decide))) dX12_addEntrant_55 ?_
      refine lv_iadd hx hb dX12_addEntrant_56 ?_
      refine lv_iconst (v := (1 : Int32)) hx hb dX12_addEntrant_57 (by decide) ?_
      obtain ⟨g7, h⟩ := gd_some h
      refine r_ast (f := (gX12_m x5)) (f' := (upd (gX12_m x5) ((((126 : Int32) + ((gX12_m x5) 6))).toNatClampNeg) (1 : Int32))) (n := 714) (ws' := (wX12 cy a o (uX12_m x5 (upd (gX12_m x5) ((((126 : Int32) + ((gX12_m x5) 6))).toNatClampNeg) (1 : Int32))))) hx hb hK hP hD hS 1 0 rfl rfl (gIn_in g7) rfl rfl dX12_addEntrant_58 (fun H locs hP hD hS => ?_)
      obtain ⟨S8, eS9, h⟩ := lt_elim h
      have hP : va_P D vwCl (wX12 cy a o S8) H := by rw [eS9]; exact hP
      have hD : va_D (va_A (wX12 cy a o S) s.heap.size) (wX12 cy a o S8) := by rw [eS9]; exact hD
      refine lv_aload_n hx hb dX12_addEntrant_59 rfl (lv_at hl 0 rfl) ?_
      refine va_get (D := D) (ci := 12) (v := .ref (a (o + 1))) (C := RX12) (T := TX12) (N := 12) hx hb hts hinX12 hown hK hP 0 rfl rfl 0 (by decide) hf7 (fun _ h9 => h9) rfl dX12_addEntrant_60 ?_
      refine lv_bipush (v := (6 : Int32)) hx hb dX12_addEntrant_63 (by decide) ?_
      refine lv_dup2_11 hx hb dX12_addEntrant_65 rfl rfl ?_
      refine r_ald (f := (gX12_m S8)) (n := 714) (v := ((gX12_m S8) 6)) hx hb hK hP 1 0 rfl rfl (vp_in_nI (n := 6) (N := 714) (by decide) (by decide)) (congrArg (gX12_m S8) (nI_clamp (n := 6) (by decide))) dX12_addEntrant_66 ?_
      refine lv_iconst (v := (1 : Int32)) hx hb dX12_addEntrant_67 (by decide) ?_
      refine lv_iadd hx hb dX12_addEntrant_68 ?_
      refine r_ast (f := (gX12_m S8)) (f' := (upd (gX12_m S8) 6 (((gX12_m S8) 6) + (1 : Int32)))) (n := 714) (ws' := (wX12 cy a o (uX12_m S8 (upd (gX12_m S8) 6 (((gX12_m S8) 6) + (1 : Int32)))))) hx hb hK hP hD hS 1 0 rfl rfl (vp_in_nI (n := 6) (N := 714) (by decide) (by decide)) (updc (nI_clamp (n := 6) (by decide))) rfl dX12_addEntrant_69 (fun H locs hP hD hS => ?_)
      obtain ⟨S10, eS11, h⟩ := lt_elim h
      have hP : va_P D vwCl (wX12 cy a o S10) H := by rw [eS11]; exact hP
      have hD : va_D (va_A (wX12 cy a o S) s.heap.size) (wX12 cy a o S10) := by rw [eS11]; exact hD
      refine lv_aload_n hx hb dX12_addEntrant_70 rfl (lv_at hl 0 rfl) ?_
      refine va_get (D := D) (ci := 12) (v := .ref (a (o + 1))) (C := RX12) (T := TX12) (N := 12) hx hb hts hinX12 hown hK hP 0 rfl rfl 0 (by decide) hf7 (fun _ h9 => h9) rfl dX12_addEntrant_71 ?_
      refine lv_bipush (v := (6 : Int32)) hx hb dX12_addEntrant_74 (by decide) ?_
      refine r_ald (f := (gX12_m S10)) (n := 714) (v := ((gX12_m S10) 6)) hx hb hK hP 1 0 rfl rfl (vp_in_nI (n := 6) (N := 714) (by decide) (by decide)) (congrArg (gX12_m S10) (nI_clamp (n := 6) (by decide))) dX12_addEntrant_76 ?_
      refine lv_iconst (v := (1 : Int32)) hx hb dX12_addEntrant_77 (by decide) ?_
      refine lv_isub hx hb dX12_addEntrant_78 ?_
      exact W.iret (v := (((gX12_m S10) 6) - (1 : Int32))) hx hb hr (fun t ht hW => ⟨⟨(((gX12_m S10) 6) - (1 : Int32)), S10, rfl, some_in h, by rw [ht]; exact hP, hD⟩, hS.F ht⟩) hS.2.2 dX12_addEntrant_79
    · have h := ite_n cc h
      refine lv_iconst (v := (0 : Int32)) hx hb dX12_addEntrant_37 (by decide) ?_
      exact W.iret (v := (0 : Int32)) hx hb hr (fun t ht hW => ⟨⟨(0 : Int32), S3, rfl, some_in h, by rw [ht]; exact hP, hD⟩, hS.F ht⟩) hS.2.2 dX12_addEntrant_38
  obtain ⟨j12, hj12, h⟩ := jn_elim h
  have Jj12 : ∀ (ls : Array Slot), j12 () = some rs → lv_has ls 1 [(0, .ref (a o))] → W p l e (headSpec wsX12_addEntrant ({ frames := 1, cells := 0, slots := 0, locals := 21 } : Room)).room s m ([.ref (a o)] : List Value).toArray below meth c s.heap [] 0 0 (MQ below (va_Qi (fun r (u : SX12) => (r, u) = rs) (fun u t => mB D s.heap.size (wX12 cy a o S) (wX12 cy a o u) t) (va_A (wX12 cy a o S) s.heap.size)) ([.ref (a o)] : List Value).toArray s 0 0 (va_A (wX12 cy a o S) s.heap.size)) (F0 m 22 ls [.ref (a o)]) := by
    intro ls h hl
    rw [hj12] at h
    refine lv_iconst (v := (1 : Int32)) hx hb dX12_addEntrant_22 (by decide) ?_
    refine lv_goto (tgt := 27) hx hb dX12_addEntrant_23 (by decide) ?_
    exact Jj2 (1 : Int32) ls h (lv_sub hl [0] rfl)
  refine lv_if_ne (tgt := 22) hx hb dX12_addEntrant_7 (by decide) (fun cc => ?_) (fun cc => ?_)
  · have h := ite_n cc h
    exact Jj12  ls h (lv_sub hl [0] rfl)
  · have h := ite_p cc h
    refine lv_aload_n hx hb dX12_addEntrant_10 rfl (lv_at hl 0 rfl) ?_
    refine va_get (D := D) (ci := 12) (v := .ref (a (o + 1))) (C := RX12) (T := TX12) (N := 12) hx hb hts hinX12 hown hK hP 0 rfl rfl 0 (by decide) hf7 (fun _ h9 => h9) rfl dX12_addEntrant_11 ?_
    refine lv_bipush (v := (6 : Int32)) hx hb dX12_addEntrant_14 (by decide) ?_
    refine r_ald (f := (gX12_m S)) (n := 714) (v := ((gX12_m S) 6)) hx hb hK hP 1 0 rfl rfl (vp_in_nI (n := 6) (N := 714) (by decide) (by decide)) (congrArg (gX12_m S) (nI_clamp (n := 6) (by decide))) dX12_addEntrant_16 ?_
    refine lv_bipush (v := (12 : Int32)) hx hb dX12_addEntrant_17 (by decide) ?_
    refine lv_icmp_ne (tgt := 26) hx hb dX12_addEntrant_19 (by decide) (fun cc => ?_) (fun cc => ?_)
    · have h := ite_n cc h
      refine lv_iconst (v := (0 : Int32)) hx hb dX12_addEntrant_26 (by decide) ?_
      exact Jj2 (0 : Int32) ls h (lv_sub hl [0] rfl)
    · have h := ite_p cc h
      exact Jj12  ls h (lv_sub hl [0] rfl)
set_option maxHeartbeats 4000000 in
set_option maxRecDepth 100000 in
theorem qX12_seat (l : Launch) (D : va_G) (cy : Nat → ClassId)   (p0 : Int32) (p1 : Int32) (rs : Int32) (h : DX12_seat p0 p1 = some rs) : Met l yX12_seat wsX12_seat ({ frames := 0, cells := 0, slots := 0, locals := 0 } : Room) (va_Pc [.int p0, .int p1] (fun U => va_P D vwCl ([] : va_W) U.heap ∧ gK D cy U)) (vp_Si (fun z => z = rs)) 0 0 (fun _ => False) := by
  refine Met.ofW (cc := cX12_seat) (maxL := 2) (ret := (some .int)) (by decide) rfl ?_
  intro p e s m args below meth c s₁ B hml hv
  obtain ⟨rfl, hP, hG⟩ := hv
  have hx := B.exec
  have hb := B.bytes
  have hr := B.returns
  have hts := atoms_spec (ws := wsX12_seat) B.pre
  have hown : s.vm.findClass RX12 = some m.cls := findClass_of_methodNamed B.named
  have hlocks := B.notSynchronized
  have hK := hG.1
  have hl := lv_entry ([.int p0, .int p1]) (n := 2) (Nat.le_of_ble_eq_true rfl)
  rw [lg_entry_eq]
  generalize (lg_sl ([.int p0, .int p1]) ++ List.replicate (2 - (lg_sl ([.int p0, .int p1])).length) Slot.unset).toArray = ls at hl ⊢
  have hl : lv_has ls 2 [(0, .int p0), (1, .int p1)] := hl
  rw [DX12_seat] at h
  refine lv_bipush (v := (12 : Int32)) hx hb dX12_seat_0 (by decide) ?_
  refine lv_iload_n hx hb dX12_seat_2 rfl (lv_at hl 0 rfl) ?_
  refine lv_imul hx hb dX12_seat_3 ?_
  refine lv_iload_n hx hb dX12_seat_4 rfl (lv_at hl 1 rfl) ?_
  refine lv_iadd hx hb dX12_seat_5 ?_
  exact W.iret (v := (((12 : Int32) * p0) + p1)) hx hb hr (fun t ht hW => ⟨(((12 : Int32) * p0) + p1), rfl, some_in h, ht⟩) (fun q hq => nomatch hq) dX12_seat_6
set_option maxHeartbeats 4000000 in
set_option maxRecDepth 100000 in
theorem qX12_isBarred (l : Launch) (D : va_G) (cy : Nat → ClassId) (a : Nat → Nat) (o : Nat) (S : SX12) (p1 : Int32) (p2 : Int32) (rs : Int32) (h : DX12_isBarred S p1 p2 = some rs) : Met l yX12_isBarred wsX12_isBarred ({ frames := 1, cells := 0, slots := 0, locals := 21 } : Room) (va_Pc [.ref (a o), .int p1, .int p2] (fun U => va_P D vwCl (wX12 cy a o S) U.heap ∧ gK D cy U)) (vp_Si (fun z => z = rs)) 0 0 (fun _ => False) := by
  refine Met.ofW (cc := cX12_isBarred) (maxL := 3) (ret := (some .boolean)) (by decide) rfl ?_
  intro p e s m args below meth c s₁ B hml hv
  obtain ⟨rfl, hP, hG⟩ := hv
  have hx := B.exec
  have hb := B.bytes
  have hr := B.returns
  have hts := atoms_spec (ws := wsX12_isBarred) B.pre
  have hown : s.vm.findClass RX12 = some m.cls := findClass_of_methodNamed B.named
  have hlocks := B.notSynchronized
  have hK := hG.1
  have hinX12 := (by decide +kernel : ∀ w ∈ wsX120, w ∈ wsX12_isBarred)
  have hf7 := hts (.fieldLink RX12 7 "PianoRoundsModel" "m" "[I") (by decide +kernel)
  have hl := lv_entry ([.ref (a o), .int p1, .int p2]) (n := 3) (Nat.le_of_ble_eq_true rfl)
  rw [lg_entry_eq]
  generalize (lg_sl ([.ref (a o), .int p1, .int p2]) ++ List.replicate (3 - (lg_sl ([.ref (a o), .int p1, .int p2])).length) Slot.unset).toArray = ls at hl ⊢
  have hl : lv_has ls 3 [(0, .ref (a o)), (1, .int p1), (2, .int p2)] := hl
  rw [DX12_isBarred] at h
  refine lv_aload_n hx hb dX12_isBarred_0 rfl (lv_at hl 0 rfl) ?_
  refine va_get (D := D) (ci := 12) (v := .ref (a (o + 1))) (C := RX12) (T := TX12) (N := 12) hx hb hts hinX12 hown hK hP 0 rfl rfl 0 (by decide) hf7 (fun _ h9 => h9) rfl dX12_isBarred_1 ?_
  refine lv_sipush (v := (378 : Int32)) hx hb dX12_isBarred_4 (by decide) ?_
  refine lv_iload_n hx hb dX12_isBarred_7 rfl (lv_at hl 1 rfl) ?_
  refine lv_iload_n hx hb dX12_isBarred_8 rfl (lv_at hl 2 rfl) ?_
  obtain ⟨x1, e2, h⟩ := bd_some h
  refine pcS (As := [.int p1, .int p2]) (rest := [.int (378 : Int32), .ref (a (o + 1))]) (qX12_seat l D cy  p1 p2 x1 e2) ⟨hx, hb, hml, hown, hts⟩ (va_cwS 2 hts gX12_isBarred_X12_seat rfl rfl rfl (by decide +kernel) ⟨Nat.le_of_ble_eq_true rfl, Nat.le_of_ble_eq_true rfl⟩) hG (hP.sub [] rfl) rfl hl.1 rfl (Nat.le_of_ble_eq_true rfl) dX12_isBarred_9 ⟨Nat.zero_le _, Nat.zero_le _⟩ ?_
  refine lv_iadd hx hb dX12_isBarred_12 ?_
  obtain ⟨g3, h⟩ := gd_some h
  refine r_ald (f := (gX12_m S)) (n := 714) (v := ((gX12_m S) ((((378 : Int32) + x1)).toNatClampNeg))) hx hb hK hP 1 0 rfl rfl (gIn_in g3) rfl dX12_isBarred_13 ?_
  refine lv_iconst (v := (1 : Int32)) hx hb dX12_isBarred_14 (by decide) ?_
  obtain ⟨j5, hj5, h⟩ := jn_elim h
  have Jj5 : ∀ (x4 : Int32) (ls : Array Slot), j5 x4 = some rs → lv_has ls 3 [] → W p l e (headSpec wsX12_isBarred ({ frames := 1, cells := 0, slots := 0, locals := 21 } : Room)).room s m ([.ref (a o), .int p1, .int p2] : List Value).toArray below meth c s.heap [] 0 0 (MQ below (vp_Si (fun z => z = rs)) ([.ref (a o), .int p1, .int p2] : List Value).toArray s 0 0 (fun _ => False)) (F0 m 23 ls [.int x4]) := by
    intro x4 ls h hl
    rw [hj5] at h
    obtain ⟨g6, h⟩ := gd_some h
    exact W.zret (v := x4) hx hb hr (zN g6) (fun t ht hW => ⟨x4, rfl, some_in h, ht⟩) (fun q hq => nomatch hq) dX12_isBarred_23
  refine lv_icmp_ne (tgt := 22) hx hb dX12_isBarred_15 (by decide) (fun cc => ?_) (fun cc => ?_)
  · have h := ite_n cc h
    refine lv_iconst (v := (0 : Int32)) hx hb dX12_isBarred_22 (by decide) ?_
    exact Jj5 (0 : Int32) ls h (lv_sub hl [] rfl)
  · have h := ite_p cc h
    refine lv_iconst (v := (1 : Int32)) hx hb dX12_isBarred_18 (by decide) ?_
    refine lv_goto (tgt := 23) hx hb dX12_isBarred_19 (by decide) ?_
    exact Jj5 (1 : Int32) ls h (lv_sub hl [] rfl)
set_option maxHeartbeats 4000000 in
set_option maxRecDepth 100000 in
theorem qX12_bar (l : Launch) (D : va_G) (cy : Nat → ClassId) (a : Nat → Nat) (o : Nat) (S : SX12) (p1 : Int32) (p2 : Int32) (p3 : Int32) (sz : Nat) (rs : Int32 × SX12) (h : DX12_bar S p1 p2 p3 = some rs) : Met l yX12_bar wsX12_bar ({ frames := 2, cells := 0, slots := 0, locals := 44 } : Room) (mP D cy sz [.ref (a o), .int p1, .int p2, .int p3] (wX12 cy a o S)) (va_Qi (fun r (u : SX12) => (r, u) = rs) (fun u t => mB D sz (wX12 cy a o S) (wX12 cy a o u) t) (va_A (wX12 cy a o S) sz)) 0 0 (va_A (wX12 cy a o S) sz) := by
  refine Met.ofW (cc := cX12_bar) (maxL := 4) (ret := (some .boolean)) (by decide) rfl ?_
  intro p e s m args below meth c s₁ B hml hv
  obtain ⟨rfl, hsz, hP, hG, hD0⟩ := hv
  have hx := B.exec
  have hb := B.bytes
  have hr := B.returns
  have hts := atoms_spec (ws := wsX12_bar) B.pre
  have hown : s.vm.findClass RX12 = some m.cls := findClass_of_methodNamed B.named
  have hlocks := B.notSynchronized
  have hK := hG.1
  subst hsz
  have hD := hD0.self (sz := s.heap.size)
  have hA : ∀ q : Nat, s.heap.size ≤ q → (va_A (wX12 cy a o S) s.heap.size) q := fun q h => Or.inr h
  have hS : va_S (va_A (wX12 cy a o S) s.heap.size) s.heap s.heap [] := va_S.rf
  have hinX12 := (by decide +kernel : ∀ w ∈ wsX120, w ∈ wsX12_bar)
  have hf31 := hts (.fieldLink RX12 31 "PianoRoundsModel" "code" "I") (by decide +kernel)
  have hl := lv_entry ([.ref (a o), .int p1, .int p2, .int p3]) (n := 4) (Nat.le_of_ble_eq_true rfl)
  rw [lg_entry_eq]
  generalize (lg_sl ([.ref (a o), .int p1, .int p2, .int p3]) ++ List.replicate (4 - (lg_sl ([.ref (a o), .int p1, .int p2, .int p3])).length) Slot.unset).toArray = ls at hl ⊢
  have hl : lv_has ls 4 [(0, .ref (a o)), (1, .int p1), (2, .int p2), (3, .int p3)] := hl
  rw [DX12_bar] at h
  refine lv_aload_n hx hb dX12_bar_0 rfl (lv_at hl 0 rfl) ?_
  refine lv_aload_n hx hb dX12_bar_1 rfl (lv_at hl 0 rfl) ?_
  refine lv_iload_n hx hb dX12_bar_2 rfl (lv_at hl 1 rfl) ?_
  obtain ⟨x1, e2, h⟩ := bd_some h
  refine pcV (As := [.int p1]) (rest := [.ref (a o)]) (q0 := 0) (qX12_isJuror l D cy a o S p1 x1 e2) ⟨hx, hb, hml, hown, hts⟩ (cwV 1 hts gX12_bar_X12_isJuror rfl rfl rfl (by decide +kernel) ⟨Nat.le_of_ble_eq_true rfl, Nat.le_of_ble_eq_true rfl⟩) hG hP rfl rfl rfl hl.1 rfl (Nat.le_of_ble_eq_true rfl) dX12_bar_3 ⟨Nat.zero_le _, Nat.zero_le _⟩ ?_
  obtain ⟨j4, hj4, h⟩ := jn_elim h
  have Jj4 : ∀ (x3 : Int32) (ls : Array Slot), j4 x3 = some rs → lv_has ls 4 [(0, .ref (a o)), (1, .int p1), (2, .int p2), (3, .int p3)] → W p l e (headSpec wsX12_bar ({ frames := 2, cells := 0, slots := 0, locals := 44 } : Room)).room s m ([.ref (a o), .int p1, .int p2, .int p3] : List Value).toArray below meth c s.heap [] 0 0 (MQ below (va_Qi (fun r (u : SX12) => (r, u) = rs) (fun u t => mB D s.heap.size (wX12 cy a o S) (wX12 cy a o u) t) (va_A (wX12 cy a o S) s.heap.size)) ([.ref (a o), .int p1, .int p2, .int p3] : List Value).toArray s 0 0 (va_A (wX12 cy a o S) s.heap.size)) (F0 m 22 ls [.int x3, .ref (a o)]) := by
    intro x3 ls h hl
    rw [hj4] at h
    refine va_put (D := D) (ci := 12) (v := .int x3) (ty := .int) (C := RX12) (T := TX12) (N := 12) hx hb hts hinX12 tyX12 tyX12_ok nmX12 hown hK hP hD hS 0 rfl rfl 5 (by decide) hf31 (fun _ h9 => h9) rfl (by decide +kernel) rfl rfl (Nat.le_of_ble_eq_true rfl) dX12_bar_22 (fun H locs hP hD hS => ?_)
    have hP : va_P D vwCl (wX12 cy a o (uX12_code S x3)) H := hP
    have hD : va_D (va_A (wX12 cy a o S) s.heap.size) (wX12 cy a o (uX12_code S x3)) := hD
    obtain ⟨S5, eS6, h⟩ := lt_elim h
    have hP : va_P D vwCl (wX12 cy a o S5) H := by rw [eS6]; exact hP
    have hD : va_D (va_A (wX12 cy a o S) s.heap.size) (wX12 cy a o S5) := by rw [eS6]; exact hD
    refine lv_aload_n hx hb dX12_bar_25 rfl (lv_at hl 0 rfl) ?_
    refine va_get (D := D) (ci := 12) (v := .int (gX12_code S5)) (C := RX12) (T := TX12) (N := 12) hx hb hts hinX12 hown hK hP 0 rfl rfl 5 (by decide) hf31 (fun _ h9 => h9) rfl dX12_bar_26 ?_
    obtain ⟨j9, hj9, h⟩ := jn_elim h
    have Jj9 : ∀ (x7 : Int32) (S8 : SX12) (H : Heap) (locs : List Loc) (ls : Array Slot), j9 x7 S8 = some rs → va_P D vwCl (wX12 cy a o S8) H → va_D (va_A (wX12 cy a o S) s.heap.size) (wX12 cy a o S8) → va_S (va_A (wX12 cy a o S) s.heap.size) s.heap H locs → lv_has ls 4 [] → W p l e (headSpec wsX12_bar ({ frames := 2, cells := 0, slots := 0, locals := 44 } : Room)).room s m ([.ref (a o), .int p1, .int p2, .int p3] : List Value).toArray below meth c H locs 0 0 (MQ below (va_Qi (fun r (u : SX12) => (r, u) = rs) (fun u t => mB D s.heap.size (wX12 cy a o S) (wX12 cy a o u) t) (va_A (wX12 cy a o S) s.heap.size)) ([.ref (a o), .int p1, .int p2, .int p3] : List Value).toArray s 0 0 (va_A (wX12 cy a o S) s.heap.size)) (F0 m 63 ls [.int x7]) := by
      intro x7 S8 H locs ls h hP hD hS hl
      rw [hj9] at h
      obtain ⟨g10, h⟩ := gd_some h
      exact W.zret (v := x7) hx hb hr (zN g10) (fun t ht hW => ⟨⟨x7, S8, rfl, some_in h, by rw [ht]; exact hP, hD⟩, hS.F ht⟩) hS.2.2 dX12_bar_63
    obtain ⟨j12, hj12, h⟩ := jn_elim h
    have Jj12 : ∀ (S11 : SX12) (H : Heap) (locs : List Loc) (ls : Array Slot), j12 S11 = some rs → va_P D vwCl (wX12 cy a o S11) H → va_D (va_A (wX12 cy a o S) s.heap.size) (wX12 cy a o S11) → va_S (va_A (wX12 cy a o S) s.heap.size) s.heap H locs → lv_has ls 4 [] → W p l e (headSpec wsX12_bar ({ frames := 2, cells := 0, slots := 0, locals := 44 } : Room)).room s m ([.ref (a o), .int p1, .int p2, .int p3] : List Value).toArray below meth c H locs 0 0 (MQ below (va_Qi (fun r (u : SX12) => (r, u) = rs) (fun u t => mB D s.heap.size (wX12 cy a o S) (wX12 cy a o u) t) (va_A (wX12 cy a o S) s.heap.size)) ([.ref (a o), .int p1, .int p2, .int p3] : List Value).toArray s 0 0 (va_A (wX12 cy a o S) s.heap.size)) (F0 m 62 ls []) := by
      intro S11 H locs ls h hP hD hS hl
      rw [hj12] at h
      refine lv_iconst (v := (0 : Int32)) hx hb dX12_bar_62 (by decide) ?_
      exact Jj9 (0 : Int32) S11 H locs ls h hP hD hS (lv_sub hl [] rfl)
    refine lv_if_ne (tgt := 62) hx hb dX12_bar_29 (by decide) (fun cc => ?_) (fun cc => ?_)
    · have h := ite_n cc h
      exact Jj12 S5 H locs ls h hP hD hS (lv_sub hl [] rfl)
    · have h := ite_p cc h
      refine lv_aload_n hx hb dX12_bar_32 rfl (lv_at hl 0 rfl) ?_
      refine lv_sipush (v := (378 : Int32)) hx hb dX12_bar_33 (by decide) ?_
      refine lv_iload_n hx hb dX12_bar_36 rfl (lv_at hl 1 rfl) ?_
      refine lv_iload_n hx hb dX12_bar_37 rfl (lv_at hl 2 rfl) ?_
      obtain ⟨x13, e14, h⟩ := bd_some h
      refine pcS (As := [.int p1, .int p2]) (rest := [.int (378 : Int32), .ref (a o)]) (qX12_seat l D cy  p1 p2 x13 e14) ⟨hx, hb, hml, hown, hts⟩ (va_cwS 2 hts gX12_bar_X12_seat rfl rfl rfl (by decide +kernel) ⟨Nat.le_of_ble_eq_true rfl, Nat.le_of_ble_eq_true rfl⟩) hG (hP.sub [] rfl) rfl hl.1 rfl (Nat.le_of_ble_eq_true rfl) dX12_bar_38 ⟨Nat.zero_le _, Nat.zero_le _⟩ ?_
      refine lv_iadd hx hb dX12_bar_41 ?_
      refine lv_iload_n hx hb dX12_bar_42 rfl (lv_at hl 3 rfl) ?_
      obtain ⟨j16, hj16, h⟩ := jn_elim h
      have Jj16 : ∀ (x15 : Int32) (ls : Array Slot), j16 x15 = some rs → lv_has ls 4 [] → W p l e (headSpec wsX12_bar ({ frames := 2, cells := 0, slots := 0, locals := 44 } : Room)).room s m ([.ref (a o), .int p1, .int p2, .int p3] : List Value).toArray below meth c H locs 0 0 (MQ below (va_Qi (fun r (u : SX12) => (r, u) = rs) (fun u t => mB D s.heap.size (wX12 cy a o S) (wX12 cy a o u) t) (va_A (wX12 cy a o S) s.heap.size)) ([.ref (a o), .int p1, .int p2, .int p3] : List Value).toArray s 0 0 (va_A (wX12 cy a o S) s.heap.size)) (F0 m 51 ls [.int x15, .int ((378 : Int32) + x13), .ref (a o)]) := by
        intro x15 ls h hl
        rw [hj16] at h
        obtain ⟨x17, e18, h⟩ := bd_some h
        refine smVi (As := [.int ((378 : Int32) + x13), .int x15]) (rest := []) (ws' := (wX12 cy a o x17.2)) (q0 := 0) (qX12_put l D cy a o S5 ((378 : Int32) + x13) x15 (H).size x17 e18) ⟨hx, hb, hml, hown, hts⟩ (cwV 2 hts gX12_bar_X12_put rfl rfl rfl (by decide +kernel) ⟨Nat.le_of_ble_eq_true rfl, Nat.le_of_ble_eq_true rfl⟩) hG hP hD hS hA (pm1 (X := ([] : va_W)) (c := (wX12 cy a o S5)) (Y := ([] : va_W)) (show (wX12 cy a o S5) = ([] : va_W) ++ ((wX12 cy a o S5) ++ ([] : va_W)) from by simp only [List.append_assoc, List.nil_append, List.append_nil] <;> rfl)) (pm1 (X := ([] : va_W)) (c := (wX12 cy a o x17.2)) (Y := ([] : va_W)) (show (wX12 cy a o x17.2) = ([] : va_W) ++ ((wX12 cy a o x17.2) ++ ([] : va_W)) from by simp only [List.append_assoc, List.nil_append, List.append_nil] <;> rfl)) rfl rfl rfl hl.1 rfl (Nat.le_of_ble_eq_true rfl) dX12_bar_51 ⟨Nat.zero_le _, Nat.zero_le _⟩ (fun H locs hP hD hS => ?_)
        refine lv_iconst (v := (1 : Int32)) hx hb dX12_bar_54 (by decide) ?_
        refine lv_icmp_ne (tgt := 62) hx hb dX12_bar_55 (by decide) (fun cc => ?_) (fun cc => ?_)
        · have h := ite_n cc h
          exact Jj12 x17.2 H locs ls h hP hD hS (lv_sub hl [] rfl)
        · have h := ite_p cc h
          refine lv_iconst (v := (1 : Int32)) hx hb dX12_bar_58 (by decide) ?_
          refine lv_goto (tgt := 63) hx hb dX12_bar_59 (by decide) ?_
          exact Jj9 (1 : Int32) x17.2 H locs ls h hP hD hS (lv_sub hl [] rfl)
      refine lv_if_eq (tgt := 50) hx hb dX12_bar_43 (by decide) (fun cc => ?_) (fun cc => ?_)
      · have h := ite_p cc h
        refine lv_iconst (v := (0 : Int32)) hx hb dX12_bar_50 (by decide) ?_
        exact Jj16 (0 : Int32) ls h (lv_sub hl [] rfl)
      · have h := ite_n cc h
        refine lv_iconst (v := (1 : Int32)) hx hb dX12_bar_46 (by decide) ?_
        refine lv_goto (tgt := 51) hx hb dX12_bar_47 (by decide) ?_
        exact Jj16 (1 : Int32) ls h (lv_sub hl [] rfl)
  obtain ⟨j19, hj19, h⟩ := jn_elim h
  have Jj19 : ∀ (ls : Array Slot), j19 () = some rs → lv_has ls 4 [(0, .ref (a o)), (1, .int p1), (2, .int p2), (3, .int p3)] → W p l e (headSpec wsX12_bar ({ frames := 2, cells := 0, slots := 0, locals := 44 } : Room)).room s m ([.ref (a o), .int p1, .int p2, .int p3] : List Value).toArray below meth c s.heap [] 0 0 (MQ below (va_Qi (fun r (u : SX12) => (r, u) = rs) (fun u t => mB D s.heap.size (wX12 cy a o S) (wX12 cy a o u) t) (va_A (wX12 cy a o S) s.heap.size)) ([.ref (a o), .int p1, .int p2, .int p3] : List Value).toArray s 0 0 (va_A (wX12 cy a o S) s.heap.size)) (F0 m 21 ls [.ref (a o)]) := by
    intro ls h hl
    rw [hj19] at h
    refine lv_iconst (v := (1 : Int32)) hx hb dX12_bar_21 (by decide) ?_
    exact Jj4 (1 : Int32) ls h (lv_sub hl [0, 1, 2, 3] rfl)
  refine lv_if_eq (tgt := 21) hx hb dX12_bar_6 (by decide) (fun cc => ?_) (fun cc => ?_)
  · have h := ite_p cc h
    exact Jj19  ls h (lv_sub hl [0, 1, 2, 3] rfl)
  · have h := ite_n cc h
    refine lv_aload_n hx hb dX12_bar_9 rfl (lv_at hl 0 rfl) ?_
    refine lv_iload_n hx hb dX12_bar_10 rfl (lv_at hl 2 rfl) ?_
    obtain ⟨x20, e21, h⟩ := bd_some h
    refine pcV (As := [.int p2]) (rest := [.ref (a o)]) (q0 := 0) (qX12_isEntrant l D cy a o S p2 x20 e21) ⟨hx, hb, hml, hown, hts⟩ (cwV 1 hts gX12_bar_X12_isEntrant rfl rfl rfl (by decide +kernel) ⟨Nat.le_of_ble_eq_true rfl, Nat.le_of_ble_eq_true rfl⟩) hG hP rfl rfl rfl hl.1 rfl (Nat.le_of_ble_eq_true rfl) dX12_bar_11 ⟨Nat.zero_le _, Nat.zero_le _⟩ ?_
    refine lv_if_eq (tgt := 21) hx hb dX12_bar_14 (by decide) (fun cc => ?_) (fun cc => ?_)
    · have h := ite_p cc h
      exact Jj19  ls h (lv_sub hl [0, 1, 2, 3] rfl)
    · have h := ite_n cc h
      refine lv_iconst (v := (0 : Int32)) hx hb dX12_bar_17 (by decide) ?_
      refine lv_goto (tgt := 22) hx hb dX12_bar_18 (by decide) ?_
      exact Jj4 (0 : Int32) ls h (lv_sub hl [0, 1, 2, 3] rfl)
set_option maxHeartbeats 4000000 in
set_option maxRecDepth 100000 in
theorem qX12_isSetting (l : Launch) (D : va_G) (cy : Nat → ClassId)   (p0 : Int32) (p1 : Int32) (rs : Int32) (h : DX12_isSetting p0 p1 = some rs) : Met l yX12_isSetting wsX12_isSetting ({ frames := 1, cells := 0, slots := 0, locals := 22 } : Room) (va_Pc [.int p0, .int p1] (fun U => va_P D vwCl ([] : va_W) U.heap ∧ gK D cy U)) (vp_Si (fun z => z = rs)) 0 0 (fun _ => False) := by
  refine Met.ofW (cc := cX12_isSetting) (maxL := 2) (ret := (some .boolean)) (by decide) rfl ?_
  intro p e s m args below meth c s₁ B hml hv
  obtain ⟨rfl, hP, hG⟩ := hv
  have hx := B.exec
  have hb := B.bytes
  have hr := B.returns
  have hts := atoms_spec (ws := wsX12_isSetting) B.pre
  have hown : s.vm.findClass RX12 = some m.cls := findClass_of_methodNamed B.named
  have hlocks := B.notSynchronized
  have hK := hG.1
  have hl := lv_entry ([.int p0, .int p1]) (n := 2) (Nat.le_of_ble_eq_true rfl)
  rw [lg_entry_eq]
  generalize (lg_sl ([.int p0, .int p1]) ++ List.replicate (2 - (lg_sl ([.int p0, .int p1])).length) Slot.unset).toArray = ls at hl ⊢
  have hl : lv_has ls 2 [(0, .int p0), (1, .int p1)] := hl
  rw [DX12_isSetting] at h
  refine lv_iload_n hx hb dX12_isSetting_0 rfl (lv_at hl 0 rfl) ?_
  obtain ⟨j2, hj2, h⟩ := jn_elim h
  have Jj2 : ∀ (x1 : Int32) (ls : Array Slot), j2 x1 = some rs → lv_has ls 2 [] → W p l e (headSpec wsX12_isSetting ({ frames := 1, cells := 0, slots := 0, locals := 22 } : Room)).room s m ([.int p0, .int p1] : List Value).toArray below meth c s.heap [] 0 0 (MQ below (vp_Si (fun z => z = rs)) ([.int p0, .int p1] : List Value).toArray s 0 0 (fun _ => False)) (F0 m 48 ls [.int x1]) := by
    intro x1 ls h hl
    rw [hj2] at h
    obtain ⟨g3, h⟩ := gd_some h
    exact W.zret (v := x1) hx hb hr (zN g3) (fun t ht hW => ⟨x1, rfl, some_in h, ht⟩) (fun q hq => nomatch hq) dX12_isSetting_48
  refine lv_if_ne (tgt := 14) hx hb dX12_isSetting_1 (by decide) (fun cc => ?_) (fun cc => ?_)
  · have h := ite_n cc h
    refine lv_iload_n hx hb dX12_isSetting_14 rfl (lv_at hl 0 rfl) ?_
    refine lv_iconst (v := (1 : Int32)) hx hb dX12_isSetting_15 (by decide) ?_
    refine lv_icmp_ne (tgt := 28) hx hb dX12_isSetting_16 (by decide) (fun cc => ?_) (fun cc => ?_)
    · have h := ite_n cc h
      refine lv_iload_n hx hb dX12_isSetting_28 rfl (lv_at hl 0 rfl) ?_
      refine lv_iconst (v := (2 : Int32)) hx hb dX12_isSetting_29 (by decide) ?_
      obtain ⟨j4, hj4, h⟩ := jn_elim h
      have Jj4 : ∀ (ls : Array Slot), j4 () = some rs → lv_has ls 2 [] → W p l e (headSpec wsX12_isSetting ({ frames := 1, cells := 0, slots := 0, locals := 22 } : Room)).room s m ([.int p0, .int p1] : List Value).toArray below meth c s.heap [] 0 0 (MQ below (vp_Si (fun z => z = rs)) ([.int p0, .int p1] : List Value).toArray s 0 0 (fun _ => False)) (F0 m 47 ls []) := by
        intro ls h hl
        rw [hj4] at h
        refine lv_iconst (v := (0 : Int32)) hx hb dX12_isSetting_47 (by decide) ?_
        exact Jj2 (0 : Int32) ls h (lv_sub hl [] rfl)
      refine lv_icmp_ne (tgt := 47) hx hb dX12_isSetting_30 (by decide) (fun cc => ?_) (fun cc => ?_)
      · have h := ite_n cc h
        exact Jj4  ls h (lv_sub hl [] rfl)
      · have h := ite_p cc h
        refine lv_iload_n hx hb dX12_isSetting_33 rfl (lv_at hl 1 rfl) ?_
        refine lv_iconst (v := (0 : Int32)) hx hb dX12_isSetting_34 (by decide) ?_
        refine lv_bipush (v := (100 : Int32)) hx hb dX12_isSetting_35 (by decide) ?_
        obtain ⟨x5, e6, h⟩ := bd_some h
        refine pcS (As := [.int p1, .int (0 : Int32), .int (100 : Int32)]) (rest := []) (qX12_in l D cy  p1 (0 : Int32) (100 : Int32) x5 e6) ⟨hx, hb, hml, hown, hts⟩ (va_cwS 3 hts gX12_isSetting_X12_in rfl rfl rfl (by decide +kernel) ⟨Nat.le_of_ble_eq_true rfl, Nat.le_of_ble_eq_true rfl⟩) hG (hP.sub [] rfl) rfl hl.1 rfl (Nat.le_of_ble_eq_true rfl) dX12_isSetting_37 ⟨Nat.zero_le _, Nat.zero_le _⟩ ?_
        refine lv_if_eq (tgt := 47) hx hb dX12_isSetting_40 (by decide) (fun cc => ?_) (fun cc => ?_)
        · have h := ite_p cc h
          exact Jj4  ls h (lv_sub hl [] rfl)
        · have h := ite_n cc h
          refine lv_iconst (v := (1 : Int32)) hx hb dX12_isSetting_43 (by decide) ?_
          refine lv_goto (tgt := 48) hx hb dX12_isSetting_44 (by decide) ?_
          exact Jj2 (1 : Int32) ls h (lv_sub hl [] rfl)
    · have h := ite_p cc h
      refine lv_iload_n hx hb dX12_isSetting_19 rfl (lv_at hl 1 rfl) ?_
      refine lv_iconst (v := (1 : Int32)) hx hb dX12_isSetting_20 (by decide) ?_
      refine lv_iconst (v := (4 : Int32)) hx hb dX12_isSetting_21 (by decide) ?_
      obtain ⟨x7, e8, h⟩ := bd_some h
      refine pcS (As := [.int p1, .int (1 : Int32), .int (4 : Int32)]) (rest := []) (qX12_in l D cy  p1 (1 : Int32) (4 : Int32) x7 e8) ⟨hx, hb, hml, hown, hts⟩ (va_cwS 3 hts gX12_isSetting_X12_in rfl rfl rfl (by decide +kernel) ⟨Nat.le_of_ble_eq_true rfl, Nat.le_of_ble_eq_true rfl⟩) hG (hP.sub [] rfl) rfl hl.1 rfl (Nat.le_of_ble_eq_true rfl) dX12_isSetting_22 ⟨Nat.zero_le _, Nat.zero_le _⟩ ?_
      refine lv_goto (tgt := 48) hx hb dX12_isSetting_25 (by decide) ?_
      exact Jj2 x7 ls h (lv_sub hl [] rfl)
  · have h := ite_p cc h
    refine lv_iload_n hx hb dX12_isSetting_4 rfl (lv_at hl 1 rfl) ?_
    refine lv_iconst (v := (3 : Int32)) hx hb dX12_isSetting_5 (by decide) ?_
    refine lv_bipush (v := (7 : Int32)) hx hb dX12_isSetting_6 (by decide) ?_
    obtain ⟨x9, e10, h⟩ := bd_some h
    refine pcS (As := [.int p1, .int (3 : Int32), .int (7 : Int32)]) (rest := []) (qX12_in l D cy  p1 (3 : Int32) (7 : Int32) x9 e10) ⟨hx, hb, hml, hown, hts⟩ (va_cwS 3 hts gX12_isSetting_X12_in rfl rfl rfl (by decide +kernel) ⟨Nat.le_of_ble_eq_true rfl, Nat.le_of_ble_eq_true rfl⟩) hG (hP.sub [] rfl) rfl hl.1 rfl (Nat.le_of_ble_eq_true rfl) dX12_isSetting_8 ⟨Nat.zero_le _, Nat.zero_le _⟩ ?_
    refine lv_goto (tgt := 48) hx hb dX12_isSetting_11 (by decide) ?_
    exact Jj2 x9 ls h (lv_sub hl [] rfl)
set_option maxHeartbeats 4000000 in
set_option maxRecDepth 100000 in
theorem qX12_set (l : Launch) (D : va_G) (cy : Nat → ClassId) (a : Nat → Nat) (o : Nat) (S : SX12) (p1 : Int32) (p2 : Int32) (sz : Nat) (rs : Int32 × SX12) (h : DX12_set S p1 p2 = some rs) : Met l yX12_set wsX12_set ({ frames := 2, cells := 0, slots := 0, locals := 44 } : Room) (mP D cy sz [.ref (a o), .int p1, .int p2] (wX12 cy a o S)) (va_Qi (fun r (u : SX12) => (r, u) = rs) (fun u t => mB D sz (wX12 cy a o S) (wX12 cy a o u) t) (va_A (wX12 cy a o S) sz)) 0 0 (va_A (wX12 cy a o S) sz) := by
  refine Met.ofW (cc := cX12_set) (maxL := 3) (ret := (some .int)) (by decide) rfl ?_
  intro p e s m args below meth c s₁ B hml hv
  obtain ⟨rfl, hsz, hP, hG, hD0⟩ := hv
  have hx := B.exec
  have hb := B.bytes
  have hr := B.returns
  have hts := atoms_spec (ws := wsX12_set) B.pre
  have hown : s.vm.findClass RX12 = some m.cls := findClass_of_methodNamed B.named
  have hlocks := B.notSynchronized
  have hK := hG.1
  subst hsz
  have hD := hD0.self (sz := s.heap.size)
  have hA : ∀ q : Nat, s.heap.size ≤ q → (va_A (wX12 cy a o S) s.heap.size) q := fun q h => Or.inr h
  have hS : va_S (va_A (wX12 cy a o S) s.heap.size) s.heap s.heap [] := va_S.rf
  have hinX12 := (by decide +kernel : ∀ w ∈ wsX120, w ∈ wsX12_set)
  have hf31 := hts (.fieldLink RX12 31 "PianoRoundsModel" "code" "I") (by decide +kernel)
  have hf7 := hts (.fieldLink RX12 7 "PianoRoundsModel" "m" "[I") (by decide +kernel)
  have hl := lv_entry ([.ref (a o), .int p1, .int p2]) (n := 3) (Nat.le_of_ble_eq_true rfl)
  rw [lg_entry_eq]
  generalize (lg_sl ([.ref (a o), .int p1, .int p2]) ++ List.replicate (3 - (lg_sl ([.ref (a o), .int p1, .int p2])).length) Slot.unset).toArray = ls at hl ⊢
  have hl : lv_has ls 3 [(0, .ref (a o)), (1, .int p1), (2, .int p2)] := hl
  rw [DX12_set] at h
  refine lv_aload_n hx hb dX12_set_0 rfl (lv_at hl 0 rfl) ?_
  refine lv_iload_n hx hb dX12_set_1 rfl (lv_at hl 1 rfl) ?_
  refine lv_iload_n hx hb dX12_set_2 rfl (lv_at hl 2 rfl) ?_
  obtain ⟨x1, e2, h⟩ := bd_some h
  refine pcS (As := [.int p1, .int p2]) (rest := [.ref (a o)]) (qX12_isSetting l D cy  p1 p2 x1 e2) ⟨hx, hb, hml, hown, hts⟩ (va_cwS 2 hts gX12_set_X12_isSetting rfl rfl rfl (by decide +kernel) ⟨Nat.le_of_ble_eq_true rfl, Nat.le_of_ble_eq_true rfl⟩) hG (hP.sub [] rfl) rfl hl.1 rfl (Nat.le_of_ble_eq_true rfl) dX12_set_3 ⟨Nat.zero_le _, Nat.zero_le _⟩ ?_
  obtain ⟨j4, hj4, h⟩ := jn_elim h
  have Jj4 : ∀ (x3 : Int32) (ls : Array Slot), j4 x3 = some rs → lv_has ls 3 [(0, .ref (a o)), (1, .int p1), (2, .int p2)] → W p l e (headSpec wsX12_set ({ frames := 2, cells := 0, slots := 0, locals := 44 } : Room)).room s m ([.ref (a o), .int p1, .int p2] : List Value).toArray below meth c s.heap [] 0 0 (MQ below (va_Qi (fun r (u : SX12) => (r, u) = rs) (fun u t => mB D s.heap.size (wX12 cy a o S) (wX12 cy a o u) t) (va_A (wX12 cy a o S) s.heap.size)) ([.ref (a o), .int p1, .int p2] : List Value).toArray s 0 0 (va_A (wX12 cy a o S) s.heap.size)) (F0 m 32 ls [.int x3, .ref (a o)]) := by
    intro x3 ls h hl
    rw [hj4] at h
    refine va_put (D := D) (ci := 12) (v := .int x3) (ty := .int) (C := RX12) (T := TX12) (N := 12) hx hb hts hinX12 tyX12 tyX12_ok nmX12 hown hK hP hD hS 0 rfl rfl 5 (by decide) hf31 (fun _ h9 => h9) rfl (by decide +kernel) rfl rfl (Nat.le_of_ble_eq_true rfl) dX12_set_32 (fun H locs hP hD hS => ?_)
    have hP : va_P D vwCl (wX12 cy a o (uX12_code S x3)) H := hP
    have hD : va_D (va_A (wX12 cy a o S) s.heap.size) (wX12 cy a o (uX12_code S x3)) := hD
    obtain ⟨S5, eS6, h⟩ := lt_elim h
    have hP : va_P D vwCl (wX12 cy a o S5) H := by rw [eS6]; exact hP
    have hD : va_D (va_A (wX12 cy a o S) s.heap.size) (wX12 cy a o S5) := by rw [eS6]; exact hD
    refine lv_aload_n hx hb dX12_set_35 rfl (lv_at hl 0 rfl) ?_
    refine va_get (D := D) (ci := 12) (v := .int (gX12_code S5)) (C := RX12) (T := TX12) (N := 12) hx hb hts hinX12 hown hK hP 0 rfl rfl 5 (by decide) hf31 (fun _ h9 => h9) rfl dX12_set_36 ?_
    obtain ⟨j9, hj9, h⟩ := jn_elim h
    have Jj9 : ∀ (x7 : Int32) (S8 : SX12) (H : Heap) (locs : List Loc) (ls : Array Slot), j9 x7 S8 = some rs → va_P D vwCl (wX12 cy a o S8) H → va_D (va_A (wX12 cy a o S) s.heap.size) (wX12 cy a o S8) → va_S (va_A (wX12 cy a o S) s.heap.size) s.heap H locs → lv_has ls 3 [] → W p l e (headSpec wsX12_set ({ frames := 2, cells := 0, slots := 0, locals := 44 } : Room)).room s m ([.ref (a o), .int p1, .int p2] : List Value).toArray below meth c H locs 0 0 (MQ below (va_Qi (fun r (u : SX12) => (r, u) = rs) (fun u t => mB D s.heap.size (wX12 cy a o S) (wX12 cy a o u) t) (va_A (wX12 cy a o S) s.heap.size)) ([.ref (a o), .int p1, .int p2] : List Value).toArray s 0 0 (va_A (wX12 cy a o S) s.heap.size)) (F0 m 52 ls [.int x7]) := by
      intro x7 S8 H locs ls h hP hD hS hl
      rw [hj9] at h
      exact W.iret (v := x7) hx hb hr (fun t ht hW => ⟨⟨x7, S8, rfl, some_in h, by rw [ht]; exact hP, hD⟩, hS.F ht⟩) hS.2.2 dX12_set_52
    refine lv_if_eq (tgt := 46) hx hb dX12_set_39 (by decide) (fun cc => ?_) (fun cc => ?_)
    · have h := ite_p cc h
      refine lv_aload_n hx hb dX12_set_46 rfl (lv_at hl 0 rfl) ?_
      refine lv_iload_n hx hb dX12_set_47 rfl (lv_at hl 1 rfl) ?_
      refine lv_iload_n hx hb dX12_set_48 rfl (lv_at hl 2 rfl) ?_
      obtain ⟨x10, e11, h⟩ := bd_some h
      refine smVi (As := [.int p1, .int p2]) (rest := []) (ws' := (wX12 cy a o x10.2)) (q0 := 0) (qX12_put l D cy a o S5 p1 p2 (H).size x10 e11) ⟨hx, hb, hml, hown, hts⟩ (cwV 2 hts gX12_set_X12_put rfl rfl rfl (by decide +kernel) ⟨Nat.le_of_ble_eq_true rfl, Nat.le_of_ble_eq_true rfl⟩) hG hP hD hS hA (pm1 (X := ([] : va_W)) (c := (wX12 cy a o S5)) (Y := ([] : va_W)) (show (wX12 cy a o S5) = ([] : va_W) ++ ((wX12 cy a o S5) ++ ([] : va_W)) from by simp only [List.append_assoc, List.nil_append, List.append_nil] <;> rfl)) (pm1 (X := ([] : va_W)) (c := (wX12 cy a o x10.2)) (Y := ([] : va_W)) (show (wX12 cy a o x10.2) = ([] : va_W) ++ ((wX12 cy a o x10.2) ++ ([] : va_W)) from by simp only [List.append_assoc, List.nil_append, List.append_nil] <;> rfl)) rfl rfl rfl hl.1 rfl (Nat.le_of_ble_eq_true rfl) dX12_set_49 ⟨Nat.zero_le _, Nat.zero_le _⟩ (fun H locs hP hD hS => ?_)
      exact Jj9 x10.1 x10.2 H locs ls h hP hD hS (lv_sub hl [] rfl)
    · have h := ite_n cc h
      refine lv_iconst (v := (0 : Int32)) hx hb dX12_set_42 (by decide) ?_
      refine lv_goto (tgt := 52) hx hb dX12_set_43 (by decide) ?_
      exact Jj9 (0 : Int32) S5 H locs ls h hP hD hS (lv_sub hl [] rfl)
  refine lv_if_ne (tgt := 13) hx hb dX12_set_6 (by decide) (fun cc => ?_) (fun cc => ?_)
  · have h := ite_n cc h
    refine lv_iload_n hx hb dX12_set_13 rfl (lv_at hl 1 rfl) ?_
    refine lv_iconst (v := (2 : Int32)) hx hb dX12_set_14 (by decide) ?_
    obtain ⟨j12, hj12, h⟩ := jn_elim h
    have Jj12 : ∀ (ls : Array Slot), j12 () = some rs → lv_has ls 3 [(0, .ref (a o)), (1, .int p1), (2, .int p2)] → W p l e (headSpec wsX12_set ({ frames := 2, cells := 0, slots := 0, locals := 44 } : Room)).room s m ([.ref (a o), .int p1, .int p2] : List Value).toArray below meth c s.heap [] 0 0 (MQ below (va_Qi (fun r (u : SX12) => (r, u) = rs) (fun u t => mB D s.heap.size (wX12 cy a o S) (wX12 cy a o u) t) (va_A (wX12 cy a o S) s.heap.size)) ([.ref (a o), .int p1, .int p2] : List Value).toArray s 0 0 (va_A (wX12 cy a o S) s.heap.size)) (F0 m 31 ls [.ref (a o)]) := by
      intro ls h hl
      rw [hj12] at h
      refine lv_iconst (v := (0 : Int32)) hx hb dX12_set_31 (by decide) ?_
      exact Jj4 (0 : Int32) ls h (lv_sub hl [0, 1, 2] rfl)
    refine lv_icmp_ge (tgt := 31) hx hb dX12_set_15 (by decide) (fun cc => ?_) (fun cc => ?_)
    · have h := ite_p cc h
      exact Jj12  ls h (lv_sub hl [0, 1, 2] rfl)
    · have h := ite_n cc h
      refine lv_aload_n hx hb dX12_set_18 rfl (lv_at hl 0 rfl) ?_
      refine va_get (D := D) (ci := 12) (v := .ref (a (o + 1))) (C := RX12) (T := TX12) (N := 12) hx hb hts hinX12 hown hK hP 0 rfl rfl 0 (by decide) hf7 (fun _ h9 => h9) rfl dX12_set_19 ?_
      refine lv_iconst (v := (3 : Int32)) hx hb dX12_set_22 (by decide) ?_
      refine r_ald (f := (gX12_m S)) (n := 714) (v := ((gX12_m S) 3)) hx hb hK hP 1 0 rfl rfl (vp_in_nI (n := 3) (N := 714) (by decide) (by decide)) (congrArg (gX12_m S) (nI_clamp (n := 3) (by decide))) dX12_set_23 ?_
      refine lv_if_eq (tgt := 31) hx hb dX12_set_24 (by decide) (fun cc => ?_) (fun cc => ?_)
      · have h := ite_p cc h
        exact Jj12  ls h (lv_sub hl [0, 1, 2] rfl)
      · have h := ite_n cc h
        refine lv_iconst (v := (2 : Int32)) hx hb dX12_set_27 (by decide) ?_
        refine lv_goto (tgt := 32) hx hb dX12_set_28 (by decide) ?_
        exact Jj4 (2 : Int32) ls h (lv_sub hl [0, 1, 2] rfl)
  · have h := ite_p cc h
    refine lv_iconst (v := (1 : Int32)) hx hb dX12_set_9 (by decide) ?_
    refine lv_goto (tgt := 32) hx hb dX12_set_10 (by decide) ?_
    exact Jj4 (1 : Int32) ls h (lv_sub hl [0, 1, 2] rfl)
set_option maxHeartbeats 4000000 in
set_option maxRecDepth 100000 in
theorem qX12_isRule (l : Launch) (D : va_G) (cy : Nat → ClassId)   (p0 : Int32) (p1 : Int32) (rs : Int32) (h : DX12_isRule p0 p1 = some rs) : Met l yX12_isRule wsX12_isRule ({ frames := 1, cells := 0, slots := 0, locals := 22 } : Room) (va_Pc [.int p0, .int p1] (fun U => va_P D vwCl ([] : va_W) U.heap ∧ gK D cy U)) (vp_Si (fun z => z = rs)) 0 0 (fun _ => False) := by
  refine Met.ofW (cc := cX12_isRule) (maxL := 2) (ret := (some .boolean)) (by decide) rfl ?_
  intro p e s m args below meth c s₁ B hml hv
  obtain ⟨rfl, hP, hG⟩ := hv
  have hx := B.exec
  have hb := B.bytes
  have hr := B.returns
  have hts := atoms_spec (ws := wsX12_isRule) B.pre
  have hown : s.vm.findClass RX12 = some m.cls := findClass_of_methodNamed B.named
  have hlocks := B.notSynchronized
  have hK := hG.1
  have hl := lv_entry ([.int p0, .int p1]) (n := 2) (Nat.le_of_ble_eq_true rfl)
  rw [lg_entry_eq]
  generalize (lg_sl ([.int p0, .int p1]) ++ List.replicate (2 - (lg_sl ([.int p0, .int p1])).length) Slot.unset).toArray = ls at hl ⊢
  have hl : lv_has ls 2 [(0, .int p0), (1, .int p1)] := hl
  rw [DX12_isRule] at h
  refine lv_iload_n hx hb dX12_isRule_0 rfl (lv_at hl 0 rfl) ?_
  by_cases c0 : p0 = (0 : Int32)
  · have h := ite_p c0 h
    refine lv_tableIn (tgt := 40) (off := 39) hx hb dX12_isRule_1 (by rw [c0]; decide) (by rw [c0]; decide) (by rw [c0]; rfl) (by decide) ?_
    refine lv_iload_n hx hb dX12_isRule_40 rfl (lv_at hl 1 rfl) ?_
    refine lv_iconst (v := (1 : Int32)) hx hb dX12_isRule_41 (by decide) ?_
    refine lv_sipush (v := (180 : Int32)) hx hb dX12_isRule_42 (by decide) ?_
    obtain ⟨x1, e2, h⟩ := bd_some h
    refine pcS (As := [.int p1, .int (1 : Int32), .int (180 : Int32)]) (rest := []) (qX12_in l D cy  p1 (1 : Int32) (180 : Int32) x1 e2) ⟨hx, hb, hml, hown, hts⟩ (va_cwS 3 hts gX12_isRule_X12_in rfl rfl rfl (by decide +kernel) ⟨Nat.le_of_ble_eq_true rfl, Nat.le_of_ble_eq_true rfl⟩) hG (hP.sub [] rfl) rfl hl.1 rfl (Nat.le_of_ble_eq_true rfl) dX12_isRule_45 ⟨Nat.zero_le _, Nat.zero_le _⟩ ?_
    obtain ⟨g3, h⟩ := gd_some h
    exact W.zret (v := x1) hx hb hr (zN g3) (fun t ht hW => ⟨x1, rfl, some_in h, ht⟩) (fun q hq => nomatch hq) dX12_isRule_48
  have h := ite_n c0 h
  by_cases c1 : p0 = (1 : Int32)
  · have h := ite_p c1 h
    refine lv_tableIn (tgt := 40) (off := 39) hx hb dX12_isRule_1 (by rw [c1]; decide) (by rw [c1]; decide) (by rw [c1]; rfl) (by decide) ?_
    refine lv_iload_n hx hb dX12_isRule_40 rfl (lv_at hl 1 rfl) ?_
    refine lv_iconst (v := (1 : Int32)) hx hb dX12_isRule_41 (by decide) ?_
    refine lv_sipush (v := (180 : Int32)) hx hb dX12_isRule_42 (by decide) ?_
    obtain ⟨x4, e5, h⟩ := bd_some h
    refine pcS (As := [.int p1, .int (1 : Int32), .int (180 : Int32)]) (rest := []) (qX12_in l D cy  p1 (1 : Int32) (180 : Int32) x4 e5) ⟨hx, hb, hml, hown, hts⟩ (va_cwS 3 hts gX12_isRule_X12_in rfl rfl rfl (by decide +kernel) ⟨Nat.le_of_ble_eq_true rfl, Nat.le_of_ble_eq_true rfl⟩) hG (hP.sub [] rfl) rfl hl.1 rfl (Nat.le_of_ble_eq_true rfl) dX12_isRule_45 ⟨Nat.zero_le _, Nat.zero_le _⟩ ?_
    obtain ⟨g6, h⟩ := gd_some h
    exact W.zret (v := x4) hx hb hr (zN g6) (fun t ht hW => ⟨x4, rfl, some_in h, ht⟩) (fun q hq => nomatch hq) dX12_isRule_48
  have h := ite_n c1 h
  by_cases c2 : p0 = (2 : Int32)
  · have h := ite_p c2 h
    refine lv_tableIn (tgt := 49) (off := 48) hx hb dX12_isRule_1 (by rw [c2]; decide) (by rw [c2]; decide) (by rw [c2]; rfl) (by decide) ?_
    refine lv_iload_n hx hb dX12_isRule_49 rfl (lv_at hl 1 rfl) ?_
    refine lv_iconst (v := (0 : Int32)) hx hb dX12_isRule_50 (by decide) ?_
    refine lv_bipush (v := (31 : Int32)) hx hb dX12_isRule_51 (by decide) ?_
    obtain ⟨x7, e8, h⟩ := bd_some h
    refine pcS (As := [.int p1, .int (0 : Int32), .int (31 : Int32)]) (rest := []) (qX12_in l D cy  p1 (0 : Int32) (31 : Int32) x7 e8) ⟨hx, hb, hml, hown, hts⟩ (va_cwS 3 hts gX12_isRule_X12_in rfl rfl rfl (by decide +kernel) ⟨Nat.le_of_ble_eq_true rfl, Nat.le_of_ble_eq_true rfl⟩) hG (hP.sub [] rfl) rfl hl.1 rfl (Nat.le_of_ble_eq_true rfl) dX12_isRule_53 ⟨Nat.zero_le _, Nat.zero_le _⟩ ?_
    obtain ⟨g9, h⟩ := gd_some h
    exact W.zret (v := x7) hx hb hr (zN g9) (fun t ht hW => ⟨x7, rfl, some_in h, ht⟩) (fun q hq => nomatch hq) dX12_isRule_56
  have h := ite_n c2 h
  by_cases c3 : p0 = (3 : Int32)
  · have h := ite_p c3 h
    refine lv_tableIn (tgt := 57) (off := 56) hx hb dX12_isRule_1 (by rw [c3]; decide) (by rw [c3]; decide) (by rw [c3]; rfl) (by decide) ?_
    refine lv_iload_n hx hb dX12_isRule_57 rfl (lv_at hl 1 rfl) ?_
    refine lv_iconst (v := (1 : Int32)) hx hb dX12_isRule_58 (by decide) ?_
    refine lv_iconst (v := (4 : Int32)) hx hb dX12_isRule_59 (by decide) ?_
    obtain ⟨x10, e11, h⟩ := bd_some h
    refine pcS (As := [.int p1, .int (1 : Int32), .int (4 : Int32)]) (rest := []) (qX12_in l D cy  p1 (1 : Int32) (4 : Int32) x10 e11) ⟨hx, hb, hml, hown, hts⟩ (va_cwS 3 hts gX12_isRule_X12_in rfl rfl rfl (by decide +kernel) ⟨Nat.le_of_ble_eq_true rfl, Nat.le_of_ble_eq_true rfl⟩) hG (hP.sub [] rfl) rfl hl.1 rfl (Nat.le_of_ble_eq_true rfl) dX12_isRule_60 ⟨Nat.zero_le _, Nat.zero_le _⟩ ?_
    obtain ⟨g12, h⟩ := gd_some h
    exact W.zret (v := x10) hx hb hr (zN g12) (fun t ht hW => ⟨x10, rfl, some_in h, ht⟩) (fun q hq => nomatch hq) dX12_isRule_63
  have h := ite_n c3 h
  by_cases c4 : p0 = (4 : Int32)
  · have h := ite_p c4 h
    refine lv_tableIn (tgt := 64) (off := 63) hx hb dX12_isRule_1 (by rw [c4]; decide) (by rw [c4]; decide) (by rw [c4]; rfl) (by decide) ?_
    refine lv_iload_n hx hb dX12_isRule_64 rfl (lv_at hl 1 rfl) ?_
    refine lv_iconst (v := (0 : Int32)) hx hb dX12_isRule_65 (by decide) ?_
    refine lv_iconst (v := (1 : Int32)) hx hb dX12_isRule_66 (by decide) ?_
    obtain ⟨x13, e14, h⟩ := bd_some h
    refine pcS (As := [.int p1, .int (0 : Int32), .int (1 : Int32)]) (rest := []) (qX12_in l D cy  p1 (0 : Int32) (1 : Int32) x13 e14) ⟨hx, hb, hml, hown, hts⟩ (va_cwS 3 hts gX12_isRule_X12_in rfl rfl rfl (by decide +kernel) ⟨Nat.le_of_ble_eq_true rfl, Nat.le_of_ble_eq_true rfl⟩) hG (hP.sub [] rfl) rfl hl.1 rfl (Nat.le_of_ble_eq_true rfl) dX12_isRule_67 ⟨Nat.zero_le _, Nat.zero_le _⟩ ?_
    obtain ⟨g15, h⟩ := gd_some h
    exact W.zret (v := x13) hx hb hr (zN g15) (fun t ht hW => ⟨x13, rfl, some_in h, ht⟩) (fun q hq => nomatch hq) dX12_isRule_70
  have h := ite_n c4 h
  by_cases c5 : p0 = (5 : Int32)
  · have h := ite_p c5 h
    refine lv_tableIn (tgt := 71) (off := 70) hx hb dX12_isRule_1 (by rw [c5]; decide) (by rw [c5]; decide) (by rw [c5]; rfl) (by decide) ?_
    refine lv_iload_n hx hb dX12_isRule_71 rfl (lv_at hl 1 rfl) ?_
    refine lv_iconst (v := (1 : Int32)) hx hb dX12_isRule_72 (by decide) ?_
    refine lv_bipush (v := (12 : Int32)) hx hb dX12_isRule_73 (by decide) ?_
    obtain ⟨x16, e17, h⟩ := bd_some h
    refine pcS (As := [.int p1, .int (1 : Int32), .int (12 : Int32)]) (rest := []) (qX12_in l D cy  p1 (1 : Int32) (12 : Int32) x16 e17) ⟨hx, hb, hml, hown, hts⟩ (va_cwS 3 hts gX12_isRule_X12_in rfl rfl rfl (by decide +kernel) ⟨Nat.le_of_ble_eq_true rfl, Nat.le_of_ble_eq_true rfl⟩) hG (hP.sub [] rfl) rfl hl.1 rfl (Nat.le_of_ble_eq_true rfl) dX12_isRule_75 ⟨Nat.zero_le _, Nat.zero_le _⟩ ?_
    obtain ⟨g18, h⟩ := gd_some h
    exact W.zret (v := x16) hx hb hr (zN g18) (fun t ht hW => ⟨x16, rfl, some_in h, ht⟩) (fun q hq => nomatch hq) dX12_isRule_78
  have h := ite_n c5 h
  refine lv_tableOut (tgt := 79) hx hb dX12_isRule_1 (by have n0 := lv_neT (a := 0) c0 (by decide); have n1 := lv_neT (a := 1) c1 (by decide); have n2 := lv_neT (a := 2) c2 (by decide); have n3 := lv_neT (a := 3) c3 (by decide); have n4 := lv_neT (a := 4) c4 (by decide); have n5 := lv_neT (a := 5) c5 (by decide); omega) (by decide) ?_
  refine lv_iconst (v := (0 : Int32)) hx hb dX12_isRule_79 (by decide) ?_
  exact W.zret (v := (0 : Int32)) hx hb hr rfl (fun t ht hW => ⟨(0 : Int32), rfl, some_in h, ht⟩) (fun q hq => nomatch hq) dX12_isRule_80
set_option maxHeartbeats 4000000 in
set_option maxRecDepth 100000 in
theorem qX12_setRule (l : Launch) (D : va_G) (cy : Nat → ClassId) (a : Nat → Nat) (o : Nat) (S : SX12) (p1 : Int32) (p2 : Int32) (p3 : Int32) (sz : Nat) (rs : Int32 × SX12) (h : DX12_setRule S p1 p2 p3 = some rs) : Met l yX12_setRule wsX12_setRule ({ frames := 2, cells := 0, slots := 0, locals := 44 } : Room) (mP D cy sz [.ref (a o), .int p1, .int p2, .int p3] (wX12 cy a o S)) (va_Qi (fun r (u : SX12) => (r, u) = rs) (fun u t => mB D sz (wX12 cy a o S) (wX12 cy a o u) t) (va_A (wX12 cy a o S) sz)) 0 0 (va_A (wX12 cy a o S) sz) := by
  refine Met.ofW (cc := cX12_setRule) (maxL := 4) (ret := (some .int)) (by decide) rfl ?_
  intro p e s m args below meth c s₁ B hml hv
  obtain ⟨rfl, hsz, hP, hG, hD0⟩ := hv
  have hx := B.exec
  have hb := B.bytes
  have hr := B.returns
  have hts := atoms_spec (ws := wsX12_setRule) B.pre
  have hown : s.vm.findClass RX12 = some m.cls := findClass_of_methodNamed B.named
  have hlocks := B.notSynchronized
  have hK := hG.1
  subst hsz
  have hD := hD0.self (sz := s.heap.size)
  have hA : ∀ q : Nat, s.heap.size ≤ q → (va_A (wX12 cy a o S) s.heap.size) q := fun q h => Or.inr h
  have hS : va_S (va_A (wX12 cy a o S) s.heap.size) s.heap s.heap [] := va_S.rf
  have hinX12 := (by decide +kernel : ∀ w ∈ wsX120, w ∈ wsX12_setRule)
  have hf31 := hts (.fieldLink RX12 31 "PianoRoundsModel" "code" "I") (by decide +kernel)
  have hf7 := hts (.fieldLink RX12 7 "PianoRoundsModel" "m" "[I") (by decide +kernel)
  have hl := lv_entry ([.ref (a o), .int p1, .int p2, .int p3]) (n := 4) (Nat.le_of_ble_eq_true rfl)
  rw [lg_entry_eq]
  generalize (lg_sl ([.ref (a o), .int p1, .int p2, .int p3]) ++ List.replicate (4 - (lg_sl ([.ref (a o), .int p1, .int p2, .int p3])).length) Slot.unset).toArray = ls at hl ⊢
  have hl : lv_has ls 4 [(0, .ref (a o)), (1, .int p1), (2, .int p2), (3, .int p3)] := hl
  rw [DX12_setRule] at h
  refine lv_aload_n hx hb dX12_setRule_0 rfl (lv_at hl 0 rfl) ?_
  refine lv_iload_n hx hb dX12_setRule_1 rfl (lv_at hl 1 rfl) ?_
  obtain ⟨x1, e2, h⟩ := bd_some h
  refine pcS (As := [.int p1]) (rest := [.ref (a o)]) (qX12_isRound l D cy  p1 x1 e2) ⟨hx, hb, hml, hown, hts⟩ (va_cwS 1 hts gX12_setRule_X12_isRound rfl rfl rfl (by decide +kernel) ⟨Nat.le_of_ble_eq_true rfl, Nat.le_of_ble_eq_true rfl⟩) hG (hP.sub [] rfl) rfl hl.1 rfl (Nat.le_of_ble_eq_true rfl) dX12_setRule_2 ⟨Nat.zero_le _, Nat.zero_le _⟩ ?_
  obtain ⟨j4, hj4, h⟩ := jn_elim h
  have Jj4 : ∀ (x3 : Int32) (ls : Array Slot), j4 x3 = some rs → lv_has ls 4 [(0, .ref (a o)), (1, .int p1), (2, .int p2), (3, .int p3)] → W p l e (headSpec wsX12_setRule ({ frames := 2, cells := 0, slots := 0, locals := 44 } : Room)).room s m ([.ref (a o), .int p1, .int p2, .int p3] : List Value).toArray below meth c s.heap [] 0 0 (MQ below (va_Qi (fun r (u : SX12) => (r, u) = rs) (fun u t => mB D s.heap.size (wX12 cy a o S) (wX12 cy a o u) t) (va_A (wX12 cy a o S) s.heap.size)) ([.ref (a o), .int p1, .int p2, .int p3] : List Value).toArray s 0 0 (va_A (wX12 cy a o S) s.heap.size)) (F0 m 38 ls [.int x3, .ref (a o)]) := by
    intro x3 ls h hl
    rw [hj4] at h
    refine va_put (D := D) (ci := 12) (v := .int x3) (ty := .int) (C := RX12) (T := TX12) (N := 12) hx hb hts hinX12 tyX12 tyX12_ok nmX12 hown hK hP hD hS 0 rfl rfl 5 (by decide) hf31 (fun _ h9 => h9) rfl (by decide +kernel) rfl rfl (Nat.le_of_ble_eq_true rfl) dX12_setRule_38 (fun H locs hP hD hS => ?_)
    have hP : va_P D vwCl (wX12 cy a o (uX12_code S x3)) H := hP
    have hD : va_D (va_A (wX12 cy a o S) s.heap.size) (wX12 cy a o (uX12_code S x3)) := hD
    obtain ⟨S5, eS6, h⟩ := lt_elim h
    have hP : va_P D vwCl (wX12 cy a o S5) H := by rw [eS6]; exact hP
    have hD : va_D (va_A (wX12 cy a o S) s.heap.size) (wX12 cy a o S5) := by rw [eS6]; exact hD
    refine lv_aload_n hx hb dX12_setRule_41 rfl (lv_at hl 0 rfl) ?_
    refine va_get (D := D) (ci := 12) (v := .int (gX12_code S5)) (C := RX12) (T := TX12) (N := 12) hx hb hts hinX12 hown hK hP 0 rfl rfl 5 (by decide) hf31 (fun _ h9 => h9) rfl dX12_setRule_42 ?_
    obtain ⟨j9, hj9, h⟩ := jn_elim h
    have Jj9 : ∀ (x7 : Int32) (S8 : SX12) (H : Heap) (locs : List Loc) (ls : Array Slot), j9 x7 S8 = some rs → va_P D vwCl (wX12 cy a o S8) H → va_D (va_A (wX12 cy a o S) s.heap.size) (wX12 cy a o S8) → va_S (va_A (wX12 cy a o S) s.heap.size) s.heap H locs → lv_has ls 4 [] → W p l e (headSpec wsX12_setRule ({ frames := 2, cells := 0, slots := 0, locals := 44 } : Room)).room s m ([.ref (a o), .int p1, .int p2, .int p3] : List Value).toArray below meth c H locs 0 0 (MQ below (va_Qi (fun r (u : SX12) => (r, u) = rs) (fun u t => mB D s.heap.size (wX12 cy a o S) (wX12 cy a o u) t) (va_A (wX12 cy a o S) s.heap.size)) ([.ref (a o), .int p1, .int p2, .int p3] : List Value).toArray s 0 0 (va_A (wX12 cy a o S) s.heap.size)) (F0 m 66 ls [.int x7]) := by
      intro x7 S8 H locs ls h hP hD hS hl
      rw [hj9] at h
      exact W.iret (v := x7) hx hb hr (fun t ht hW => ⟨⟨x7, S8, rfl, some_in h, by rw [ht]; exact hP, hD⟩, hS.F ht⟩) hS.2.2 dX12_setRule_66
    refine lv_if_eq (tgt := 52) hx hb dX12_setRule_45 (by decide) (fun cc => ?_) (fun cc => ?_)
    · have h := ite_p cc h
      refine lv_aload_n hx hb dX12_setRule_52 rfl (lv_at hl 0 rfl) ?_
      refine lv_bipush (v := (102 : Int32)) hx hb dX12_setRule_53 (by decide) ?_
      refine lv_bipush (v := (6 : Int32)) hx hb dX12_setRule_55 (by decide) ?_
      refine lv_iload_n hx hb dX12_setRule_57 rfl (lv_at hl 1 rfl) ?_
      refine lv_imul hx hb dX12_setRule_58 ?_
      refine lv_iadd hx hb dX12_setRule_59 ?_
      refine lv_iload_n hx hb dX12_setRule_60 rfl (lv_at hl 2 rfl) ?_
      refine lv_iadd hx hb dX12_setRule_61 ?_
      refine lv_iload_n hx hb dX12_setRule_62 rfl (lv_at hl 3 rfl) ?_
      obtain ⟨x10, e11, h⟩ := bd_some h
      refine smVi (As := [.int (((102 : Int32) + ((6 : Int32) * p1)) + p2), .int p3]) (rest := []) (ws' := (wX12 cy a o x10.2)) (q0 := 0) (qX12_put l D cy a o S5 (((102 : Int32) + ((6 : Int32) * p1)) + p2) p3 (H).size x10 e11) ⟨hx, hb, hml, hown, hts⟩ (cwV 2 hts gX12_setRule_X12_put rfl rfl rfl (by decide +kernel) ⟨Nat.le_of_ble_eq_true rfl, Nat.le_of_ble_eq_true rfl⟩) hG hP hD hS hA (pm1 (X := ([] : va_W)) (c := (wX12 cy a o S5)) (Y := ([] : va_W)) (show (wX12 cy a o S5) = ([] : va_W) ++ ((wX12 cy a o S5) ++ ([] : va_W)) from by simp only [List.append_assoc, List.nil_append, List.append_nil] <;> rfl)) (pm1 (X := ([] : va_W)) (c := (wX12 cy a o x10.2)) (Y := ([] : va_W)) (show (wX12 cy a o x10.2) = ([] : va_W) ++ ((wX12 cy a o x10.2) ++ ([] : va_W)) from by simp only [List.append_assoc, List.nil_append, List.append_nil] <;> rfl)) rfl rfl rfl hl.1 rfl (Nat.le_of_ble_eq_true rfl) dX12_setRule_63 ⟨Nat.zero_le _, Nat.zero_le _⟩ (fun H locs hP hD hS => ?_)
      exact Jj9 x10.1 x10.2 H locs ls h hP hD hS (lv_sub hl [] rfl)
    · have h := ite_n cc h
      refine lv_iconst (v := (0 : Int32)) hx hb dX12_setRule_48 (by decide) ?_
      refine lv_goto (tgt := 66) hx hb dX12_setRule_49 (by decide) ?_
      exact Jj9 (0 : Int32) S5 H locs ls h hP hD hS (lv_sub hl [] rfl)
  refine lv_if_ne (tgt := 12) hx hb dX12_setRule_5 (by decide) (fun cc => ?_) (fun cc => ?_)
  · have h := ite_n cc h
    refine lv_iload_n hx hb dX12_setRule_12 rfl (lv_at hl 2 rfl) ?_
    refine lv_iload_n hx hb dX12_setRule_13 rfl (lv_at hl 3 rfl) ?_
    obtain ⟨x12, e13, h⟩ := bd_some h
    refine pcS (As := [.int p2, .int p3]) (rest := [.ref (a o)]) (qX12_isRule l D cy  p2 p3 x12 e13) ⟨hx, hb, hml, hown, hts⟩ (va_cwS 2 hts gX12_setRule_X12_isRule rfl rfl rfl (by decide +kernel) ⟨Nat.le_of_ble_eq_true rfl, Nat.le_of_ble_eq_true rfl⟩) hG (hP.sub [] rfl) rfl hl.1 rfl (Nat.le_of_ble_eq_true rfl) dX12_setRule_14 ⟨Nat.zero_le _, Nat.zero_le _⟩ ?_
    refine lv_if_ne (tgt := 24) hx hb dX12_setRule_17 (by decide) (fun cc => ?_) (fun cc => ?_)
    · have h := ite_n cc h
      refine lv_aload_n hx hb dX12_setRule_24 rfl (lv_at hl 0 rfl) ?_
      refine va_get (D := D) (ci := 12) (v := .ref (a (o + 1))) (C := RX12) (T := TX12) (N := 12) hx hb hts hinX12 hown hK hP 0 rfl rfl 0 (by decide) hf7 (fun _ h9 => h9) rfl dX12_setRule_25 ?_
      refine lv_iconst (v := (3 : Int32)) hx hb dX12_setRule_28 (by decide) ?_
      refine r_ald (f := (gX12_m S)) (n := 714) (v := ((gX12_m S) 3)) hx hb hK hP 1 0 rfl rfl (vp_in_nI (n := 3) (N := 714) (by decide) (by decide)) (congrArg (gX12_m S) (nI_clamp (n := 3) (by decide))) dX12_setRule_29 ?_
      refine lv_if_eq (tgt := 37) hx hb dX12_setRule_30 (by decide) (fun cc => ?_) (fun cc => ?_)
      · have h := ite_p cc h
        refine lv_iconst (v := (0 : Int32)) hx hb dX12_setRule_37 (by decide) ?_
        exact Jj4 (0 : Int32) ls h (lv_sub hl [0, 1, 2, 3] rfl)
      · have h := ite_n cc h
        refine lv_iconst (v := (3 : Int32)) hx hb dX12_setRule_33 (by decide) ?_
        refine lv_goto (tgt := 38) hx hb dX12_setRule_34 (by decide) ?_
        exact Jj4 (3 : Int32) ls h (lv_sub hl [0, 1, 2, 3] rfl)
    · have h := ite_p cc h
      refine lv_iconst (v := (2 : Int32)) hx hb dX12_setRule_20 (by decide) ?_
      refine lv_goto (tgt := 38) hx hb dX12_setRule_21 (by decide) ?_
      exact Jj4 (2 : Int32) ls h (lv_sub hl [0, 1, 2, 3] rfl)
  · have h := ite_p cc h
    refine lv_iconst (v := (1 : Int32)) hx hb dX12_setRule_8 (by decide) ?_
    refine lv_goto (tgt := 38) hx hb dX12_setRule_9 (by decide) ?_
    exact Jj4 (1 : Int32) ls h (lv_sub hl [0, 1, 2, 3] rfl)
set_option maxHeartbeats 4000000 in
set_option maxRecDepth 100000 in
theorem qX12_rule (l : Launch) (D : va_G) (cy : Nat → ClassId) (a : Nat → Nat) (o : Nat) (S : SX12) (p1 : Int32) (p2 : Int32) (sz : Nat) (rs : Int32 × SX12) (h : DX12_rule S p1 p2 = some rs) : Met l yX12_rule wsX12_rule ({ frames := 2, cells := 0, slots := 0, locals := 42 } : Room) (mP D cy sz [.ref (a o), .int p1, .int p2] (wX12 cy a o S)) (va_Qi (fun r (u : SX12) => (r, u) = rs) (fun u t => mB D sz (wX12 cy a o S) (wX12 cy a o u) t) (va_A (wX12 cy a o S) sz)) 0 0 (va_A (wX12 cy a o S) sz) := by
  refine Met.ofW (cc := cX12_rule) (maxL := 3) (ret := (some .int)) (by decide) rfl ?_
  intro p e s m args below meth c s₁ B hml hv
  obtain ⟨rfl, hsz, hP, hG, hD0⟩ := hv
  have hx := B.exec
  have hb := B.bytes
  have hr := B.returns
  have hts := atoms_spec (ws := wsX12_rule) B.pre
  have hown : s.vm.findClass RX12 = some m.cls := findClass_of_methodNamed B.named
  have hlocks := B.notSynchronized
  have hK := hG.1
  subst hsz
  have hD := hD0.self (sz := s.heap.size)
  have hA : ∀ q : Nat, s.heap.size ≤ q → (va_A (wX12 cy a o S) s.heap.size) q := fun q h => Or.inr h
  have hS : va_S (va_A (wX12 cy a o S) s.heap.size) s.heap s.heap [] := va_S.rf
  have hinX12 := (by decide +kernel : ∀ w ∈ wsX120, w ∈ wsX12_rule)
  have hf31 := hts (.fieldLink RX12 31 "PianoRoundsModel" "code" "I") (by decide +kernel)
  have hf7 := hts (.fieldLink RX12 7 "PianoRoundsModel" "m" "[I") (by decide +kernel)
  have hl := lv_entry ([.ref (a o), .int p1, .int p2]) (n := 3) (Nat.le_of_ble_eq_true rfl)
  rw [lg_entry_eq]
  generalize (lg_sl ([.ref (a o), .int p1, .int p2]) ++ List.replicate (3 - (lg_sl ([.ref (a o), .int p1, .int p2])).length) Slot.unset).toArray = ls at hl ⊢
  have hl : lv_has ls 3 [(0, .ref (a o)), (1, .int p1), (2, .int p2)] := hl
  rw [DX12_rule] at h
  refine lv_aload_n hx hb dX12_rule_0 rfl (lv_at hl 0 rfl) ?_
  refine lv_iload_n hx hb dX12_rule_1 rfl (lv_at hl 1 rfl) ?_
  obtain ⟨x1, e2, h⟩ := bd_some h
  refine pcS (As := [.int p1]) (rest := [.ref (a o)]) (qX12_isRound l D cy  p1 x1 e2) ⟨hx, hb, hml, hown, hts⟩ (va_cwS 1 hts gX12_rule_X12_isRound rfl rfl rfl (by decide +kernel) ⟨Nat.le_of_ble_eq_true rfl, Nat.le_of_ble_eq_true rfl⟩) hG (hP.sub [] rfl) rfl hl.1 rfl (Nat.le_of_ble_eq_true rfl) dX12_rule_2 ⟨Nat.zero_le _, Nat.zero_le _⟩ ?_
  obtain ⟨j4, hj4, h⟩ := jn_elim h
  have Jj4 : ∀ (x3 : Int32) (ls : Array Slot), j4 x3 = some rs → lv_has ls 3 [(0, .ref (a o)), (1, .int p1), (2, .int p2)] → W p l e (headSpec wsX12_rule ({ frames := 2, cells := 0, slots := 0, locals := 42 } : Room)).room s m ([.ref (a o), .int p1, .int p2] : List Value).toArray below meth c s.heap [] 0 0 (MQ below (va_Qi (fun r (u : SX12) => (r, u) = rs) (fun u t => mB D s.heap.size (wX12 cy a o S) (wX12 cy a o u) t) (va_A (wX12 cy a o S) s.heap.size)) ([.ref (a o), .int p1, .int p2] : List Value).toArray s 0 0 (va_A (wX12 cy a o S) s.heap.size)) (F0 m 26 ls [.int x3, .ref (a o)]) := by
    intro x3 ls h hl
    rw [hj4] at h
    refine va_put (D := D) (ci := 12) (v := .int x3) (ty := .int) (C := RX12) (T := TX12) (N := 12) hx hb hts hinX12 tyX12 tyX12_ok nmX12 hown hK hP hD hS 0 rfl rfl 5 (by decide) hf31 (fun _ h9 => h9) rfl (by decide +kernel) rfl rfl (Nat.le_of_ble_eq_true rfl) dX12_rule_26 (fun H locs hP hD hS => ?_)
    have hP : va_P D vwCl (wX12 cy a o (uX12_code S x3)) H := hP
    have hD : va_D (va_A (wX12 cy a o S) s.heap.size) (wX12 cy a o (uX12_code S x3)) := hD
    obtain ⟨S5, eS6, h⟩ := lt_elim h
    have hP : va_P D vwCl (wX12 cy a o S5) H := by rw [eS6]; exact hP
    have hD : va_D (va_A (wX12 cy a o S) s.heap.size) (wX12 cy a o S5) := by rw [eS6]; exact hD
    refine lv_aload_n hx hb dX12_rule_29 rfl (lv_at hl 0 rfl) ?_
    refine va_get (D := D) (ci := 12) (v := .int (gX12_code S5)) (C := RX12) (T := TX12) (N := 12) hx hb hts hinX12 hown hK hP 0 rfl rfl 5 (by decide) hf31 (fun _ h9 => h9) rfl dX12_rule_30 ?_
    obtain ⟨j8, hj8, h⟩ := jn_elim h
    have Jj8 : ∀ (x7 : Int32) (ls : Array Slot), j8 x7 = some rs → lv_has ls 3 [] → W p l e (headSpec wsX12_rule ({ frames := 2, cells := 0, slots := 0, locals := 42 } : Room)).room s m ([.ref (a o), .int p1, .int p2] : List Value).toArray below meth c H locs 0 0 (MQ below (va_Qi (fun r (u : SX12) => (r, u) = rs) (fun u t => mB D s.heap.size (wX12 cy a o S) (wX12 cy a o u) t) (va_A (wX12 cy a o S) s.heap.size)) ([.ref (a o), .int p1, .int p2] : List Value).toArray s 0 0 (va_A (wX12 cy a o S) s.heap.size)) (F0 m 54 ls [.int x7]) := by
      intro x7 ls h hl
      rw [hj8] at h
      exact W.iret (v := x7) hx hb hr (fun t ht hW => ⟨⟨x7, S5, rfl, some_in h, by rw [ht]; exact hP, hD⟩, hS.F ht⟩) hS.2.2 dX12_rule_54
    refine lv_if_eq (tgt := 40) hx hb dX12_rule_33 (by decide) (fun cc => ?_) (fun cc => ?_)
    · have h := ite_p cc h
      refine lv_aload_n hx hb dX12_rule_40 rfl (lv_at hl 0 rfl) ?_
      refine va_get (D := D) (ci := 12) (v := .ref (a (o + 1))) (C := RX12) (T := TX12) (N := 12) hx hb hts hinX12 hown hK hP 0 rfl rfl 0 (by decide) hf7 (fun _ h9 => h9) rfl dX12_rule_41 ?_
      refine lv_bipush (v := (102 : Int32)) hx hb dX12_rule_44 (by decide) ?_
      refine lv_bipush (v := (6 : Int32)) hx hb dX12_rule_46 (by decide) ?_
      refine lv_iload_n hx hb dX12_rule_48 rfl (lv_at hl 1 rfl) ?_
      refine lv_imul hx hb dX12_rule_49 ?_
      refine lv_iadd hx hb dX12_rule_50 ?_
      refine lv_iload_n hx hb dX12_rule_51 rfl (lv_at hl 2 rfl) ?_
      refine lv_iadd hx hb dX12_rule_52 ?_
      obtain ⟨g9, h⟩ := gd_some h
      refine r_ald (f := (gX12_m S5)) (n := 714) (v := ((gX12_m S5) (((((102 : Int32) + ((6 : Int32) * p1)) + p2)).toNatClampNeg))) hx hb hK hP 1 0 rfl rfl (gIn_in g9) rfl dX12_rule_53 ?_
      exact Jj8 ((gX12_m S5) (((((102 : Int32) + ((6 : Int32) * p1)) + p2)).toNatClampNeg)) ls h (lv_sub hl [] rfl)
    · have h := ite_n cc h
      refine lv_iconst (v := (0 : Int32)) hx hb dX12_rule_36 (by decide) ?_
      refine lv_goto (tgt := 54) hx hb dX12_rule_37 (by decide) ?_
      exact Jj8 (0 : Int32) ls h (lv_sub hl [] rfl)
  refine lv_if_ne (tgt := 12) hx hb dX12_rule_5 (by decide) (fun cc => ?_) (fun cc => ?_)
  · have h := ite_n cc h
    refine lv_iload_n hx hb dX12_rule_12 rfl (lv_at hl 2 rfl) ?_
    refine lv_iconst (v := (0 : Int32)) hx hb dX12_rule_13 (by decide) ?_
    refine lv_iconst (v := (5 : Int32)) hx hb dX12_rule_14 (by decide) ?_
    obtain ⟨x10, e11, h⟩ := bd_some h
    refine pcS (As := [.int p2, .int (0 : Int32), .int (5 : Int32)]) (rest := [.ref (a o)]) (qX12_in l D cy  p2 (0 : Int32) (5 : Int32) x10 e11) ⟨hx, hb, hml, hown, hts⟩ (va_cwS 3 hts gX12_rule_X12_in rfl rfl rfl (by decide +kernel) ⟨Nat.le_of_ble_eq_true rfl, Nat.le_of_ble_eq_true rfl⟩) hG (hP.sub [] rfl) rfl hl.1 rfl (Nat.le_of_ble_eq_true rfl) dX12_rule_15 ⟨Nat.zero_le _, Nat.zero_le _⟩ ?_
    refine lv_if_eq (tgt := 25) hx hb dX12_rule_18 (by decide) (fun cc => ?_) (fun cc => ?_)
    · have h := ite_p cc h
      refine lv_iconst (v := (2 : Int32)) hx hb dX12_rule_25 (by decide) ?_
      exact Jj4 (2 : Int32) ls h (lv_sub hl [0, 1, 2] rfl)
    · have h := ite_n cc h
      refine lv_iconst (v := (0 : Int32)) hx hb dX12_rule_21 (by decide) ?_
      refine lv_goto (tgt := 26) hx hb dX12_rule_22 (by decide) ?_
      exact Jj4 (0 : Int32) ls h (lv_sub hl [0, 1, 2] rfl)
  · have h := ite_p cc h
    refine lv_iconst (v := (1 : Int32)) hx hb dX12_rule_8 (by decide) ?_
    refine lv_goto (tgt := 26) hx hb dX12_rule_9 (by decide) ?_
    exact Jj4 (1 : Int32) ls h (lv_sub hl [0, 1, 2] rfl)
set_option maxHeartbeats 4000000 in
set_option maxRecDepth 100000 in
theorem qX12_programAt (l : Launch) (D : va_G) (cy : Nat → ClassId)   (p0 : Int32) (p1 : Int32) (rs : Int32) (h : DX12_programAt p0 p1 = some rs) : Met l yX12_programAt wsX12_programAt ({ frames := 0, cells := 0, slots := 0, locals := 0 } : Room) (va_Pc [.int p0, .int p1] (fun U => va_P D vwCl ([] : va_W) U.heap ∧ gK D cy U)) (vp_Si (fun z => z = rs)) 0 0 (fun _ => False) := by
  refine Met.ofW (cc := cX12_programAt) (maxL := 2) (ret := (some .int)) (by decide) rfl ?_
  intro p e s m args below meth c s₁ B hml hv
  obtain ⟨rfl, hP, hG⟩ := hv
  have hx := B.exec
  have hb := B.bytes
  have hr := B.returns
  have hts := atoms_spec (ws := wsX12_programAt) B.pre
  have hown : s.vm.findClass RX12 = some m.cls := findClass_of_methodNamed B.named
  have hlocks := B.notSynchronized
  have hK := hG.1
  have hl := lv_entry ([.int p0, .int p1]) (n := 2) (Nat.le_of_ble_eq_true rfl)
  rw [lg_entry_eq]
  generalize (lg_sl ([.int p0, .int p1]) ++ List.replicate (2 - (lg_sl ([.int p0, .int p1])).length) Slot.unset).toArray = ls at hl ⊢
  have hl : lv_has ls 2 [(0, .int p0), (1, .int p1)] := hl
  rw [DX12_programAt] at h
  refine lv_sipush (v := (138 : Int32)) hx hb dX12_programAt_0 (by decide) ?_
  refine lv_iconst (v := (5 : Int32)) hx hb dX12_programAt_3 (by decide) ?_
  refine lv_iconst (v := (4 : Int32)) hx hb dX12_programAt_4 (by decide) ?_
  refine lv_iload_n hx hb dX12_programAt_5 rfl (lv_at hl 0 rfl) ?_
  refine lv_imul hx hb dX12_programAt_6 ?_
  refine lv_iload_n hx hb dX12_programAt_7 rfl (lv_at hl 1 rfl) ?_
  refine lv_iadd hx hb dX12_programAt_8 ?_
  refine lv_imul hx hb dX12_programAt_9 ?_
  refine lv_iadd hx hb dX12_programAt_10 ?_
  exact W.iret (v := ((138 : Int32) + ((5 : Int32) * (((4 : Int32) * p0) + p1)))) hx hb hr (fun t ht hW => ⟨((138 : Int32) + ((5 : Int32) * (((4 : Int32) * p0) + p1))), rfl, some_in h, ht⟩) (fun q hq => nomatch hq) dX12_programAt_11
set_option maxHeartbeats 4000000 in
set_option maxRecDepth 100000 in
theorem qX12_here (l : Launch) (D : va_G) (cy : Nat → ClassId) (a : Nat → Nat) (o : Nat) (S : SX12)  (rs : Int32) (h : DX12_here S = some rs) : Met l yX12_here wsX12_here ({ frames := 0, cells := 0, slots := 0, locals := 0 } : Room) (va_Pc [.ref (a o)] (fun U => va_P D vwCl (wX12 cy a o S) U.heap ∧ gK D cy U)) (vp_Si (fun z => z = rs)) 0 0 (fun _ => False) := by
  refine Met.ofW (cc := cX12_here) (maxL := 1) (ret := (some .int)) (by decide) rfl ?_
  intro p e s m args below meth c s₁ B hml hv
  obtain ⟨rfl, hP, hG⟩ := hv
  have hx := B.exec
  have hb := B.bytes
  have hr := B.returns
  have hts := atoms_spec (ws := wsX12_here) B.pre
  have hown : s.vm.findClass RX12 = some m.cls := findClass_of_methodNamed B.named
  have hlocks := B.notSynchronized
  have hK := hG.1
  have hinX12 := (by decide +kernel : ∀ w ∈ wsX120, w ∈ wsX12_here)
  have hf179 := hts (.fieldLink RX12 179 "PianoRoundsModel" "at" "I") (by decide +kernel)
  have hf176 := hts (.fieldLink RX12 176 "PianoRoundsModel" "textLength" "I") (by decide +kernel)
  have hf16 := hts (.fieldLink RX12 16 "PianoRoundsModel" "text" "[I") (by decide +kernel)
  have hl := lv_entry ([.ref (a o)]) (n := 1) (Nat.le_of_ble_eq_true rfl)
  rw [lg_entry_eq]
  generalize (lg_sl ([.ref (a o)]) ++ List.replicate (1 - (lg_sl ([.ref (a o)])).length) Slot.unset).toArray = ls at hl ⊢
  have hl : lv_has ls 1 [(0, .ref (a o))] := hl
  rw [DX12_here] at h
  refine lv_aload_n hx hb dX12_here_0 rfl (lv_at hl 0 rfl) ?_
  refine va_get (D := D) (ci := 12) (v := .int (gX12_at S)) (C := RX12) (T := TX12) (N := 12) hx hb hts hinX12 hown hK hP 0 rfl rfl 10 (by decide) hf179 (fun _ h9 => h9) rfl dX12_here_1 ?_
  refine lv_aload_n hx hb dX12_here_4 rfl (lv_at hl 0 rfl) ?_
  refine va_get (D := D) (ci := 12) (v := .int (gX12_textLength S)) (C := RX12) (T := TX12) (N := 12) hx hb hts hinX12 hown hK hP 0 rfl rfl 4 (by decide) hf176 (fun _ h9 => h9) rfl dX12_here_5 ?_
  obtain ⟨j2, hj2, h⟩ := jn_elim h
  have Jj2 : ∀ (x1 : Int32) (ls : Array Slot), j2 x1 = some rs → lv_has ls 1 [] → W p l e (headSpec wsX12_here ({ frames := 0, cells := 0, slots := 0, locals := 0 } : Room)).room s m ([.ref (a o)] : List Value).toArray below meth c s.heap [] 0 0 (MQ below (vp_Si (fun z => z = rs)) ([.ref (a o)] : List Value).toArray s 0 0 (fun _ => False)) (F0 m 24 ls [.int x1]) := by
    intro x1 ls h hl
    rw [hj2] at h
    exact W.iret (v := x1) hx hb hr (fun t ht hW => ⟨x1, rfl, some_in h, ht⟩) (fun q hq => nomatch hq) dX12_here_24
  refine lv_icmp_ge (tgt := 23) hx hb dX12_here_8 (by decide) (fun cc => ?_) (fun cc => ?_)
  · have h := ite_p cc h
    refine lv_iconst (v := (-1 : Int32)) hx hb dX12_here_23 (by decide) ?_
    exact Jj2 (-1 : Int32) ls h (lv_sub hl [] rfl)
  · have h := ite_n cc h
    refine lv_aload_n hx hb dX12_here_11 rfl (lv_at hl 0 rfl) ?_
    refine va_get (D := D) (ci := 12) (v := .ref (a (o + 3))) (C := RX12) (T := TX12) (N := 12) hx hb hts hinX12 hown hK hP 0 rfl rfl 3 (by decide) hf16 (fun _ h9 => h9) rfl dX12_here_12 ?_
    refine lv_aload_n hx hb dX12_here_15 rfl (lv_at hl 0 rfl) ?_
    refine va_get (D := D) (ci := 12) (v := .int (gX12_at S)) (C := RX12) (T := TX12) (N := 12) hx hb hts hinX12 hown hK hP 0 rfl rfl 10 (by decide) hf179 (fun _ h9 => h9) rfl dX12_here_16 ?_
    obtain ⟨g3, h⟩ := gd_some h
    refine r_ald (f := (gX12_text S)) (n := 40) (v := ((gX12_text S) (((gX12_at S)).toNatClampNeg))) hx hb hK hP 3 0 rfl rfl (gIn_in g3) rfl dX12_here_19 ?_
    refine lv_goto (tgt := 24) hx hb dX12_here_20 (by decide) ?_
    exact Jj2 ((gX12_text S) (((gX12_at S)).toNatClampNeg)) ls h (lv_sub hl [] rfl)
