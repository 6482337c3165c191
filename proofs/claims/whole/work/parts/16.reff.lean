set_option maxHeartbeats 4000000 in
set_option maxRecDepth 100000 in
theorem qX12_neededMark (l : Launch) (D : va_G) (cy : Nat → ClassId) (a : Nat → Nat) (o : Nat) (S : SX12) (p1 : Int32) (p2 : Int32) (p3 : Int32) (sz : Nat) (rs : Int32 × SX12) (h : DX12_neededMark S p1 p2 p3 = some rs) : Met l yX12_neededMark wsX12_neededMark ({ frames := 5, cells := 0, slots := 0, locals := 118 } : Room) (mP D cy sz [.ref (a o), .int p1, .int p2, .int p3] (wX12 cy a o S)) (va_Qi (fun r (u : SX12) => (r, u) = rs) (fun u t => mB D sz (wX12 cy a o S) (wX12 cy a o u) t) (va_A (wX12 cy a o S) sz)) 0 0 (va_A (wX12 cy a o S) sz) := by
  refine Met.ofW (cc := cX12_neededMark) (maxL := 8) (ret := (some .int)) (by decide) rfl ?_
  intro p e s m args below meth c s₁ B hml hv
  obtain ⟨rfl, hsz, hP, hG, hD0⟩ := hv
  have hx := B.exec
  have hb := B.bytes
  have hr := B.returns
  have hts := atoms_spec (ws := wsX12_neededMark) B.pre
  have hown : s.vm.findClass RX12 = some m.cls := findClass_of_methodNamed B.named
  have hlocks := B.notSynchronized
  have hK := hG.1
  subst hsz
  have hD := hD0.self (sz := s.heap.size)
  have hA : ∀ q : Nat, s.heap.size ≤ q → (va_A (wX12 cy a o S) s.heap.size) q := fun q h => Or.inr h
  have hS : va_S (va_A (wX12 cy a o S) s.heap.size) s.heap s.heap [] := va_S.rf
  have hinX12 := (by decide +kernel : ∀ w ∈ wsX120, w ∈ wsX12_neededMark)
  have hf31 := hts (.fieldLink RX12 31 "PianoRoundsModel" "code" "I") (by decide +kernel)
  have hf7 := hts (.fieldLink RX12 7 "PianoRoundsModel" "m" "[I") (by decide +kernel)
  have hl := lv_entry ([.ref (a o), .int p1, .int p2, .int p3]) (n := 8) (Nat.le_of_ble_eq_true rfl)
  rw [lg_entry_eq]
  generalize (lg_sl ([.ref (a o), .int p1, .int p2, .int p3]) ++ List.replicate (8 - (lg_sl ([.ref (a o), .int p1, .int p2, .int p3])).length) Slot.unset).toArray = ls at hl ⊢
  have hl : lv_has ls 8 [(0, .ref (a o)), (1, .int p1), (2, .int p2), (3, .int p3)] := hl
  rw [DX12_neededMark] at h
  refine lv_aload_n hx hb dX12_neededMark_0 rfl (lv_at hl 0 rfl) ?_
  refine lv_aload_n hx hb dX12_neededMark_1 rfl (lv_at hl 0 rfl) ?_
  refine lv_iload_n hx hb dX12_neededMark_2 rfl (lv_at hl 1 rfl) ?_
  obtain ⟨x1, e2, h⟩ := bd_some h
  refine pcV (As := [.int p1]) (rest := [.ref (a o)]) (q0 := 0) (qX12_isJuror l D cy a o S p1 x1 e2) ⟨hx, hb, hml, hown, hts⟩ (cwV 1 hts gX12_neededMark_X12_isJuror rfl rfl rfl (by decide +kernel) ⟨Nat.le_of_ble_eq_true rfl, Nat.le_of_ble_eq_true rfl⟩) hG hP rfl rfl rfl hl.1 rfl (Nat.le_of_ble_eq_true rfl) dX12_neededMark_3 ⟨Nat.zero_le _, Nat.zero_le _⟩ ?_
  obtain ⟨j4, hj4, h⟩ := jn_elim h
  have Jj4 : ∀ (x3 : Int32) (ls : Array Slot), j4 x3 = some rs → lv_has ls 8 [(0, .ref (a o)), (1, .int p1), (2, .int p2), (3, .int p3)] → W p l e (headSpec wsX12_neededMark ({ frames := 5, cells := 0, slots := 0, locals := 118 } : Room)).room s m ([.ref (a o), .int p1, .int p2, .int p3] : List Value).toArray below meth c s.heap [] 0 0 (MQ below (va_Qi (fun r (u : SX12) => (r, u) = rs) (fun u t => mB D s.heap.size (wX12 cy a o S) (wX12 cy a o u) t) (va_A (wX12 cy a o S) s.heap.size)) ([.ref (a o), .int p1, .int p2, .int p3] : List Value).toArray s 0 0 (va_A (wX12 cy a o S) s.heap.size)) (F0 m 59 ls [.int x3, .ref (a o)]) := by
    intro x3 ls h hl
    rw [hj4] at h
    refine va_put (D := D) (ci := 12) (v := .int x3) (ty := .int) (C := RX12) (T := TX12) (N := 12) hx hb hts hinX12 tyX12 tyX12_ok nmX12 hown hK hP hD hS 0 rfl rfl 5 (by decide) hf31 (fun _ h9 => h9) rfl (by decide +kernel) rfl rfl (Nat.le_of_ble_eq_true rfl) dX12_neededMark_59 (fun H locs hP hD hS => ?_)
    have hP : va_P D vwCl (wX12 cy a o (uX12_code S x3)) H := hP
    have hD : va_D (va_A (wX12 cy a o S) s.heap.size) (wX12 cy a o (uX12_code S x3)) := hD
    obtain ⟨S5, eS6, h⟩ := lt_elim h
    have hP : va_P D vwCl (wX12 cy a o S5) H := by rw [eS6]; exact hP
    have hD : va_D (va_A (wX12 cy a o S) s.heap.size) (wX12 cy a o S5) := by rw [eS6]; exact hD
    refine lv_aload_n hx hb dX12_neededMark_62 rfl (lv_at hl 0 rfl) ?_
    refine va_get (D := D) (ci := 12) (v := .int (gX12_code S5)) (C := RX12) (T := TX12) (N := 12) hx hb hts hinX12 hown hK hP 0 rfl rfl 5 (by decide) hf31 (fun _ h9 => h9) rfl dX12_neededMark_63 ?_
    refine lv_if_eq (tgt := 71) hx hb dX12_neededMark_66 (by decide) (fun cc => ?_) (fun cc => ?_)
    · have h := ite_p cc h
      refine lv_sipush (v := (486 : Int32)) hx hb dX12_neededMark_71 (by decide) ?_
      refine lv_iload_n hx hb dX12_neededMark_74 rfl (lv_at hl 1 rfl) ?_
      refine lv_iload_n hx hb dX12_neededMark_75 rfl (lv_at hl 2 rfl) ?_
      obtain ⟨x7, e8, h⟩ := bd_some h
      refine pcS (As := [.int p1, .int p2]) (rest := [.int (486 : Int32)]) (qX12_seat l D cy  p1 p2 x7 e8) ⟨hx, hb, hml, hown, hts⟩ (va_cwS 2 hts gX12_neededMark_X12_seat rfl rfl rfl (by decide +kernel) ⟨Nat.le_of_ble_eq_true rfl, Nat.le_of_ble_eq_true rfl⟩) hG (hP.sub [] rfl) rfl hl.1 rfl (Nat.le_of_ble_eq_true rfl) dX12_neededMark_76 ⟨Nat.zero_le _, Nat.zero_le _⟩ ?_
      refine lv_iadd hx hb dX12_neededMark_79 ?_
      refine lv_istore (lv' := [(4, .int ((486 : Int32) + x7)), (0, .ref (a o)), (1, .int p1), (2, .int p2), (3, .int p3)]) hx hb dX12_neededMark_80 hl (by decide) rfl (fun ls hl => ?_)
      refine lv_aload_n hx hb dX12_neededMark_82 rfl (lv_at hl 1 rfl) ?_
      refine va_get (D := D) (ci := 12) (v := .ref (a (o + 1))) (C := RX12) (T := TX12) (N := 12) hx hb hts hinX12 hown hK hP 0 rfl rfl 0 (by decide) hf7 (fun _ h9 => h9) rfl dX12_neededMark_83 ?_
      refine lv_iload hx hb dX12_neededMark_86 (lv_at hl 0 rfl) ?_
      obtain ⟨g9, h⟩ := gd_some h
      refine r_ald (f := (gX12_m S5)) (n := 714) (v := ((gX12_m S5) ((((486 : Int32) + x7)).toNatClampNeg))) hx hb hK hP 1 0 rfl rfl (gIn_in g9) rfl dX12_neededMark_88 ?_
      refine lv_istore (lv' := [(5, .int ((gX12_m S5) ((((486 : Int32) + x7)).toNatClampNeg))), (4, .int ((486 : Int32) + x7)), (0, .ref (a o)), (1, .int p1), (2, .int p2), (3, .int p3)]) hx hb dX12_neededMark_89 hl (by decide) rfl (fun ls hl => ?_)
      refine lv_iconst (v := (-1 : Int32)) hx hb dX12_neededMark_91 (by decide) ?_
      refine lv_istore (lv' := [(6, .int (-1 : Int32)), (5, .int ((gX12_m S5) ((((486 : Int32) + x7)).toNatClampNeg))), (4, .int ((486 : Int32) + x7)), (0, .ref (a o)), (1, .int p1), (2, .int p2), (3, .int p3)]) hx hb dX12_neededMark_92 hl (by decide) rfl (fun ls hl => ?_)
      refine lv_bipush (v := (100 : Int32)) hx hb dX12_neededMark_94 (by decide) ?_
      refine lv_istore (lv' := [(7, .int (100 : Int32)), (6, .int (-1 : Int32)), (5, .int ((gX12_m S5) ((((486 : Int32) + x7)).toNatClampNeg))), (4, .int ((486 : Int32) + x7)), (0, .ref (a o)), (1, .int p1), (2, .int p2), (3, .int p3)]) hx hb dX12_neededMark_96 hl (by decide) rfl (fun ls hl => ?_)
      have L32 : ∀ (c2_10 : Int32) (c3_11 : Int32) (c4_12 : Int32) (c5_13 : Int32) (k15 : Int32 → SX12 → Option (Int32 × SX12)) (hk15 : ∀ (v6_16 : Int32) (S17 : SX12) (H : Heap) (locs : List Loc) (ls : Array Slot), k15 v6_16 S17 = some rs → va_P D vwCl (wX12 cy a o S17) H → va_D (va_A (wX12 cy a o S) s.heap.size) (wX12 cy a o S17) → va_S (va_A (wX12 cy a o S) s.heap.size) s.heap H locs → lv_has ls 8 [(0, .ref (a o)), (4, .int c4_12), (5, .int c5_13), (6, .int v6_16)] → W p l e (headSpec wsX12_neededMark ({ frames := 5, cells := 0, slots := 0, locals := 118 } : Room)).room s m ([.ref (a o), .int p1, .int p2, .int p3] : List Value).toArray below meth c H locs 0 0 (MQ below (va_Qi (fun r (u : SX12) => (r, u) = rs) (fun u t => mB D s.heap.size (wX12 cy a o S) (wX12 cy a o u) t) (va_A (wX12 cy a o S) s.heap.size)) ([.ref (a o), .int p1, .int p2, .int p3] : List Value).toArray s 0 0 (va_A (wX12 cy a o S) s.heap.size)) (F0 m 136 ls [])) (f : Nat) (v6_23 : Int32) (v7_24 : Int32) (S14 : SX12) (H : Heap) (locs : List Loc) (ls : Array Slot), DX12_neededMark_L98 c2_10 c3_11 c4_12 c5_13 k15 f v6_23 v7_24 S14 = some rs → va_P D vwCl (wX12 cy a o S14) H → va_D (va_A (wX12 cy a o S) s.heap.size) (wX12 cy a o S14) → va_S (va_A (wX12 cy a o S) s.heap.size) s.heap H locs → lv_has ls 8 [(0, .ref (a o)), (2, .int c2_10), (3, .int c3_11), (4, .int c4_12), (5, .int c5_13), (6, .int v6_23), (7, .int v7_24)] → W p l e (headSpec wsX12_neededMark ({ frames := 5, cells := 0, slots := 0, locals := 118 } : Room)).room s m ([.ref (a o), .int p1, .int p2, .int p3] : List Value).toArray below meth c H locs 0 0 (MQ below (va_Qi (fun r (u : SX12) => (r, u) = rs) (fun u t => mB D s.heap.size (wX12 cy a o S) (wX12 cy a o u) t) (va_A (wX12 cy a o S) s.heap.size)) ([.ref (a o), .int p1, .int p2, .int p3] : List Value).toArray s 0 0 (va_A (wX12 cy a o S) s.heap.size)) (F0 m 98 ls []) := by
        intro c2_10 c3_11 c4_12 c5_13 k15 hk15 f
        induction f with
        | zero =>
          intro v6_23 v7_24 S14 H locs ls h hP hD hS hl
          rw [DX12_neededMark_L98] at h
          cases h
        | succ f ih =>
          intro v6_23 v7_24 S14 H locs ls h hP hD hS hl
          rw [DX12_neededMark_L98] at h
          refine lv_iload hx hb dX12_neededMark_98 (lv_at hl 6 rfl) ?_
          refine lv_if_lt (tgt := 136) hx hb dX12_neededMark_100 (by decide) (fun cc => ?_) (fun cc => ?_)
          · have h := ite_p cc h
            exact hk15 v6_23 S14 H locs ls h hP hD hS (lv_sub hl [0, 3, 4, 5] rfl)
          · have h := ite_n cc h
            refine lv_aload_n hx hb dX12_neededMark_103 rfl (lv_at hl 0 rfl) ?_
            refine va_get (D := D) (ci := 12) (v := .ref (a (o + 1))) (C := RX12) (T := TX12) (N := 12) hx hb hts hinX12 hown hK hP 0 rfl rfl 0 (by decide) hf7 (fun _ h9 => h9) rfl dX12_neededMark_104 ?_
            refine lv_iload hx hb dX12_neededMark_107 (lv_at hl 3 rfl) ?_
            refine lv_iload hx hb dX12_neededMark_109 (lv_at hl 6 rfl) ?_
            obtain ⟨g25, h⟩ := gd_some h
            refine r_ast (f := (gX12_m S14)) (f' := (upd (gX12_m S14) ((c4_12).toNatClampNeg) v7_24)) (n := 714) (ws' := (wX12 cy a o (uX12_m S14 (upd (gX12_m S14) ((c4_12).toNatClampNeg) v7_24)))) hx hb hK hP hD hS 1 0 rfl rfl (gIn_in g25) rfl rfl dX12_neededMark_111 (fun H locs hP hD hS => ?_)
            obtain ⟨S26, eS27, h⟩ := lt_elim h
            have hP : va_P D vwCl (wX12 cy a o S26) H := by rw [eS27]; exact hP
            have hD : va_D (va_A (wX12 cy a o S) s.heap.size) (wX12 cy a o S26) := by rw [eS27]; exact hD
            refine lv_aload_n hx hb dX12_neededMark_112 rfl (lv_at hl 0 rfl) ?_
            refine lv_iload_n hx hb dX12_neededMark_113 rfl (lv_at hl 1 rfl) ?_
            obtain ⟨x28, e29, h⟩ := bd_some h
            refine pcV (As := [.int c2_10]) (rest := []) (q0 := 0) (qX12_scoreOf l D cy a o S26 c2_10 x28 e29) ⟨hx, hb, hml, hown, hts⟩ (cwV 1 hts gX12_neededMark_X12_scoreOf rfl rfl rfl (by decide +kernel) ⟨Nat.le_of_ble_eq_true rfl, Nat.le_of_ble_eq_true rfl⟩) hG hP rfl rfl rfl hl.1 rfl (Nat.le_of_ble_eq_true rfl) dX12_neededMark_114 ⟨Nat.zero_le _, Nat.zero_le _⟩ ?_
            refine lv_iload_n hx hb dX12_neededMark_117 rfl (lv_at hl 2 rfl) ?_
            obtain ⟨j31, hj31, h⟩ := jn_elim h
            have Jj31 : ∀ (x30 : Int32) (ls : Array Slot), j31 x30 = some rs → lv_has ls 8 [(0, .ref (a o)), (2, .int c2_10), (3, .int c3_11), (4, .int c4_12), (5, .int c5_13), (7, .int v7_24)] → W p l e (headSpec wsX12_neededMark ({ frames := 5, cells := 0, slots := 0, locals := 118 } : Room)).room s m ([.ref (a o), .int p1, .int p2, .int p3] : List Value).toArray below meth c H locs 0 0 (MQ below (va_Qi (fun r (u : SX12) => (r, u) = rs) (fun u t => mB D s.heap.size (wX12 cy a o S) (wX12 cy a o u) t) (va_A (wX12 cy a o S) s.heap.size)) ([.ref (a o), .int p1, .int p2, .int p3] : List Value).toArray s 0 0 (va_A (wX12 cy a o S) s.heap.size)) (F0 m 128 ls [.int x30]) := by
              intro x30 ls h hl
              rw [hj31] at h
              refine lv_istore (lv' := [(6, .int x30), (0, .ref (a o)), (2, .int c2_10), (3, .int c3_11), (4, .int c4_12), (5, .int c5_13), (7, .int v7_24)]) hx hb dX12_neededMark_128 hl (by decide) rfl (fun ls hl => ?_)
              refine lv_iinc (v := (v7_24 + (-1 : Int32))) (lv' := [(7, .int (v7_24 + (-1 : Int32))), (6, .int x30), (0, .ref (a o)), (2, .int c2_10), (3, .int c3_11), (4, .int c4_12), (5, .int c5_13)]) hx hb dX12_neededMark_130 hl (k := 6) rfl (by rfl) (by decide) rfl (fun ls hl => ?_)
              refine lv_goto (tgt := 98) hx hb dX12_neededMark_133 (by decide) ?_
              exact ih x30 (v7_24 + (-1 : Int32)) S26 H locs ls h hP hD hS (lv_sub hl [2, 3, 4, 5, 6, 1, 0] rfl)
            refine lv_icmp_lt (tgt := 126) hx hb dX12_neededMark_118 (by decide) (fun cc => ?_) (fun cc => ?_)
            · have h := ite_p cc h
              refine lv_iload hx hb dX12_neededMark_126 (lv_at hl 5 rfl) ?_
              exact Jj31 v6_23 ls h (lv_sub hl [0, 1, 2, 3, 4, 6] rfl)
            · have h := ite_n cc h
              refine lv_iload hx hb dX12_neededMark_121 (lv_at hl 6 rfl) ?_
              refine lv_goto (tgt := 128) hx hb dX12_neededMark_123 (by decide) ?_
              exact Jj31 v7_24 ls h (lv_sub hl [0, 1, 2, 3, 4, 6] rfl)
      refine L32 p2 p3 ((486 : Int32) + x7) ((gX12_m S5) ((((486 : Int32) + x7)).toNatClampNeg)) _ ?_ fu (-1 : Int32) (100 : Int32) S5 H locs ls h hP hD hS (lv_sub hl [4, 6, 7, 3, 2, 1, 0] rfl)
      intro v6_18 S19 H locs ls h hP hD hS hl
      refine lv_aload_n hx hb dX12_neededMark_136 rfl (lv_at hl 0 rfl) ?_
      refine va_get (D := D) (ci := 12) (v := .ref (a (o + 1))) (C := RX12) (T := TX12) (N := 12) hx hb hts hinX12 hown hK hP 0 rfl rfl 0 (by decide) hf7 (fun _ h9 => h9) rfl dX12_neededMark_137 ?_
      refine lv_iload hx hb dX12_neededMark_140 (lv_at hl 1 rfl) ?_
      refine lv_iload hx hb dX12_neededMark_142 (lv_at hl 2 rfl) ?_
      obtain ⟨g20, h⟩ := gd_some h
      refine r_ast (f := (gX12_m S19)) (f' := (upd (gX12_m S19) ((((486 : Int32) + x7)).toNatClampNeg) ((gX12_m S5) ((((486 : Int32) + x7)).toNatClampNeg)))) (n := 714) (ws' := (wX12 cy a o (uX12_m S19 (upd (gX12_m S19) ((((486 : Int32) + x7)).toNatClampNeg) ((gX12_m S5) ((((486 : Int32) + x7)).toNatClampNeg)))))) hx hb hK hP hD hS 1 0 rfl rfl (gIn_in g20) rfl rfl dX12_neededMark_144 (fun H locs hP hD hS => ?_)
      obtain ⟨S21, eS22, h⟩ := lt_elim h
      have hP : va_P D vwCl (wX12 cy a o S21) H := by rw [eS22]; exact hP
      have hD : va_D (va_A (wX12 cy a o S) s.heap.size) (wX12 cy a o S21) := by rw [eS22]; exact hD
      refine lv_iload hx hb dX12_neededMark_145 (lv_at hl 3 rfl) ?_
      exact W.iret (v := v6_18) hx hb hr (fun t ht hW => ⟨⟨v6_18, S21, rfl, some_in h, by rw [ht]; exact hP, hD⟩, hS.F ht⟩) hS.2.2 dX12_neededMark_147
    · have h := ite_n cc h
      refine lv_iconst (v := (0 : Int32)) hx hb dX12_neededMark_69 (by decide) ?_
      exact W.iret (v := (0 : Int32)) hx hb hr (fun t ht hW => ⟨⟨(0 : Int32), S5, rfl, some_in h, by rw [ht]; exact hP, hD⟩, hS.F ht⟩) hS.2.2 dX12_neededMark_70
  obtain ⟨j33, hj33, h⟩ := jn_elim h
  have Jj33 : ∀ (ls : Array Slot), j33 () = some rs → lv_has ls 8 [(0, .ref (a o)), (1, .int p1), (2, .int p2), (3, .int p3)] → W p l e (headSpec wsX12_neededMark ({ frames := 5, cells := 0, slots := 0, locals := 118 } : Room)).room s m ([.ref (a o), .int p1, .int p2, .int p3] : List Value).toArray below meth c s.heap [] 0 0 (MQ below (va_Qi (fun r (u : SX12) => (r, u) = rs) (fun u t => mB D s.heap.size (wX12 cy a o S) (wX12 cy a o u) t) (va_A (wX12 cy a o S) s.heap.size)) ([.ref (a o), .int p1, .int p2, .int p3] : List Value).toArray s 0 0 (va_A (wX12 cy a o S) s.heap.size)) (F0 m 17 ls [.ref (a o)]) := by
    intro ls h hl
    rw [hj33] at h
    refine lv_iconst (v := (1 : Int32)) hx hb dX12_neededMark_17 (by decide) ?_
    refine lv_goto (tgt := 59) hx hb dX12_neededMark_18 (by decide) ?_
    exact Jj4 (1 : Int32) ls h (lv_sub hl [0, 1, 2, 3] rfl)
  refine lv_if_eq (tgt := 17) hx hb dX12_neededMark_6 (by decide) (fun cc => ?_) (fun cc => ?_)
  · have h := ite_p cc h
    exact Jj33  ls h (lv_sub hl [0, 1, 2, 3] rfl)
  · have h := ite_n cc h
    refine lv_aload_n hx hb dX12_neededMark_9 rfl (lv_at hl 0 rfl) ?_
    refine lv_iload_n hx hb dX12_neededMark_10 rfl (lv_at hl 2 rfl) ?_
    obtain ⟨x34, e35, h⟩ := bd_some h
    refine pcV (As := [.int p2]) (rest := [.ref (a o)]) (q0 := 0) (qX12_isEntrant l D cy a o S p2 x34 e35) ⟨hx, hb, hml, hown, hts⟩ (cwV 1 hts gX12_neededMark_X12_isEntrant rfl rfl rfl (by decide +kernel) ⟨Nat.le_of_ble_eq_true rfl, Nat.le_of_ble_eq_true rfl⟩) hG hP rfl rfl rfl hl.1 rfl (Nat.le_of_ble_eq_true rfl) dX12_neededMark_11 ⟨Nat.zero_le _, Nat.zero_le _⟩ ?_
    refine lv_if_ne (tgt := 21) hx hb dX12_neededMark_14 (by decide) (fun cc => ?_) (fun cc => ?_)
    · have h := ite_n cc h
      refine lv_iload_n hx hb dX12_neededMark_21 rfl (lv_at hl 3 rfl) ?_
      refine lv_iconst (v := (0 : Int32)) hx hb dX12_neededMark_22 (by decide) ?_
      refine lv_ldc (v := (100000 : Int32)) hx hb hown (hts (.constant RX12 172 (100000 : Int32)) (by decide +kernel)) dX12_neededMark_23 ?_
      obtain ⟨x36, e37, h⟩ := bd_some h
      refine pcS (As := [.int p3, .int (0 : Int32), .int (100000 : Int32)]) (rest := [.ref (a o)]) (qX12_in l D cy  p3 (0 : Int32) (100000 : Int32) x36 e37) ⟨hx, hb, hml, hown, hts⟩ (va_cwS 3 hts gX12_neededMark_X12_in rfl rfl rfl (by decide +kernel) ⟨Nat.le_of_ble_eq_true rfl, Nat.le_of_ble_eq_true rfl⟩) hG (hP.sub [] rfl) rfl hl.1 rfl (Nat.le_of_ble_eq_true rfl) dX12_neededMark_25 ⟨Nat.zero_le _, Nat.zero_le _⟩ ?_
      refine lv_if_ne (tgt := 35) hx hb dX12_neededMark_28 (by decide) (fun cc => ?_) (fun cc => ?_)
      · have h := ite_n cc h
        refine lv_aload_n hx hb dX12_neededMark_35 rfl (lv_at hl 0 rfl) ?_
        refine va_get (D := D) (ci := 12) (v := .ref (a (o + 1))) (C := RX12) (T := TX12) (N := 12) hx hb hts hinX12 hown hK hP 0 rfl rfl 0 (by decide) hf7 (fun _ h9 => h9) rfl dX12_neededMark_36 ?_
        refine lv_iconst (v := (3 : Int32)) hx hb dX12_neededMark_39 (by decide) ?_
        refine r_ald (f := (gX12_m S)) (n := 714) (v := ((gX12_m S) 3)) hx hb hK hP 1 0 rfl rfl (vp_in_nI (n := 3) (N := 714) (by decide) (by decide)) (congrArg (gX12_m S) (nI_clamp (n := 3) (by decide))) dX12_neededMark_40 ?_
        refine lv_iconst (v := (1 : Int32)) hx hb dX12_neededMark_41 (by decide) ?_
        obtain ⟨j38, hj38, h⟩ := jn_elim h
        have Jj38 : ∀ (ls : Array Slot), j38 () = some rs → lv_has ls 8 [(0, .ref (a o)), (1, .int p1), (2, .int p2), (3, .int p3)] → W p l e (headSpec wsX12_neededMark ({ frames := 5, cells := 0, slots := 0, locals := 118 } : Room)).room s m ([.ref (a o), .int p1, .int p2, .int p3] : List Value).toArray below meth c s.heap [] 0 0 (MQ below (va_Qi (fun r (u : SX12) => (r, u) = rs) (fun u t => mB D s.heap.size (wX12 cy a o S) (wX12 cy a o u) t) (va_A (wX12 cy a o S) s.heap.size)) ([.ref (a o), .int p1, .int p2, .int p3] : List Value).toArray s 0 0 (va_A (wX12 cy a o S) s.heap.size)) (F0 m 58 ls [.ref (a o)]) := by
          intro ls h hl
          rw [hj38] at h
          refine lv_iconst (v := (3 : Int32)) hx hb dX12_neededMark_58 (by decide) ?_
          exact Jj4 (3 : Int32) ls h (lv_sub hl [0, 1, 2, 3] rfl)
        refine lv_icmp_ne (tgt := 58) hx hb dX12_neededMark_42 (by decide) (fun cc => ?_) (fun cc => ?_)
        · have h := ite_n cc h
          exact Jj38  ls h (lv_sub hl [0, 1, 2, 3] rfl)
        · have h := ite_p cc h
          refine lv_aload_n hx hb dX12_neededMark_45 rfl (lv_at hl 0 rfl) ?_
          refine lv_iload_n hx hb dX12_neededMark_46 rfl (lv_at hl 1 rfl) ?_
          refine lv_iload_n hx hb dX12_neededMark_47 rfl (lv_at hl 2 rfl) ?_
          obtain ⟨x39, e40, h⟩ := bd_some h
          refine pcV (As := [.int p1, .int p2]) (rest := [.ref (a o)]) (q0 := 0) (qX12_mayMark l D cy a o S p1 p2 x39 e40) ⟨hx, hb, hml, hown, hts⟩ (cwV 2 hts gX12_neededMark_X12_mayMark rfl rfl rfl (by decide +kernel) ⟨Nat.le_of_ble_eq_true rfl, Nat.le_of_ble_eq_true rfl⟩) hG hP rfl rfl rfl hl.1 rfl (Nat.le_of_ble_eq_true rfl) dX12_neededMark_48 ⟨Nat.zero_le _, Nat.zero_le _⟩ ?_
          refine lv_if_eq (tgt := 58) hx hb dX12_neededMark_51 (by decide) (fun cc => ?_) (fun cc => ?_)
          · have h := ite_p cc h
            exact Jj38  ls h (lv_sub hl [0, 1, 2, 3] rfl)
          · have h := ite_n cc h
            refine lv_iconst (v := (0 : Int32)) hx hb dX12_neededMark_54 (by decide) ?_
            refine lv_goto (tgt := 59) hx hb dX12_neededMark_55 (by decide) ?_
            exact Jj4 (0 : Int32) ls h (lv_sub hl [0, 1, 2, 3] rfl)
      · have h := ite_p cc h
        refine lv_iconst (v := (2 : Int32)) hx hb dX12_neededMark_31 (by decide) ?_
        refine lv_goto (tgt := 59) hx hb dX12_neededMark_32 (by decide) ?_
        exact Jj4 (2 : Int32) ls h (lv_sub hl [0, 1, 2, 3] rfl)
    · have h := ite_p cc h
      exact Jj33  ls h (lv_sub hl [0, 1, 2, 3] rfl)
set_option maxHeartbeats 4000000 in
set_option maxRecDepth 100000 in
theorem qX12_strangest (l : Launch) (D : va_G) (cy : Nat → ClassId) (a : Nat → Nat) (o : Nat) (S : SX12)  (rs : Int32) (h : DX12_strangest S = some rs) : Met l yX12_strangest wsX12_strangest ({ frames := 4, cells := 0, slots := 0, locals := 95 } : Room) (va_Pc [.ref (a o)] (fun U => va_P D vwCl (wX12 cy a o S) U.heap ∧ gK D cy U)) (vp_Si (fun z => z = rs)) 0 0 (fun _ => False) := by
  refine Met.ofW (cc := cX12_strangest) (maxL := 9) (ret := (some .int)) (by decide) rfl ?_
  intro p e s m args below meth c s₁ B hml hv
  obtain ⟨rfl, hP, hG⟩ := hv
  have hx := B.exec
  have hb := B.bytes
  have hr := B.returns
  have hts := atoms_spec (ws := wsX12_strangest) B.pre
  have hown : s.vm.findClass RX12 = some m.cls := findClass_of_methodNamed B.named
  have hlocks := B.notSynchronized
  have hK := hG.1
  have hinX12 := (by decide +kernel : ∀ w ∈ wsX120, w ∈ wsX12_strangest)
  have hf7 := hts (.fieldLink RX12 7 "PianoRoundsModel" "m" "[I") (by decide +kernel)
  have hl := lv_entry ([.ref (a o)]) (n := 9) (Nat.le_of_ble_eq_true rfl)
  rw [lg_entry_eq]
  generalize (lg_sl ([.ref (a o)]) ++ List.replicate (9 - (lg_sl ([.ref (a o)])).length) Slot.unset).toArray = ls at hl ⊢
  have hl : lv_has ls 9 [(0, .ref (a o))] := hl
  rw [DX12_strangest] at h
  refine lv_iconst (v := (-1 : Int32)) hx hb dX12_strangest_0 (by decide) ?_
  refine lv_istore_n (lv' := [(1, .int (-1 : Int32)), (0, .ref (a o))]) hx hb dX12_strangest_1 rfl hl (by decide) rfl (fun ls hl => ?_)
  refine lv_iconst (v := (0 : Int32)) hx hb dX12_strangest_2 (by decide) ?_
  refine lv_istore_n (lv' := [(2, .int (0 : Int32)), (1, .int (-1 : Int32)), (0, .ref (a o))]) hx hb dX12_strangest_3 rfl hl (by decide) rfl (fun ls hl => ?_)
  refine lv_iconst (v := (0 : Int32)) hx hb dX12_strangest_4 (by decide) ?_
  refine lv_istore_n (lv' := [(3, .int (0 : Int32)), (2, .int (0 : Int32)), (1, .int (-1 : Int32)), (0, .ref (a o))]) hx hb dX12_strangest_5 rfl hl (by decide) rfl (fun ls hl => ?_)
  obtain ⟨j2, hj2, h⟩ := jn_elim h
  have Jj2 : ∀ (v1_1 : Int32) (ls : Array Slot), j2 v1_1 = some rs → lv_has ls 9 [(1, .int v1_1)] → W p l e (headSpec wsX12_strangest ({ frames := 4, cells := 0, slots := 0, locals := 95 } : Room)).room s m ([.ref (a o)] : List Value).toArray below meth c s.heap [] 0 0 (MQ below (vp_Si (fun z => z = rs)) ([.ref (a o)] : List Value).toArray s 0 0 (fun _ => False)) (F0 m 199 ls []) := by
    intro v1_1 ls h hl
    rw [hj2] at h
    refine lv_iload_n hx hb dX12_strangest_199 rfl (lv_at hl 0 rfl) ?_
    exact W.iret (v := v1_1) hx hb hr (fun t ht hW => ⟨v1_1, rfl, some_in h, ht⟩) (fun q hq => nomatch hq) dX12_strangest_200
  have L39 : ∀ (k3 : Int32 → Option (Int32)) (hk3 : ∀ (v1_4 : Int32) (ls : Array Slot), k3 v1_4 = some rs → lv_has ls 9 [(1, .int v1_4)] → W p l e (headSpec wsX12_strangest ({ frames := 4, cells := 0, slots := 0, locals := 95 } : Room)).room s m ([.ref (a o)] : List Value).toArray below meth c s.heap [] 0 0 (MQ below (vp_Si (fun z => z = rs)) ([.ref (a o)] : List Value).toArray s 0 0 (fun _ => False)) (F0 m 199 ls [])) (f : Nat) (v1_5 : Int32) (v2_6 : Int32) (v3_7 : Int32) (ls : Array Slot), DX12_strangest_L6 S k3 f v1_5 v2_6 v3_7 = some rs → lv_has ls 9 [(0, .ref (a o)), (1, .int v1_5), (2, .int v2_6), (3, .int v3_7)] → W p l e (headSpec wsX12_strangest ({ frames := 4, cells := 0, slots := 0, locals := 95 } : Room)).room s m ([.ref (a o)] : List Value).toArray below meth c s.heap [] 0 0 (MQ below (vp_Si (fun z => z = rs)) ([.ref (a o)] : List Value).toArray s 0 0 (fun _ => False)) (F0 m 6 ls []) := by
    intro k3 hk3 f
    induction f with
    | zero =>
      intro v1_5 v2_6 v3_7 ls h hl
      rw [DX12_strangest_L6] at h
      cases h
    | succ f ih =>
      intro v1_5 v2_6 v3_7 ls h hl
      rw [DX12_strangest_L6] at h
      refine lv_iload_n hx hb dX12_strangest_6 rfl (lv_at hl 3 rfl) ?_
      refine lv_aload_n hx hb dX12_strangest_7 rfl (lv_at hl 0 rfl) ?_
      refine va_get (D := D) (ci := 12) (v := .ref (a (o + 1))) (C := RX12) (T := TX12) (N := 12) hx hb hts hinX12 hown hK hP 0 rfl rfl 0 (by decide) hf7 (fun _ h9 => h9) rfl dX12_strangest_8 ?_
      refine lv_iconst (v := (0 : Int32)) hx hb dX12_strangest_11 (by decide) ?_
      refine r_ald (f := (gX12_m S)) (n := 714) (v := ((gX12_m S) 0)) hx hb hK hP 1 0 rfl rfl (vp_in_nI (n := 0) (N := 714) (by decide) (by decide)) (congrArg (gX12_m S) (nI_clamp (n := 0) (by decide))) dX12_strangest_12 ?_
      refine lv_icmp_ge (tgt := 199) hx hb dX12_strangest_13 (by decide) (fun cc => ?_) (fun cc => ?_)
      · have h := ite_p cc h
        exact hk3 v1_5 ls h (lv_sub hl [1] rfl)
      · have h := ite_n cc h
        refine lv_aload_n hx hb dX12_strangest_16 rfl (lv_at hl 0 rfl) ?_
        refine va_get (D := D) (ci := 12) (v := .ref (a (o + 1))) (C := RX12) (T := TX12) (N := 12) hx hb hts hinX12 hown hK hP 0 rfl rfl 0 (by decide) hf7 (fun _ h9 => h9) rfl dX12_strangest_17 ?_
        refine lv_iconst (v := (3 : Int32)) hx hb dX12_strangest_20 (by decide) ?_
        refine r_ald (f := (gX12_m S)) (n := 714) (v := ((gX12_m S) 3)) hx hb hK hP 1 0 rfl rfl (vp_in_nI (n := 3) (N := 714) (by decide) (by decide)) (congrArg (gX12_m S) (nI_clamp (n := 3) (by decide))) dX12_strangest_21 ?_
        refine lv_iconst (v := (1 : Int32)) hx hb dX12_strangest_22 (by decide) ?_
        refine lv_icmp_ne (tgt := 199) hx hb dX12_strangest_23 (by decide) (fun cc => ?_) (fun cc => ?_)
        · have h := ite_n cc h
          exact hk3 v1_5 ls h (lv_sub hl [1] rfl)
        · have h := ite_p cc h
          refine lv_iconst (v := (-1 : Int32)) hx hb dX12_strangest_26 (by decide) ?_
          refine lv_istore (lv' := [(4, .int (-1 : Int32)), (0, .ref (a o)), (1, .int v1_5), (2, .int v2_6), (3, .int v3_7)]) hx hb dX12_strangest_27 hl (by decide) rfl (fun ls hl => ?_)
          refine lv_iconst (v := (0 : Int32)) hx hb dX12_strangest_29 (by decide) ?_
          refine lv_istore (lv' := [(5, .int (0 : Int32)), (4, .int (-1 : Int32)), (0, .ref (a o)), (1, .int v1_5), (2, .int v2_6), (3, .int v3_7)]) hx hb dX12_strangest_30 hl (by decide) rfl (fun ls hl => ?_)
          have L38 : ∀ (c1_8 : Int32) (c2_9 : Int32) (c3_10 : Int32) (k11 : Int32 → Option (Int32)) (hk11 : ∀ (v4_12 : Int32) (ls : Array Slot), k11 v4_12 = some rs → lv_has ls 9 [(0, .ref (a o)), (1, .int c1_8), (2, .int c2_9), (3, .int c3_10), (4, .int v4_12)] → W p l e (headSpec wsX12_strangest ({ frames := 4, cells := 0, slots := 0, locals := 95 } : Room)).room s m ([.ref (a o)] : List Value).toArray below meth c s.heap [] 0 0 (MQ below (vp_Si (fun z => z = rs)) ([.ref (a o)] : List Value).toArray s 0 0 (fun _ => False)) (F0 m 146 ls [])) (f : Nat) (v4_22 : Int32) (v5_23 : Int32) (ls : Array Slot), DX12_strangest_L32 S c1_8 c2_9 c3_10 k11 f v4_22 v5_23 = some rs → lv_has ls 9 [(0, .ref (a o)), (1, .int c1_8), (2, .int c2_9), (3, .int c3_10), (4, .int v4_22), (5, .int v5_23)] → W p l e (headSpec wsX12_strangest ({ frames := 4, cells := 0, slots := 0, locals := 95 } : Room)).room s m ([.ref (a o)] : List Value).toArray below meth c s.heap [] 0 0 (MQ below (vp_Si (fun z => z = rs)) ([.ref (a o)] : List Value).toArray s 0 0 (fun _ => False)) (F0 m 32 ls []) := by
            intro c1_8 c2_9 c3_10 k11 hk11 f
            induction f with
            | zero =>
              intro v4_22 v5_23 ls h hl
              rw [DX12_strangest_L32] at h
              cases h
            | succ f ih =>
              intro v4_22 v5_23 ls h hl
              rw [DX12_strangest_L32] at h
              refine lv_iload hx hb dX12_strangest_32 (lv_at hl 5 rfl) ?_
              refine lv_aload_n hx hb dX12_strangest_34 rfl (lv_at hl 0 rfl) ?_
              refine va_get (D := D) (ci := 12) (v := .ref (a (o + 1))) (C := RX12) (T := TX12) (N := 12) hx hb hts hinX12 hown hK hP 0 rfl rfl 0 (by decide) hf7 (fun _ h9 => h9) rfl dX12_strangest_35 ?_
              refine lv_bipush (v := (8 : Int32)) hx hb dX12_strangest_38 (by decide) ?_
              refine r_ald (f := (gX12_m S)) (n := 714) (v := ((gX12_m S) 8)) hx hb hK hP 1 0 rfl rfl (vp_in_nI (n := 8) (N := 714) (by decide) (by decide)) (congrArg (gX12_m S) (nI_clamp (n := 8) (by decide))) dX12_strangest_40 ?_
              refine lv_icmp_ge (tgt := 146) hx hb dX12_strangest_41 (by decide) (fun cc => ?_) (fun cc => ?_)
              · have h := ite_p cc h
                exact hk11 v4_22 ls h (lv_sub hl [0, 1, 2, 3, 4] rfl)
              · have h := ite_n cc h
                refine lv_aload_n hx hb dX12_strangest_44 rfl (lv_at hl 0 rfl) ?_
                refine va_get (D := D) (ci := 12) (v := .ref (a (o + 1))) (C := RX12) (T := TX12) (N := 12) hx hb hts hinX12 hown hK hP 0 rfl rfl 0 (by decide) hf7 (fun _ h9 => h9) rfl dX12_strangest_45 ?_
                refine lv_sipush (v := (462 : Int32)) hx hb dX12_strangest_48 (by decide) ?_
                refine lv_iload hx hb dX12_strangest_51 (lv_at hl 5 rfl) ?_
                refine lv_iadd hx hb dX12_strangest_53 ?_
                obtain ⟨g24, h⟩ := gd_some h
                refine r_ald (f := (gX12_m S)) (n := 714) (v := ((gX12_m S) ((((462 : Int32) + v5_23)).toNatClampNeg))) hx hb hK hP 1 0 rfl rfl (gIn_in g24) rfl dX12_strangest_54 ?_
                refine lv_istore (lv' := [(6, .int ((gX12_m S) ((((462 : Int32) + v5_23)).toNatClampNeg))), (0, .ref (a o)), (1, .int c1_8), (2, .int c2_9), (3, .int c3_10), (4, .int v4_22), (5, .int v5_23)]) hx hb dX12_strangest_55 hl (by decide) rfl (fun ls hl => ?_)
                refine lv_aload_n hx hb dX12_strangest_57 rfl (lv_at hl 1 rfl) ?_
                refine lv_sipush (v := (486 : Int32)) hx hb dX12_strangest_58 (by decide) ?_
                refine lv_iload hx hb dX12_strangest_61 (lv_at hl 0 rfl) ?_
                refine lv_iload_n hx hb dX12_strangest_63 rfl (lv_at hl 4 rfl) ?_
                obtain ⟨x25, e26, h⟩ := bd_some h
                refine pcV (As := [.int (486 : Int32), .int ((gX12_m S) ((((462 : Int32) + v5_23)).toNatClampNeg)), .int c3_10]) (rest := []) (q0 := 0) (qX12_mean l D cy a o S (486 : Int32) ((gX12_m S) ((((462 : Int32) + v5_23)).toNatClampNeg)) c3_10 x25 e26) ⟨hx, hb, hml, hown, hts⟩ (cwV 3 hts gX12_strangest_X12_mean rfl rfl rfl (by decide +kernel) ⟨Nat.le_of_ble_eq_true rfl, Nat.le_of_ble_eq_true rfl⟩) hG hP rfl rfl rfl hl.1 rfl (Nat.le_of_ble_eq_true rfl) dX12_strangest_64 ⟨Nat.zero_le _, Nat.zero_le _⟩ ?_
                refine lv_istore (lv' := [(7, .int x25), (6, .int ((gX12_m S) ((((462 : Int32) + v5_23)).toNatClampNeg))), (0, .ref (a o)), (1, .int c1_8), (2, .int c2_9), (3, .int c3_10), (4, .int v4_22), (5, .int v5_23)]) hx hb dX12_strangest_67 hl (by decide) rfl (fun ls hl => ?_)
                refine lv_aload_n hx hb dX12_strangest_69 rfl (lv_at hl 2 rfl) ?_
                refine lv_sipush (v := (486 : Int32)) hx hb dX12_strangest_70 (by decide) ?_
                refine lv_iload_n hx hb dX12_strangest_73 rfl (lv_at hl 5 rfl) ?_
                refine lv_iload hx hb dX12_strangest_74 (lv_at hl 1 rfl) ?_
                obtain ⟨x27, e28, h⟩ := bd_some h
                refine pcV (As := [.int (486 : Int32), .int c3_10, .int ((gX12_m S) ((((462 : Int32) + v5_23)).toNatClampNeg))]) (rest := []) (q0 := 0) (qX12_counts l D cy a o S (486 : Int32) c3_10 ((gX12_m S) ((((462 : Int32) + v5_23)).toNatClampNeg)) x27 e28) ⟨hx, hb, hml, hown, hts⟩ (cwV 3 hts gX12_strangest_X12_counts rfl rfl rfl (by decide +kernel) ⟨Nat.le_of_ble_eq_true rfl, Nat.le_of_ble_eq_true rfl⟩) hG hP rfl rfl rfl hl.1 rfl (Nat.le_of_ble_eq_true rfl) dX12_strangest_76 ⟨Nat.zero_le _, Nat.zero_le _⟩ ?_
                obtain ⟨j30, hj30, h⟩ := jn_elim h
                have Jj30 : ∀ (v4_29 : Int32) (ls : Array Slot), j30 v4_29 = some rs → lv_has ls 9 [(0, .ref (a o)), (1, .int c1_8), (2, .int c2_9), (3, .int c3_10), (4, .int v4_29), (5, .int v5_23)] → W p l e (headSpec wsX12_strangest ({ frames := 4, cells := 0, slots := 0, locals := 95 } : Room)).room s m ([.ref (a o)] : List Value).toArray below meth c s.heap [] 0 0 (MQ below (vp_Si (fun z => z = rs)) ([.ref (a o)] : List Value).toArray s 0 0 (fun _ => False)) (F0 m 140 ls []) := by
                  intro v4_29 ls h hl
                  rw [hj30] at h
                  refine lv_iinc (v := (v5_23 + (1 : Int32))) (lv' := [(5, .int (v5_23 + (1 : Int32))), (0, .ref (a o)), (1, .int c1_8), (2, .int c2_9), (3, .int c3_10), (4, .int v4_29)]) hx hb dX12_strangest_140 hl (k := 5) rfl (by rfl) (by decide) rfl (fun ls hl => ?_)
                  refine lv_goto (tgt := 32) hx hb dX12_strangest_143 (by decide) ?_
                  exact ih v4_29 (v5_23 + (1 : Int32)) ls h (lv_sub hl [1, 2, 3, 4, 5, 0] rfl)
                refine lv_if_eq (tgt := 140) hx hb dX12_strangest_79 (by decide) (fun cc => ?_) (fun cc => ?_)
                · have h := ite_p cc h
                  exact Jj30 v4_22 ls h (lv_sub hl [2, 3, 4, 5, 6, 7] rfl)
                · have h := ite_n cc h
                  refine lv_iload hx hb dX12_strangest_82 (lv_at hl 0 rfl) ?_
                  refine lv_iconst (v := (-1 : Int32)) hx hb dX12_strangest_84 (by decide) ?_
                  refine lv_icmp_eq (tgt := 140) hx hb dX12_strangest_85 (by decide) (fun cc => ?_) (fun cc => ?_)
                  · have h := ite_p cc h
                    exact Jj30 v4_22 ls h (lv_sub hl [2, 3, 4, 5, 6, 7] rfl)
                  · have h := ite_n cc h
                    refine lv_sipush (v := (1000 : Int32)) hx hb dX12_strangest_88 (by decide) ?_
                    refine lv_aload_n hx hb dX12_strangest_91 rfl (lv_at hl 2 rfl) ?_
                    refine va_get (D := D) (ci := 12) (v := .ref (a (o + 1))) (C := RX12) (T := TX12) (N := 12) hx hb hts hinX12 hown hK hP 0 rfl rfl 0 (by decide) hf7 (fun _ h9 => h9) rfl dX12_strangest_92 ?_
                    refine lv_sipush (v := (486 : Int32)) hx hb dX12_strangest_95 (by decide) ?_
                    refine lv_iload_n hx hb dX12_strangest_98 rfl (lv_at hl 5 rfl) ?_
                    refine lv_iload hx hb dX12_strangest_99 (lv_at hl 1 rfl) ?_
                    obtain ⟨x31, e32, h⟩ := bd_some h
                    refine pcS (As := [.int c3_10, .int ((gX12_m S) ((((462 : Int32) + v5_23)).toNatClampNeg))]) (rest := [.int (486 : Int32), .ref (a (o + 1)), .int (1000 : Int32)]) (qX12_seat l D cy  c3_10 ((gX12_m S) ((((462 : Int32) + v5_23)).toNatClampNeg)) x31 e32) ⟨hx, hb, hml, hown, hts⟩ (va_cwS 2 hts gX12_strangest_X12_seat rfl rfl rfl (by decide +kernel) ⟨Nat.le_of_ble_eq_true rfl, Nat.le_of_ble_eq_true rfl⟩) hG (hP.sub [] rfl) rfl hl.1 rfl (Nat.le_of_ble_eq_true rfl) dX12_strangest_101 ⟨Nat.zero_le _, Nat.zero_le _⟩ ?_
                    refine lv_iadd hx hb dX12_strangest_104 ?_
                    obtain ⟨g33, h⟩ := gd_some h
                    refine r_ald (f := (gX12_m S)) (n := 714) (v := ((gX12_m S) ((((486 : Int32) + x31)).toNatClampNeg))) hx hb hK hP 1 0 rfl rfl (gIn_in g33) rfl dX12_strangest_105 ?_
                    refine lv_imul hx hb dX12_strangest_106 ?_
                    refine lv_iload hx hb dX12_strangest_107 (lv_at hl 0 rfl) ?_
                    refine lv_isub hx hb dX12_strangest_109 ?_
                    refine lv_istore (lv' := [(8, .int (((1000 : Int32) * ((gX12_m S) ((((486 : Int32) + x31)).toNatClampNeg))) - x25)), (7, .int x25), (6, .int ((gX12_m S) ((((462 : Int32) + v5_23)).toNatClampNeg))), (0, .ref (a o)), (1, .int c1_8), (2, .int c2_9), (3, .int c3_10), (4, .int v4_22), (5, .int v5_23)]) hx hb dX12_strangest_110 hl (by decide) rfl (fun ls hl => ?_)
                    refine lv_iload hx hb dX12_strangest_112 (lv_at hl 7 rfl) ?_
                    refine lv_iconst (v := (-1 : Int32)) hx hb dX12_strangest_114 (by decide) ?_
                    obtain ⟨j35, hj35, h⟩ := jn_elim h
                    have Jj35 : ∀ (x34 : Int32) (ls : Array Slot), j35 x34 = some rs → lv_has ls 9 [(0, .ref (a o)), (1, .int c1_8), (2, .int c2_9), (3, .int c3_10), (5, .int v5_23), (8, .int (((1000 : Int32) * ((gX12_m S) ((((486 : Int32) + x31)).toNatClampNeg))) - x25))] → W p l e (headSpec wsX12_strangest ({ frames := 4, cells := 0, slots := 0, locals := 95 } : Room)).room s m ([.ref (a o)] : List Value).toArray below meth c s.heap [] 0 0 (MQ below (vp_Si (fun z => z = rs)) ([.ref (a o)] : List Value).toArray s 0 0 (fun _ => False)) (F0 m 124 ls [.int x34]) := by
                      intro x34 ls h hl
                      rw [hj35] at h
                      refine lv_iload hx hb dX12_strangest_124 (lv_at hl 5 rfl) ?_
                      obtain ⟨j37, hj37, h⟩ := jn_elim h
                      have Jj37 : ∀ (x36 : Int32) (ls : Array Slot), j37 x36 = some rs → lv_has ls 9 [(0, .ref (a o)), (1, .int c1_8), (2, .int c2_9), (3, .int c3_10), (5, .int v5_23)] → W p l e (headSpec wsX12_strangest ({ frames := 4, cells := 0, slots := 0, locals := 95 } : Room)).room s m ([.ref (a o)] : List Value).toArray below meth c s.heap [] 0 0 (MQ below (vp_Si (fun z => z = rs)) ([.ref (a o)] : List Value).toArray s 0 0 (fun _ => False)) (F0 m 137 ls [.int x36, .int x34]) := by
                        intro x36 ls h hl
                        rw [hj37] at h
                        refine lv_iadd hx hb dX12_strangest_137 ?_
                        refine lv_istore (lv' := [(4, .int (x34 + x36)), (0, .ref (a o)), (1, .int c1_8), (2, .int c2_9), (3, .int c3_10), (5, .int v5_23)]) hx hb dX12_strangest_138 hl (by decide) rfl (fun ls hl => ?_)
                        exact Jj30 (x34 + x36) ls h (lv_sub hl [1, 2, 3, 4, 0, 5] rfl)
                      refine lv_if_ge (tgt := 135) hx hb dX12_strangest_126 (by decide) (fun cc => ?_) (fun cc => ?_)
                      · have h := ite_p cc h
                        refine lv_iload hx hb dX12_strangest_135 (lv_at hl 5 rfl) ?_
                        exact Jj37 (((1000 : Int32) * ((gX12_m S) ((((486 : Int32) + x31)).toNatClampNeg))) - x25) ls h (lv_sub hl [0, 1, 2, 3, 4] rfl)
                      · have h := ite_n cc h
                        refine lv_iload hx hb dX12_strangest_129 (lv_at hl 5 rfl) ?_
                        refine lv_ineg hx hb dX12_strangest_131 ?_
                        refine lv_goto (tgt := 137) hx hb dX12_strangest_132 (by decide) ?_
                        exact Jj37 (-(((1000 : Int32) * ((gX12_m S) ((((486 : Int32) + x31)).toNatClampNeg))) - x25)) ls h (lv_sub hl [0, 1, 2, 3, 4] rfl)
                    refine lv_icmp_ne (tgt := 122) hx hb dX12_strangest_115 (by decide) (fun cc => ?_) (fun cc => ?_)
                    · have h := ite_n cc h
                      refine lv_iload hx hb dX12_strangest_122 (lv_at hl 7 rfl) ?_
                      exact Jj35 v4_22 ls h (lv_sub hl [3, 4, 5, 6, 8, 0] rfl)
                    · have h := ite_p cc h
                      refine lv_iconst (v := (0 : Int32)) hx hb dX12_strangest_118 (by decide) ?_
                      refine lv_goto (tgt := 124) hx hb dX12_strangest_119 (by decide) ?_
                      exact Jj35 (0 : Int32) ls h (lv_sub hl [3, 4, 5, 6, 8, 0] rfl)
          refine L38 v1_5 v2_6 v3_7 _ ?_ fu (-1 : Int32) (0 : Int32) ls h (lv_sub hl [2, 3, 4, 5, 1, 0] rfl)
          intro v4_13 ls h hl
          refine lv_iload hx hb dX12_strangest_146 (lv_at hl 4 rfl) ?_
          refine lv_iconst (v := (-1 : Int32)) hx hb dX12_strangest_148 (by decide) ?_
          obtain ⟨j15, hj15, h⟩ := jn_elim h
          have Jj15 : ∀ (x14 : Int32) (ls : Array Slot), j15 x14 = some rs → lv_has ls 9 [(0, .ref (a o)), (1, .int v1_5), (2, .int v2_6), (3, .int v3_7), (4, .int v4_13)] → W p l e (headSpec wsX12_strangest ({ frames := 4, cells := 0, slots := 0, locals := 95 } : Room)).room s m ([.ref (a o)] : List Value).toArray below meth c s.heap [] 0 0 (MQ below (vp_Si (fun z => z = rs)) ([.ref (a o)] : List Value).toArray s 0 0 (fun _ => False)) (F0 m 168 ls [.int x14]) := by
            intro x14 ls h hl
            rw [hj15] at h
            refine lv_istore (lv' := [(5, .int x14), (0, .ref (a o)), (1, .int v1_5), (2, .int v2_6), (3, .int v3_7), (4, .int v4_13)]) hx hb dX12_strangest_168 hl (by decide) rfl (fun ls hl => ?_)
            refine lv_iload hx hb dX12_strangest_170 (lv_at hl 0 rfl) ?_
            obtain ⟨j17, hj17, h⟩ := jn_elim h
            have Jj17 : ∀ (x16 : Int32) (ls : Array Slot), j17 x16 = some rs → lv_has ls 9 [(0, .ref (a o)), (2, .int v2_6), (3, .int v3_7), (4, .int v4_13), (5, .int x14)] → W p l e (headSpec wsX12_strangest ({ frames := 4, cells := 0, slots := 0, locals := 95 } : Room)).room s m ([.ref (a o)] : List Value).toArray below meth c s.heap [] 0 0 (MQ below (vp_Si (fun z => z = rs)) ([.ref (a o)] : List Value).toArray s 0 0 (fun _ => False)) (F0 m 180 ls [.int x16]) := by
              intro x16 ls h hl
              rw [hj17] at h
              refine lv_istore_n (lv' := [(1, .int x16), (0, .ref (a o)), (2, .int v2_6), (3, .int v3_7), (4, .int v4_13), (5, .int x14)]) hx hb dX12_strangest_180 rfl hl (by decide) rfl (fun ls hl => ?_)
              refine lv_iload hx hb dX12_strangest_181 (lv_at hl 5 rfl) ?_
              obtain ⟨j19, hj19, h⟩ := jn_elim h
              have Jj19 : ∀ (x18 : Int32) (ls : Array Slot), j19 x18 = some rs → lv_has ls 9 [(0, .ref (a o)), (1, .int x16), (3, .int v3_7)] → W p l e (headSpec wsX12_strangest ({ frames := 4, cells := 0, slots := 0, locals := 95 } : Room)).room s m ([.ref (a o)] : List Value).toArray below meth c s.heap [] 0 0 (MQ below (vp_Si (fun z => z = rs)) ([.ref (a o)] : List Value).toArray s 0 0 (fun _ => False)) (F0 m 192 ls [.int x18]) := by
                intro x18 ls h hl
                rw [hj19] at h
                refine lv_istore_n (lv' := [(2, .int x18), (0, .ref (a o)), (1, .int x16), (3, .int v3_7)]) hx hb dX12_strangest_192 rfl hl (by decide) rfl (fun ls hl => ?_)
                refine lv_iinc (v := (v3_7 + (1 : Int32))) (lv' := [(3, .int (v3_7 + (1 : Int32))), (2, .int x18), (0, .ref (a o)), (1, .int x16)]) hx hb dX12_strangest_193 hl (k := 3) rfl (by rfl) (by decide) rfl (fun ls hl => ?_)
                refine lv_goto (tgt := 6) hx hb dX12_strangest_196 (by decide) ?_
                exact ih x16 x18 (v3_7 + (1 : Int32)) ls h (lv_sub hl [2, 3, 1, 0] rfl)
              refine lv_if_eq (tgt := 191) hx hb dX12_strangest_183 (by decide) (fun cc => ?_) (fun cc => ?_)
              · have h := ite_p cc h
                refine lv_iload_n hx hb dX12_strangest_191 rfl (lv_at hl 2 rfl) ?_
                exact Jj19 v2_6 ls h (lv_sub hl [1, 0, 3] rfl)
              · have h := ite_n cc h
                refine lv_iload hx hb dX12_strangest_186 (lv_at hl 4 rfl) ?_
                refine lv_goto (tgt := 192) hx hb dX12_strangest_188 (by decide) ?_
                exact Jj19 v4_13 ls h (lv_sub hl [1, 0, 3] rfl)
            refine lv_if_eq (tgt := 179) hx hb dX12_strangest_172 (by decide) (fun cc => ?_) (fun cc => ?_)
            · have h := ite_p cc h
              refine lv_iload_n hx hb dX12_strangest_179 rfl (lv_at hl 2 rfl) ?_
              exact Jj17 v1_5 ls h (lv_sub hl [1, 3, 4, 5, 0] rfl)
            · have h := ite_n cc h
              refine lv_iload_n hx hb dX12_strangest_175 rfl (lv_at hl 4 rfl) ?_
              refine lv_goto (tgt := 180) hx hb dX12_strangest_176 (by decide) ?_
              exact Jj17 v3_7 ls h (lv_sub hl [1, 3, 4, 5, 0] rfl)
          obtain ⟨j20, hj20, h⟩ := jn_elim h
          have Jj20 : ∀ (ls : Array Slot), j20 () = some rs → lv_has ls 9 [(0, .ref (a o)), (1, .int v1_5), (2, .int v2_6), (3, .int v3_7), (4, .int v4_13)] → W p l e (headSpec wsX12_strangest ({ frames := 4, cells := 0, slots := 0, locals := 95 } : Room)).room s m ([.ref (a o)] : List Value).toArray below meth c s.heap [] 0 0 (MQ below (vp_Si (fun z => z = rs)) ([.ref (a o)] : List Value).toArray s 0 0 (fun _ => False)) (F0 m 167 ls []) := by
            intro ls h hl
            rw [hj20] at h
            refine lv_iconst (v := (0 : Int32)) hx hb dX12_strangest_167 (by decide) ?_
            exact Jj15 (0 : Int32) ls h (lv_sub hl [0, 1, 2, 3, 4] rfl)
          refine lv_icmp_eq (tgt := 167) hx hb dX12_strangest_149 (by decide) (fun cc => ?_) (fun cc => ?_)
          · have h := ite_p cc h
            exact Jj20  ls h (lv_sub hl [0, 1, 2, 3, 4] rfl)
          · have h := ite_n cc h
            refine lv_iload_n hx hb dX12_strangest_152 rfl (lv_at hl 1 rfl) ?_
            refine lv_iconst (v := (-1 : Int32)) hx hb dX12_strangest_153 (by decide) ?_
            obtain ⟨j21, hj21, h⟩ := jn_elim h
            have Jj21 : ∀ (ls : Array Slot), j21 () = some rs → lv_has ls 9 [(0, .ref (a o)), (1, .int v1_5), (2, .int v2_6), (3, .int v3_7), (4, .int v4_13)] → W p l e (headSpec wsX12_strangest ({ frames := 4, cells := 0, slots := 0, locals := 95 } : Room)).room s m ([.ref (a o)] : List Value).toArray below meth c s.heap [] 0 0 (MQ below (vp_Si (fun z => z = rs)) ([.ref (a o)] : List Value).toArray s 0 0 (fun _ => False)) (F0 m 163 ls []) := by
              intro ls h hl
              rw [hj21] at h
              refine lv_iconst (v := (1 : Int32)) hx hb dX12_strangest_163 (by decide) ?_
              refine lv_goto (tgt := 168) hx hb dX12_strangest_164 (by decide) ?_
              exact Jj15 (1 : Int32) ls h (lv_sub hl [0, 1, 2, 3, 4] rfl)
            refine lv_icmp_eq (tgt := 163) hx hb dX12_strangest_154 (by decide) (fun cc => ?_) (fun cc => ?_)
            · have h := ite_p cc h
              exact Jj21  ls h (lv_sub hl [0, 1, 2, 3, 4] rfl)
            · have h := ite_n cc h
              refine lv_iload hx hb dX12_strangest_157 (lv_at hl 4 rfl) ?_
              refine lv_iload_n hx hb dX12_strangest_159 rfl (lv_at hl 2 rfl) ?_
              refine lv_icmp_le (tgt := 167) hx hb dX12_strangest_160 (by decide) (fun cc => ?_) (fun cc => ?_)
              · have h := ite_p cc h
                exact Jj20  ls h (lv_sub hl [0, 1, 2, 3, 4] rfl)
              · have h := ite_n cc h
                exact Jj21  ls h (lv_sub hl [0, 1, 2, 3, 4] rfl)
  exact L39  _ Jj2 fu (-1 : Int32) (0 : Int32) (0 : Int32) ls h (lv_sub hl [3, 2, 1, 0] rfl)
set_option maxHeartbeats 4000000 in
set_option maxRecDepth 100000 in
theorem qX12_strangestJuror (l : Launch) (D : va_G) (cy : Nat → ClassId) (a : Nat → Nat) (o : Nat) (S : SX12)  (sz : Nat) (rs : Int32 × SX12) (h : DX12_strangestJuror S = some rs) : Met l yX12_strangestJuror wsX12_strangestJuror ({ frames := 5, cells := 0, slots := 0, locals := 123 } : Room) (mP D cy sz [.ref (a o)] (wX12 cy a o S)) (va_Qi (fun r (u : SX12) => (r, u) = rs) (fun u t => mB D sz (wX12 cy a o S) (wX12 cy a o u) t) (va_A (wX12 cy a o S) sz)) 0 0 (va_A (wX12 cy a o S) sz) := by
  refine Met.ofW (cc := cX12_strangestJuror) (maxL := 1) (ret := (some .int)) (by decide) rfl ?_
  intro p e s m args below meth c s₁ B hml hv
  obtain ⟨rfl, hsz, hP, hG, hD0⟩ := hv
  have hx := B.exec
  have hb := B.bytes
  have hr := B.returns
  have hts := atoms_spec (ws := wsX12_strangestJuror) B.pre
  have hown : s.vm.findClass RX12 = some m.cls := findClass_of_methodNamed B.named
  have hlocks := B.notSynchronized
  have hK := hG.1
  subst hsz
  have hD := hD0.self (sz := s.heap.size)
  have hA : ∀ q : Nat, s.heap.size ≤ q → (va_A (wX12 cy a o S) s.heap.size) q := fun q h => Or.inr h
  have hS : va_S (va_A (wX12 cy a o S) s.heap.size) s.heap s.heap [] := va_S.rf
  have hinX12 := (by decide +kernel : ∀ w ∈ wsX120, w ∈ wsX12_strangestJuror)
  have hf31 := hts (.fieldLink RX12 31 "PianoRoundsModel" "code" "I") (by decide +kernel)
  have hl := lv_entry ([.ref (a o)]) (n := 1) (Nat.le_of_ble_eq_true rfl)
  rw [lg_entry_eq]
  generalize (lg_sl ([.ref (a o)]) ++ List.replicate (1 - (lg_sl ([.ref (a o)])).length) Slot.unset).toArray = ls at hl ⊢
  have hl : lv_has ls 1 [(0, .ref (a o))] := hl
  rw [DX12_strangestJuror] at h
  refine lv_aload_n hx hb dX12_strangestJuror_0 rfl (lv_at hl 0 rfl) ?_
  refine lv_iconst (v := (0 : Int32)) hx hb dX12_strangestJuror_1 (by decide) ?_
  refine va_put (D := D) (ci := 12) (v := .int (0 : Int32)) (ty := .int) (C := RX12) (T := TX12) (N := 12) hx hb hts hinX12 tyX12 tyX12_ok nmX12 hown hK hP hD hS 0 rfl rfl 5 (by decide) hf31 (fun _ h9 => h9) rfl (by decide +kernel) rfl rfl (Nat.le_of_ble_eq_true rfl) dX12_strangestJuror_2 (fun H locs hP hD hS => ?_)
  have hP : va_P D vwCl (wX12 cy a o (uX12_code S (0 : Int32))) H := hP
  have hD : va_D (va_A (wX12 cy a o S) s.heap.size) (wX12 cy a o (uX12_code S (0 : Int32))) := hD
  obtain ⟨S1, eS2, h⟩ := lt_elim h
  have hP : va_P D vwCl (wX12 cy a o S1) H := by rw [eS2]; exact hP
  have hD : va_D (va_A (wX12 cy a o S) s.heap.size) (wX12 cy a o S1) := by rw [eS2]; exact hD
  refine lv_aload_n hx hb dX12_strangestJuror_5 rfl (lv_at hl 0 rfl) ?_
  obtain ⟨x3, e4, h⟩ := bd_some h
  refine pcV (As := []) (rest := []) (q0 := 0) (qX12_strangest l D cy a o S1  x3 e4) ⟨hx, hb, hml, hown, hts⟩ (cwV 0 hts gX12_strangestJuror_X12_strangest rfl rfl rfl (by decide +kernel) ⟨Nat.le_of_ble_eq_true rfl, Nat.le_of_ble_eq_true rfl⟩) hG hP rfl rfl rfl hl.1 rfl (Nat.le_of_ble_eq_true rfl) dX12_strangestJuror_6 ⟨Nat.zero_le _, Nat.zero_le _⟩ ?_
  exact W.iret (v := x3) hx hb hr (fun t ht hW => ⟨⟨x3, S1, rfl, some_in h, by rw [ht]; exact hP, hD⟩, hS.F ht⟩) hS.2.2 dX12_strangestJuror_9
set_option maxHeartbeats 4000000 in
set_option maxRecDepth 100000 in
theorem qX12_type (l : Launch) (D : va_G) (cy : Nat → ClassId) (a : Nat → Nat) (o : Nat) (S : SX12) (p1 : Int32) (sz : Nat) (rs : Int32 × SX12) (h : DX12_type S p1 = some rs) : Met l yX12_type wsX12_type ({ frames := 1, cells := 0, slots := 0, locals := 22 } : Room) (mP D cy sz [.ref (a o), .int p1] (wX12 cy a o S)) (va_Qi (fun r (u : SX12) => (r, u) = rs) (fun u t => mB D sz (wX12 cy a o S) (wX12 cy a o u) t) (va_A (wX12 cy a o S) sz)) 0 0 (va_A (wX12 cy a o S) sz) := by
  refine Met.ofW (cc := cX12_type) (maxL := 2) (ret := (some .int)) (by decide) rfl ?_
  intro p e s m args below meth c s₁ B hml hv
  obtain ⟨rfl, hsz, hP, hG, hD0⟩ := hv
  have hx := B.exec
  have hb := B.bytes
  have hr := B.returns
  have hts := atoms_spec (ws := wsX12_type) B.pre
  have hown : s.vm.findClass RX12 = some m.cls := findClass_of_methodNamed B.named
  have hlocks := B.notSynchronized
  have hK := hG.1
  subst hsz
  have hD := hD0.self (sz := s.heap.size)
  have hA : ∀ q : Nat, s.heap.size ≤ q → (va_A (wX12 cy a o S) s.heap.size) q := fun q h => Or.inr h
  have hS : va_S (va_A (wX12 cy a o S) s.heap.size) s.heap s.heap [] := va_S.rf
  have hinX12 := (by decide +kernel : ∀ w ∈ wsX120, w ∈ wsX12_type)
  have hf31 := hts (.fieldLink RX12 31 "PianoRoundsModel" "code" "I") (by decide +kernel)
  have hf16 := hts (.fieldLink RX12 16 "PianoRoundsModel" "text" "[I") (by decide +kernel)
  have hf176 := hts (.fieldLink RX12 176 "PianoRoundsModel" "textLength" "I") (by decide +kernel)
  have hl := lv_entry ([.ref (a o), .int p1]) (n := 2) (Nat.le_of_ble_eq_true rfl)
  rw [lg_entry_eq]
  generalize (lg_sl ([.ref (a o), .int p1]) ++ List.replicate (2 - (lg_sl ([.ref (a o), .int p1])).length) Slot.unset).toArray = ls at hl ⊢
  have hl : lv_has ls 2 [(0, .ref (a o)), (1, .int p1)] := hl
  rw [DX12_type] at h
  refine lv_aload_n hx hb dX12_type_0 rfl (lv_at hl 0 rfl) ?_
  refine lv_iload_n hx hb dX12_type_1 rfl (lv_at hl 1 rfl) ?_
  refine lv_bipush (v := (32 : Int32)) hx hb dX12_type_2 (by decide) ?_
  refine lv_bipush (v := (126 : Int32)) hx hb dX12_type_4 (by decide) ?_
  obtain ⟨x1, e2, h⟩ := bd_some h
  refine pcS (As := [.int p1, .int (32 : Int32), .int (126 : Int32)]) (rest := [.ref (a o)]) (qX12_in l D cy  p1 (32 : Int32) (126 : Int32) x1 e2) ⟨hx, hb, hml, hown, hts⟩ (va_cwS 3 hts gX12_type_X12_in rfl rfl rfl (by decide +kernel) ⟨Nat.le_of_ble_eq_true rfl, Nat.le_of_ble_eq_true rfl⟩) hG (hP.sub [] rfl) rfl hl.1 rfl (Nat.le_of_ble_eq_true rfl) dX12_type_6 ⟨Nat.zero_le _, Nat.zero_le _⟩ ?_
  obtain ⟨j4, hj4, h⟩ := jn_elim h
  have Jj4 : ∀ (x3 : Int32) (ls : Array Slot), j4 x3 = some rs → lv_has ls 2 [(0, .ref (a o)), (1, .int p1)] → W p l e (headSpec wsX12_type ({ frames := 1, cells := 0, slots := 0, locals := 22 } : Room)).room s m ([.ref (a o), .int p1] : List Value).toArray below meth c s.heap [] 0 0 (MQ below (va_Qi (fun r (u : SX12) => (r, u) = rs) (fun u t => mB D s.heap.size (wX12 cy a o S) (wX12 cy a o u) t) (va_A (wX12 cy a o S) s.heap.size)) ([.ref (a o), .int p1] : List Value).toArray s 0 0 (va_A (wX12 cy a o S) s.heap.size)) (F0 m 30 ls [.int x3, .ref (a o)]) := by
    intro x3 ls h hl
    rw [hj4] at h
    refine va_put (D := D) (ci := 12) (v := .int x3) (ty := .int) (C := RX12) (T := TX12) (N := 12) hx hb hts hinX12 tyX12 tyX12_ok nmX12 hown hK hP hD hS 0 rfl rfl 5 (by decide) hf31 (fun _ h9 => h9) rfl (by decide +kernel) rfl rfl (Nat.le_of_ble_eq_true rfl) dX12_type_30 (fun H locs hP hD hS => ?_)
    have hP : va_P D vwCl (wX12 cy a o (uX12_code S x3)) H := hP
    have hD : va_D (va_A (wX12 cy a o S) s.heap.size) (wX12 cy a o (uX12_code S x3)) := hD
    obtain ⟨S5, eS6, h⟩ := lt_elim h
    have hP : va_P D vwCl (wX12 cy a o S5) H := by rw [eS6]; exact hP
    have hD : va_D (va_A (wX12 cy a o S) s.heap.size) (wX12 cy a o S5) := by rw [eS6]; exact hD
    refine lv_aload_n hx hb dX12_type_33 rfl (lv_at hl 0 rfl) ?_
    refine va_get (D := D) (ci := 12) (v := .int (gX12_code S5)) (C := RX12) (T := TX12) (N := 12) hx hb hts hinX12 hown hK hP 0 rfl rfl 5 (by decide) hf31 (fun _ h9 => h9) rfl dX12_type_34 ?_
    refine lv_if_eq (tgt := 42) hx hb dX12_type_37 (by decide) (fun cc => ?_) (fun cc => ?_)
    · have h := ite_p cc h
      refine lv_aload_n hx hb dX12_type_42 rfl (lv_at hl 0 rfl) ?_
      refine va_get (D := D) (ci := 12) (v := .ref (a (o + 3))) (C := RX12) (T := TX12) (N := 12) hx hb hts hinX12 hown hK hP 0 rfl rfl 3 (by decide) hf16 (fun _ h9 => h9) rfl dX12_type_43 ?_
      refine lv_aload_n hx hb dX12_type_46 rfl (lv_at hl 0 rfl) ?_
      refine va_get (D := D) (ci := 12) (v := .int (gX12_textLength S5)) (C := RX12) (T := TX12) (N := 12) hx hb hts hinX12 hown hK hP 0 rfl rfl 4 (by decide) hf176 (fun _ h9 => h9) rfl dX12_type_47 ?_
      refine lv_iload_n hx hb dX12_type_50 rfl (lv_at hl 1 rfl) ?_
      obtain ⟨g7, h⟩ := gd_some h
      refine r_ast (f := (gX12_text S5)) (f' := (upd (gX12_text S5) (((gX12_textLength S5)).toNatClampNeg) p1)) (n := 40) (ws' := (wX12 cy a o (uX12_text S5 (upd (gX12_text S5) (((gX12_textLength S5)).toNatClampNeg) p1)))) hx hb hK hP hD hS 3 0 rfl rfl (gIn_in g7) rfl rfl dX12_type_51 (fun H locs hP hD hS => ?_)
      obtain ⟨S8, eS9, h⟩ := lt_elim h
      have hP : va_P D vwCl (wX12 cy a o S8) H := by rw [eS9]; exact hP
      have hD : va_D (va_A (wX12 cy a o S) s.heap.size) (wX12 cy a o S8) := by rw [eS9]; exact hD
      refine lv_aload_n hx hb dX12_type_52 rfl (lv_at hl 0 rfl) ?_
      refine lv_dup hx hb dX12_type_53 rfl ?_
      refine va_get (D := D) (ci := 12) (v := .int (gX12_textLength S8)) (C := RX12) (T := TX12) (N := 12) hx hb hts hinX12 hown hK hP 0 rfl rfl 4 (by decide) hf176 (fun _ h9 => h9) rfl dX12_type_54 ?_
      refine lv_iconst (v := (1 : Int32)) hx hb dX12_type_57 (by decide) ?_
      refine lv_iadd hx hb dX12_type_58 ?_
      refine va_put (D := D) (ci := 12) (v := .int ((gX12_textLength S8) + (1 : Int32))) (ty := .int) (C := RX12) (T := TX12) (N := 12) hx hb hts hinX12 tyX12 tyX12_ok nmX12 hown hK hP hD hS 0 rfl rfl 4 (by decide) hf176 (fun _ h9 => h9) rfl (by decide +kernel) rfl rfl (Nat.le_of_ble_eq_true rfl) dX12_type_59 (fun H locs hP hD hS => ?_)
      have hP : va_P D vwCl (wX12 cy a o (uX12_textLength S8 ((gX12_textLength S8) + (1 : Int32)))) H := hP
      have hD : va_D (va_A (wX12 cy a o S) s.heap.size) (wX12 cy a o (uX12_textLength S8 ((gX12_textLength S8) + (1 : Int32)))) := hD
      obtain ⟨S10, eS11, h⟩ := lt_elim h
      have hP : va_P D vwCl (wX12 cy a o S10) H := by rw [eS11]; exact hP
      have hD : va_D (va_A (wX12 cy a o S) s.heap.size) (wX12 cy a o S10) := by rw [eS11]; exact hD
      refine lv_aload_n hx hb dX12_type_62 rfl (lv_at hl 0 rfl) ?_
      refine va_get (D := D) (ci := 12) (v := .int (gX12_textLength S10)) (C := RX12) (T := TX12) (N := 12) hx hb hts hinX12 hown hK hP 0 rfl rfl 4 (by decide) hf176 (fun _ h9 => h9) rfl dX12_type_63 ?_
      exact W.iret (v := (gX12_textLength S10)) hx hb hr (fun t ht hW => ⟨⟨(gX12_textLength S10), S10, rfl, some_in h, by rw [ht]; exact hP, hD⟩, hS.F ht⟩) hS.2.2 dX12_type_66
    · have h := ite_n cc h
      refine lv_iconst (v := (0 : Int32)) hx hb dX12_type_40 (by decide) ?_
      exact W.iret (v := (0 : Int32)) hx hb hr (fun t ht hW => ⟨⟨(0 : Int32), S5, rfl, some_in h, by rw [ht]; exact hP, hD⟩, hS.F ht⟩) hS.2.2 dX12_type_41
  refine lv_if_ne (tgt := 16) hx hb dX12_type_9 (by decide) (fun cc => ?_) (fun cc => ?_)
  · have h := ite_n cc h
    refine lv_aload_n hx hb dX12_type_16 rfl (lv_at hl 0 rfl) ?_
    refine va_get (D := D) (ci := 12) (v := .int (gX12_textLength S)) (C := RX12) (T := TX12) (N := 12) hx hb hts hinX12 hown hK hP 0 rfl rfl 4 (by decide) hf176 (fun _ h9 => h9) rfl dX12_type_17 ?_
    refine lv_bipush (v := (40 : Int32)) hx hb dX12_type_20 (by decide) ?_
    refine lv_icmp_ne (tgt := 29) hx hb dX12_type_22 (by decide) (fun cc => ?_) (fun cc => ?_)
    · have h := ite_n cc h
      refine lv_iconst (v := (0 : Int32)) hx hb dX12_type_29 (by decide) ?_
      exact Jj4 (0 : Int32) ls h (lv_sub hl [0, 1] rfl)
    · have h := ite_p cc h
      refine lv_iconst (v := (2 : Int32)) hx hb dX12_type_25 (by decide) ?_
      refine lv_goto (tgt := 30) hx hb dX12_type_26 (by decide) ?_
      exact Jj4 (2 : Int32) ls h (lv_sub hl [0, 1] rfl)
  · have h := ite_p cc h
    refine lv_iconst (v := (1 : Int32)) hx hb dX12_type_12 (by decide) ?_
    refine lv_goto (tgt := 30) hx hb dX12_type_13 (by decide) ?_
    exact Jj4 (1 : Int32) ls h (lv_sub hl [0, 1] rfl)
set_option maxHeartbeats 4000000 in
set_option maxRecDepth 100000 in
theorem qX12_clearText (l : Launch) (D : va_G) (cy : Nat → ClassId) (a : Nat → Nat) (o : Nat) (S : SX12)  (sz : Nat) (rs : Int32 × SX12) (h : DX12_clearText S = some rs) : Met l yX12_clearText wsX12_clearText ({ frames := 0, cells := 0, slots := 0, locals := 0 } : Room) (mP D cy sz [.ref (a o)] (wX12 cy a o S)) (va_Qi (fun r (u : SX12) => (r, u) = rs) (fun u t => mB D sz (wX12 cy a o S) (wX12 cy a o u) t) (va_A (wX12 cy a o S) sz)) 0 0 (va_A (wX12 cy a o S) sz) := by
  refine Met.ofW (cc := cX12_clearText) (maxL := 2) (ret := (some .int)) (by decide) rfl ?_
  intro p e s m args below meth c s₁ B hml hv
  obtain ⟨rfl, hsz, hP, hG, hD0⟩ := hv
  have hx := B.exec
  have hb := B.bytes
  have hr := B.returns
  have hts := atoms_spec (ws := wsX12_clearText) B.pre
  have hown : s.vm.findClass RX12 = some m.cls := findClass_of_methodNamed B.named
  have hlocks := B.notSynchronized
  have hK := hG.1
  subst hsz
  have hD := hD0.self (sz := s.heap.size)
  have hA : ∀ q : Nat, s.heap.size ≤ q → (va_A (wX12 cy a o S) s.heap.size) q := fun q h => Or.inr h
  have hS : va_S (va_A (wX12 cy a o S) s.heap.size) s.heap s.heap [] := va_S.rf
  have hinX12 := (by decide +kernel : ∀ w ∈ wsX120, w ∈ wsX12_clearText)
  have hf31 := hts (.fieldLink RX12 31 "PianoRoundsModel" "code" "I") (by decide +kernel)
  have hf176 := hts (.fieldLink RX12 176 "PianoRoundsModel" "textLength" "I") (by decide +kernel)
  have hl := lv_entry ([.ref (a o)]) (n := 2) (Nat.le_of_ble_eq_true rfl)
  rw [lg_entry_eq]
  generalize (lg_sl ([.ref (a o)]) ++ List.replicate (2 - (lg_sl ([.ref (a o)])).length) Slot.unset).toArray = ls at hl ⊢
  have hl : lv_has ls 2 [(0, .ref (a o))] := hl
  rw [DX12_clearText] at h
  refine lv_aload_n hx hb dX12_clearText_0 rfl (lv_at hl 0 rfl) ?_
  refine lv_iconst (v := (0 : Int32)) hx hb dX12_clearText_1 (by decide) ?_
  refine va_put (D := D) (ci := 12) (v := .int (0 : Int32)) (ty := .int) (C := RX12) (T := TX12) (N := 12) hx hb hts hinX12 tyX12 tyX12_ok nmX12 hown hK hP hD hS 0 rfl rfl 5 (by decide) hf31 (fun _ h9 => h9) rfl (by decide +kernel) rfl rfl (Nat.le_of_ble_eq_true rfl) dX12_clearText_2 (fun H locs hP hD hS => ?_)
  have hP : va_P D vwCl (wX12 cy a o (uX12_code S (0 : Int32))) H := hP
  have hD : va_D (va_A (wX12 cy a o S) s.heap.size) (wX12 cy a o (uX12_code S (0 : Int32))) := hD
  obtain ⟨S1, eS2, h⟩ := lt_elim h
  have hP : va_P D vwCl (wX12 cy a o S1) H := by rw [eS2]; exact hP
  have hD : va_D (va_A (wX12 cy a o S) s.heap.size) (wX12 cy a o S1) := by rw [eS2]; exact hD
  refine lv_aload_n hx hb dX12_clearText_5 rfl (lv_at hl 0 rfl) ?_
  refine va_get (D := D) (ci := 12) (v := .int (gX12_textLength S1)) (C := RX12) (T := TX12) (N := 12) hx hb hts hinX12 hown hK hP 0 rfl rfl 4 (by decide) hf176 (fun _ h9 => h9) rfl dX12_clearText_6 ?_
  refine lv_istore_n (lv' := [(1, .int (gX12_textLength S1)), (0, .ref (a o))]) hx hb dX12_clearText_9 rfl hl (by decide) rfl (fun ls hl => ?_)
  refine lv_aload_n hx hb dX12_clearText_10 rfl (lv_at hl 1 rfl) ?_
  refine lv_iconst (v := (0 : Int32)) hx hb dX12_clearText_11 (by decide) ?_
  refine va_put (D := D) (ci := 12) (v := .int (0 : Int32)) (ty := .int) (C := RX12) (T := TX12) (N := 12) hx hb hts hinX12 tyX12 tyX12_ok nmX12 hown hK hP hD hS 0 rfl rfl 4 (by decide) hf176 (fun _ h9 => h9) rfl (by decide +kernel) rfl rfl (Nat.le_of_ble_eq_true rfl) dX12_clearText_12 (fun H locs hP hD hS => ?_)
  have hP : va_P D vwCl (wX12 cy a o (uX12_textLength S1 (0 : Int32))) H := hP
  have hD : va_D (va_A (wX12 cy a o S) s.heap.size) (wX12 cy a o (uX12_textLength S1 (0 : Int32))) := hD
  obtain ⟨S3, eS4, h⟩ := lt_elim h
  have hP : va_P D vwCl (wX12 cy a o S3) H := by rw [eS4]; exact hP
  have hD : va_D (va_A (wX12 cy a o S) s.heap.size) (wX12 cy a o S3) := by rw [eS4]; exact hD
  refine lv_iload_n hx hb dX12_clearText_15 rfl (lv_at hl 0 rfl) ?_
  exact W.iret (v := (gX12_textLength S1)) hx hb hr (fun t ht hW => ⟨⟨(gX12_textLength S1), S3, rfl, some_in h, by rw [ht]; exact hP, hD⟩, hS.F ht⟩) hS.2.2 dX12_clearText_16
set_option maxHeartbeats 4000000 in
set_option maxRecDepth 100000 in
theorem qX12_fault (l : Launch) (D : va_G) (cy : Nat → ClassId) (a : Nat → Nat) (o : Nat) (S : SX12)  (sz : Nat) (rs : Int32 × SX12) (h : DX12_fault S = some rs) : Met l yX12_fault wsX12_fault ({ frames := 2, cells := 0, slots := 0, locals := 47 } : Room) (mP D cy sz [.ref (a o)] (wX12 cy a o S)) (va_Qi (fun r (u : SX12) => (r, u) = rs) (fun u t => mB D sz (wX12 cy a o S) (wX12 cy a o u) t) (va_A (wX12 cy a o S) sz)) 0 0 (va_A (wX12 cy a o S) sz) := by
  refine Met.ofW (cc := cX12_fault) (maxL := 1) (ret := (some .int)) (by decide) rfl ?_
  intro p e s m args below meth c s₁ B hml hv
  obtain ⟨rfl, hsz, hP, hG, hD0⟩ := hv
  have hx := B.exec
  have hb := B.bytes
  have hr := B.returns
  have hts := atoms_spec (ws := wsX12_fault) B.pre
  have hown : s.vm.findClass RX12 = some m.cls := findClass_of_methodNamed B.named
  have hlocks := B.notSynchronized
  have hK := hG.1
  subst hsz
  have hD := hD0.self (sz := s.heap.size)
  have hA : ∀ q : Nat, s.heap.size ≤ q → (va_A (wX12 cy a o S) s.heap.size) q := fun q h => Or.inr h
  have hS : va_S (va_A (wX12 cy a o S) s.heap.size) s.heap s.heap [] := va_S.rf
  have hinX12 := (by decide +kernel : ∀ w ∈ wsX120, w ∈ wsX12_fault)
  have hf31 := hts (.fieldLink RX12 31 "PianoRoundsModel" "code" "I") (by decide +kernel)
  have hl := lv_entry ([.ref (a o)]) (n := 1) (Nat.le_of_ble_eq_true rfl)
  rw [lg_entry_eq]
  generalize (lg_sl ([.ref (a o)]) ++ List.replicate (1 - (lg_sl ([.ref (a o)])).length) Slot.unset).toArray = ls at hl ⊢
  have hl : lv_has ls 1 [(0, .ref (a o))] := hl
  rw [DX12_fault] at h
  refine lv_aload_n hx hb dX12_fault_0 rfl (lv_at hl 0 rfl) ?_
  refine lv_iconst (v := (0 : Int32)) hx hb dX12_fault_1 (by decide) ?_
  refine va_put (D := D) (ci := 12) (v := .int (0 : Int32)) (ty := .int) (C := RX12) (T := TX12) (N := 12) hx hb hts hinX12 tyX12 tyX12_ok nmX12 hown hK hP hD hS 0 rfl rfl 5 (by decide) hf31 (fun _ h9 => h9) rfl (by decide +kernel) rfl rfl (Nat.le_of_ble_eq_true rfl) dX12_fault_2 (fun H locs hP hD hS => ?_)
  have hP : va_P D vwCl (wX12 cy a o (uX12_code S (0 : Int32))) H := hP
  have hD : va_D (va_A (wX12 cy a o S) s.heap.size) (wX12 cy a o (uX12_code S (0 : Int32))) := hD
  obtain ⟨S1, eS2, h⟩ := lt_elim h
  have hP : va_P D vwCl (wX12 cy a o S1) H := by rw [eS2]; exact hP
  have hD : va_D (va_A (wX12 cy a o S) s.heap.size) (wX12 cy a o S1) := by rw [eS2]; exact hD
  refine lv_aload_n hx hb dX12_fault_5 rfl (lv_at hl 0 rfl) ?_
  obtain ⟨x3, e4, h⟩ := bd_some h
  refine smVi (As := []) (rest := []) (ws' := (wX12 cy a o x3.2)) (q0 := 0) (qX12_faultOf l D cy a o S1  (H).size x3 e4) ⟨hx, hb, hml, hown, hts⟩ (cwV 0 hts gX12_fault_X12_faultOf rfl rfl rfl (by decide +kernel) ⟨Nat.le_of_ble_eq_true rfl, Nat.le_of_ble_eq_true rfl⟩) hG hP hD hS hA (pm1 (X := ([] : va_W)) (c := (wX12 cy a o S1)) (Y := ([] : va_W)) (show (wX12 cy a o S1) = ([] : va_W) ++ ((wX12 cy a o S1) ++ ([] : va_W)) from by simp only [List.append_assoc, List.nil_append, List.append_nil] <;> rfl)) (pm1 (X := ([] : va_W)) (c := (wX12 cy a o x3.2)) (Y := ([] : va_W)) (show (wX12 cy a o x3.2) = ([] : va_W) ++ ((wX12 cy a o x3.2) ++ ([] : va_W)) from by simp only [List.append_assoc, List.nil_append, List.append_nil] <;> rfl)) rfl rfl rfl hl.1 rfl (Nat.le_of_ble_eq_true rfl) dX12_fault_6 ⟨Nat.zero_le _, Nat.zero_le _⟩ (fun H locs hP hD hS => ?_)
  exact W.iret (v := x3.1) hx hb hr (fun t ht hW => ⟨⟨x3.1, x3.2, rfl, some_in h, by rw [ht]; exact hP, hD⟩, hS.F ht⟩) hS.2.2 dX12_fault_9
set_option maxHeartbeats 4000000 in
set_option maxRecDepth 100000 in
theorem qX12_undo (l : Launch) (D : va_G) (cy : Nat → ClassId) (a : Nat → Nat) (o : Nat) (S : SX12)  (sz : Nat) (rs : Int32 × SX12) (h : DX12_undo S = some rs) : Met l yX12_undo wsX12_undo ({ frames := 0, cells := 0, slots := 0, locals := 0 } : Room) (mP D cy sz [.ref (a o)] (wX12 cy a o S)) (va_Qi (fun r (u : SX12) => (r, u) = rs) (fun u t => mB D sz (wX12 cy a o S) (wX12 cy a o u) t) (va_A (wX12 cy a o S) sz)) 0 0 (va_A (wX12 cy a o S) sz) := by
  refine Met.ofW (cc := cX12_undo) (maxL := 2) (ret := (some .int)) (by decide) rfl ?_
  intro p e s m args below meth c s₁ B hml hv
  obtain ⟨rfl, hsz, hP, hG, hD0⟩ := hv
  have hx := B.exec
  have hb := B.bytes
  have hr := B.returns
  have hts := atoms_spec (ws := wsX12_undo) B.pre
  have hown : s.vm.findClass RX12 = some m.cls := findClass_of_methodNamed B.named
  have hlocks := B.notSynchronized
  have hK := hG.1
  subst hsz
  have hD := hD0.self (sz := s.heap.size)
  have hA : ∀ q : Nat, s.heap.size ≤ q → (va_A (wX12 cy a o S) s.heap.size) q := fun q h => Or.inr h
  have hS : va_S (va_A (wX12 cy a o S) s.heap.size) s.heap s.heap [] := va_S.rf
  have hinX12 := (by decide +kernel : ∀ w ∈ wsX120, w ∈ wsX12_undo)
  have hf35 := hts (.fieldLink RX12 35 "PianoRoundsModel" "savedCount" "I") (by decide +kernel)
  have hf31 := hts (.fieldLink RX12 31 "PianoRoundsModel" "code" "I") (by decide +kernel)
  have hf7 := hts (.fieldLink RX12 7 "PianoRoundsModel" "m" "[I") (by decide +kernel)
  have hf13 := hts (.fieldLink RX12 13 "PianoRoundsModel" "saved" "[I") (by decide +kernel)
  have hl := lv_entry ([.ref (a o)]) (n := 2) (Nat.le_of_ble_eq_true rfl)
  rw [lg_entry_eq]
  generalize (lg_sl ([.ref (a o)]) ++ List.replicate (2 - (lg_sl ([.ref (a o)])).length) Slot.unset).toArray = ls at hl ⊢
  have hl : lv_has ls 2 [(0, .ref (a o))] := hl
  rw [DX12_undo] at h
  refine lv_aload_n hx hb dX12_undo_0 rfl (lv_at hl 0 rfl) ?_
  refine lv_aload_n hx hb dX12_undo_1 rfl (lv_at hl 0 rfl) ?_
  refine va_get (D := D) (ci := 12) (v := .int (gX12_savedCount S)) (C := RX12) (T := TX12) (N := 12) hx hb hts hinX12 hown hK hP 0 rfl rfl 2 (by decide) hf35 (fun _ h9 => h9) rfl dX12_undo_2 ?_
  obtain ⟨j2, hj2, h⟩ := jn_elim h
  have Jj2 : ∀ (x1 : Int32) (ls : Array Slot), j2 x1 = some rs → lv_has ls 2 [(0, .ref (a o))] → W p l e (headSpec wsX12_undo ({ frames := 0, cells := 0, slots := 0, locals := 0 } : Room)).room s m ([.ref (a o)] : List Value).toArray below meth c s.heap [] 0 0 (MQ below (va_Qi (fun r (u : SX12) => (r, u) = rs) (fun u t => mB D s.heap.size (wX12 cy a o S) (wX12 cy a o u) t) (va_A (wX12 cy a o S) s.heap.size)) ([.ref (a o)] : List Value).toArray s 0 0 (va_A (wX12 cy a o S) s.heap.size)) (F0 m 13 ls [.int x1, .ref (a o)]) := by
    intro x1 ls h hl
    rw [hj2] at h
    refine va_put (D := D) (ci := 12) (v := .int x1) (ty := .int) (C := RX12) (T := TX12) (N := 12) hx hb hts hinX12 tyX12 tyX12_ok nmX12 hown hK hP hD hS 0 rfl rfl 5 (by decide) hf31 (fun _ h9 => h9) rfl (by decide +kernel) rfl rfl (Nat.le_of_ble_eq_true rfl) dX12_undo_13 (fun H locs hP hD hS => ?_)
    have hP : va_P D vwCl (wX12 cy a o (uX12_code S x1)) H := hP
    have hD : va_D (va_A (wX12 cy a o S) s.heap.size) (wX12 cy a o (uX12_code S x1)) := hD
    obtain ⟨S3, eS4, h⟩ := lt_elim h
    have hP : va_P D vwCl (wX12 cy a o S3) H := by rw [eS4]; exact hP
    have hD : va_D (va_A (wX12 cy a o S) s.heap.size) (wX12 cy a o S3) := by rw [eS4]; exact hD
    refine lv_aload_n hx hb dX12_undo_16 rfl (lv_at hl 0 rfl) ?_
    refine va_get (D := D) (ci := 12) (v := .int (gX12_code S3)) (C := RX12) (T := TX12) (N := 12) hx hb hts hinX12 hown hK hP 0 rfl rfl 5 (by decide) hf31 (fun _ h9 => h9) rfl dX12_undo_17 ?_
    refine lv_if_eq (tgt := 25) hx hb dX12_undo_20 (by decide) (fun cc => ?_) (fun cc => ?_)
    · have h := ite_p cc h
      refine lv_aload_n hx hb dX12_undo_25 rfl (lv_at hl 0 rfl) ?_
      refine lv_dup hx hb dX12_undo_26 rfl ?_
      refine va_get (D := D) (ci := 12) (v := .int (gX12_savedCount S3)) (C := RX12) (T := TX12) (N := 12) hx hb hts hinX12 hown hK hP 0 rfl rfl 2 (by decide) hf35 (fun _ h9 => h9) rfl dX12_undo_27 ?_
      refine lv_iconst (v := (1 : Int32)) hx hb dX12_undo_30 (by decide) ?_
      refine lv_isub hx hb dX12_undo_31 ?_
      refine va_put (D := D) (ci := 12) (v := .int ((gX12_savedCount S3) - (1 : Int32))) (ty := .int) (C := RX12) (T := TX12) (N := 12) hx hb hts hinX12 tyX12 tyX12_ok nmX12 hown hK hP hD hS 0 rfl rfl 2 (by decide) hf35 (fun _ h9 => h9) rfl (by decide +kernel) rfl rfl (Nat.le_of_ble_eq_true rfl) dX12_undo_32 (fun H locs hP hD hS => ?_)
      have hP : va_P D vwCl (wX12 cy a o (uX12_savedCount S3 ((gX12_savedCount S3) - (1 : Int32)))) H := hP
      have hD : va_D (va_A (wX12 cy a o S) s.heap.size) (wX12 cy a o (uX12_savedCount S3 ((gX12_savedCount S3) - (1 : Int32)))) := hD
      obtain ⟨S5, eS6, h⟩ := lt_elim h
      have hP : va_P D vwCl (wX12 cy a o S5) H := by rw [eS6]; exact hP
      have hD : va_D (va_A (wX12 cy a o S) s.heap.size) (wX12 cy a o S5) := by rw [eS6]; exact hD
      refine lv_iconst (v := (0 : Int32)) hx hb dX12_undo_35 (by decide) ?_
      refine lv_istore_n (lv' := [(1, .int (0 : Int32)), (0, .ref (a o))]) hx hb dX12_undo_36 rfl hl (by decide) rfl (fun ls hl => ?_)
      have L16 : ∀ (k8 : SX12 → Option (Int32 × SX12)) (hk8 : ∀ (S9 : SX12) (H : Heap) (locs : List Loc) (ls : Array Slot), k8 S9 = some rs → va_P D vwCl (wX12 cy a o S9) H → va_D (va_A (wX12 cy a o S) s.heap.size) (wX12 cy a o S9) → va_S (va_A (wX12 cy a o S) s.heap.size) s.heap H locs → lv_has ls 2 [(0, .ref (a o))] → W p l e (headSpec wsX12_undo ({ frames := 0, cells := 0, slots := 0, locals := 0 } : Room)).room s m ([.ref (a o)] : List Value).toArray below meth c H locs 0 0 (MQ below (va_Qi (fun r (u : SX12) => (r, u) = rs) (fun u t => mB D s.heap.size (wX12 cy a o S) (wX12 cy a o u) t) (va_A (wX12 cy a o S) s.heap.size)) ([.ref (a o)] : List Value).toArray s 0 0 (va_A (wX12 cy a o S) s.heap.size)) (F0 m 71 ls [])) (f : Nat) (v1_11 : Int32) (S7 : SX12) (H : Heap) (locs : List Loc) (ls : Array Slot), DX12_undo_L37 k8 f v1_11 S7 = some rs → va_P D vwCl (wX12 cy a o S7) H → va_D (va_A (wX12 cy a o S) s.heap.size) (wX12 cy a o S7) → va_S (va_A (wX12 cy a o S) s.heap.size) s.heap H locs → lv_has ls 2 [(0, .ref (a o)), (1, .int v1_11)] → W p l e (headSpec wsX12_undo ({ frames := 0, cells := 0, slots := 0, locals := 0 } : Room)).room s m ([.ref (a o)] : List Value).toArray below meth c H locs 0 0 (MQ below (va_Qi (fun r (u : SX12) => (r, u) = rs) (fun u t => mB D s.heap.size (wX12 cy a o S) (wX12 cy a o u) t) (va_A (wX12 cy a o S) s.heap.size)) ([.ref (a o)] : List Value).toArray s 0 0 (va_A (wX12 cy a o S) s.heap.size)) (F0 m 37 ls []) := by
        intro k8 hk8 f
        induction f with
        | zero =>
          intro v1_11 S7 H locs ls h hP hD hS hl
          rw [DX12_undo_L37] at h
          cases h
        | succ f ih =>
          intro v1_11 S7 H locs ls h hP hD hS hl
          rw [DX12_undo_L37] at h
          refine lv_iload_n hx hb dX12_undo_37 rfl (lv_at hl 1 rfl) ?_
          refine lv_sipush (v := (714 : Int32)) hx hb dX12_undo_38 (by decide) ?_
          refine lv_icmp_ge (tgt := 71) hx hb dX12_undo_41 (by decide) (fun cc => ?_) (fun cc => ?_)
          · have h := ite_p cc h
            exact hk8 S7 H locs ls h hP hD hS (lv_sub hl [0] rfl)
          · have h := ite_n cc h
            refine lv_aload_n hx hb dX12_undo_44 rfl (lv_at hl 0 rfl) ?_
            refine va_get (D := D) (ci := 12) (v := .ref (a (o + 1))) (C := RX12) (T := TX12) (N := 12) hx hb hts hinX12 hown hK hP 0 rfl rfl 0 (by decide) hf7 (fun _ h9 => h9) rfl dX12_undo_45 ?_
            refine lv_iload_n hx hb dX12_undo_48 rfl (lv_at hl 1 rfl) ?_
            refine lv_aload_n hx hb dX12_undo_49 rfl (lv_at hl 0 rfl) ?_
            refine va_get (D := D) (ci := 12) (v := .ref (a (o + 2))) (C := RX12) (T := TX12) (N := 12) hx hb hts hinX12 hown hK hP 0 rfl rfl 1 (by decide) hf13 (fun _ h9 => h9) rfl dX12_undo_50 ?_
            refine lv_sipush (v := (714 : Int32)) hx hb dX12_undo_53 (by decide) ?_
            refine lv_aload_n hx hb dX12_undo_56 rfl (lv_at hl 0 rfl) ?_
            refine va_get (D := D) (ci := 12) (v := .int (gX12_savedCount S7)) (C := RX12) (T := TX12) (N := 12) hx hb hts hinX12 hown hK hP 0 rfl rfl 2 (by decide) hf35 (fun _ h9 => h9) rfl dX12_undo_57 ?_
            refine lv_imul hx hb dX12_undo_60 ?_
            refine lv_iload_n hx hb dX12_undo_61 rfl (lv_at hl 1 rfl) ?_
            refine lv_iadd hx hb dX12_undo_62 ?_
            obtain ⟨g12, h⟩ := gd_some h
            refine r_ald (f := (gX12_saved S7)) (n := 2856) (v := ((gX12_saved S7) (((((714 : Int32) * (gX12_savedCount S7)) + v1_11)).toNatClampNeg))) hx hb hK hP 2 0 rfl rfl (gIn_in g12) rfl dX12_undo_63 ?_
            obtain ⟨g13, h⟩ := gd_some h
            refine r_ast (f := (gX12_m S7)) (f' := (upd (gX12_m S7) ((v1_11).toNatClampNeg) ((gX12_saved S7) (((((714 : Int32) * (gX12_savedCount S7)) + v1_11)).toNatClampNeg)))) (n := 714) (ws' := (wX12 cy a o (uX12_m S7 (upd (gX12_m S7) ((v1_11).toNatClampNeg) ((gX12_saved S7) (((((714 : Int32) * (gX12_savedCount S7)) + v1_11)).toNatClampNeg)))))) hx hb hK hP hD hS 1 0 rfl rfl (gIn_in g13) rfl rfl dX12_undo_64 (fun H locs hP hD hS => ?_)
            obtain ⟨S14, eS15, h⟩ := lt_elim h
            have hP : va_P D vwCl (wX12 cy a o S14) H := by rw [eS15]; exact hP
            have hD : va_D (va_A (wX12 cy a o S) s.heap.size) (wX12 cy a o S14) := by rw [eS15]; exact hD
            refine lv_iinc (v := (v1_11 + (1 : Int32))) (lv' := [(1, .int (v1_11 + (1 : Int32))), (0, .ref (a o))]) hx hb dX12_undo_65 hl (k := 1) rfl (by rfl) (by decide) rfl (fun ls hl => ?_)
            refine lv_goto (tgt := 37) hx hb dX12_undo_68 (by decide) ?_
            exact ih (v1_11 + (1 : Int32)) S14 H locs ls h hP hD hS (lv_sub hl [1, 0] rfl)
      refine L16  _ ?_ fu (0 : Int32) S5 H locs ls h hP hD hS (lv_sub hl [1, 0] rfl)
      intro S10 H locs ls h hP hD hS hl
      refine lv_aload_n hx hb dX12_undo_71 rfl (lv_at hl 0 rfl) ?_
      refine va_get (D := D) (ci := 12) (v := .int (gX12_savedCount S10)) (C := RX12) (T := TX12) (N := 12) hx hb hts hinX12 hown hK hP 0 rfl rfl 2 (by decide) hf35 (fun _ h9 => h9) rfl dX12_undo_72 ?_
      exact W.iret (v := (gX12_savedCount S10)) hx hb hr (fun t ht hW => ⟨⟨(gX12_savedCount S10), S10, rfl, some_in h, by rw [ht]; exact hP, hD⟩, hS.F ht⟩) hS.2.2 dX12_undo_75
    · have h := ite_n cc h
      refine lv_iconst (v := (0 : Int32)) hx hb dX12_undo_23 (by decide) ?_
      exact W.iret (v := (0 : Int32)) hx hb hr (fun t ht hW => ⟨⟨(0 : Int32), S3, rfl, some_in h, by rw [ht]; exact hP, hD⟩, hS.F ht⟩) hS.2.2 dX12_undo_24
  refine lv_if_ne (tgt := 12) hx hb dX12_undo_5 (by decide) (fun cc => ?_) (fun cc => ?_)
  · have h := ite_n cc h
    refine lv_iconst (v := (0 : Int32)) hx hb dX12_undo_12 (by decide) ?_
    exact Jj2 (0 : Int32) ls h (lv_sub hl [0] rfl)
  · have h := ite_p cc h
    refine lv_iconst (v := (1 : Int32)) hx hb dX12_undo_8 (by decide) ?_
    refine lv_goto (tgt := 13) hx hb dX12_undo_9 (by decide) ?_
    exact Jj2 (1 : Int32) ls h (lv_sub hl [0] rfl)
set_option maxHeartbeats 4000000 in
set_option maxRecDepth 100000 in
theorem qX12_mix (l : Launch) (D : va_G) (cy : Nat → ClassId) (a : Nat → Nat) (o : Nat) (S : SX12) (p1 : Int64) (sz : Nat) (rs : SX12) (h : DX12_mix S p1 = some rs) : Met l yX12_mix wsX12_mix ({ frames := 0, cells := 0, slots := 0, locals := 0 } : Room) (mP D cy sz [.ref (a o), .long p1] (wX12 cy a o S)) (va_Qv (fun (u : SX12) => u = rs) (fun u t => mB D sz (wX12 cy a o S) (wX12 cy a o u) t) (va_A (wX12 cy a o S) sz)) 0 0 (va_A (wX12 cy a o S) sz) := by
  refine Met.ofW (cc := cX12_mix) (maxL := 3) (ret := none) (by decide) rfl ?_
  intro p e s m args below meth c s₁ B hml hv
  obtain ⟨rfl, hsz, hP, hG, hD0⟩ := hv
  have hx := B.exec
  have hb := B.bytes
  have hr := B.returns
  have hts := atoms_spec (ws := wsX12_mix) B.pre
  have hown : s.vm.findClass RX12 = some m.cls := findClass_of_methodNamed B.named
  have hlocks := B.notSynchronized
  have hK := hG.1
  subst hsz
  have hD := hD0.self (sz := s.heap.size)
  have hA : ∀ q : Nat, s.heap.size ≤ q → (va_A (wX12 cy a o S) s.heap.size) q := fun q h => Or.inr h
  have hS : va_S (va_A (wX12 cy a o S) s.heap.size) s.heap s.heap [] := va_S.rf
  have hinX12 := (by decide +kernel : ∀ w ∈ wsX120, w ∈ wsX12_mix)
  have hf190 := hts (.fieldLink RX12 190 "PianoRoundsModel" "hash" "J") (by decide +kernel)
  have hl := lv_entry ([.ref (a o), .long p1]) (n := 3) (Nat.le_of_ble_eq_true rfl)
  rw [lg_entry_eq]
  generalize (lg_sl ([.ref (a o), .long p1]) ++ List.replicate (3 - (lg_sl ([.ref (a o), .long p1])).length) Slot.unset).toArray = ls at hl ⊢
  have hl : lv_has ls 3 [(0, .ref (a o)), (1, .long p1)] := hl
  rw [DX12_mix] at h
  refine lv_aload_n hx hb dX12_mix_0 rfl (lv_at hl 0 rfl) ?_
  refine lv_ldc2 (v := (31 : Int64)) hx hb hown (hts (.constantLong RX12 188 (31 : Int64)) (by decide +kernel)) dX12_mix_1 ?_
  refine lv_aload_n hx hb dX12_mix_4 rfl (lv_at hl 0 rfl) ?_
  refine va_get (D := D) (ci := 12) (v := .long (gX12_hash S)) (C := RX12) (T := TX12) (N := 12) hx hb hts hinX12 hown hK hP 0 rfl rfl 11 (by decide) hf190 (fun _ h9 => h9) rfl dX12_mix_5 ?_
  refine lv_lmul hx hb dX12_mix_8 ?_
  refine lv_lload_n hx hb dX12_mix_9 rfl (lv_at hl 1 rfl) ?_
  refine lv_ladd hx hb dX12_mix_10 ?_
  refine va_put (D := D) (ci := 12) (v := .long (((31 : Int64) * (gX12_hash S)) + p1)) (ty := .long) (C := RX12) (T := TX12) (N := 12) hx hb hts hinX12 tyX12 tyX12_ok nmX12 hown hK hP hD hS 0 rfl rfl 11 (by decide) hf190 (fun _ h9 => h9) rfl (by decide +kernel) rfl rfl (Nat.le_of_ble_eq_true rfl) dX12_mix_11 (fun H locs hP hD hS => ?_)
  have hP : va_P D vwCl (wX12 cy a o (uX12_hash S (((31 : Int64) * (gX12_hash S)) + p1))) H := hP
  have hD : va_D (va_A (wX12 cy a o S) s.heap.size) (wX12 cy a o (uX12_hash S (((31 : Int64) * (gX12_hash S)) + p1))) := hD
  obtain ⟨S1, eS2, h⟩ := lt_elim h
  have hP : va_P D vwCl (wX12 cy a o S1) H := by rw [eS2]; exact hP
  have hD : va_D (va_A (wX12 cy a o S) s.heap.size) (wX12 cy a o S1) := by rw [eS2]; exact hD
  exact W.vret hx hb hr (fun t ht hW => ⟨⟨S1, rfl, some_in h, by rw [ht]; exact hP, hD⟩, hS.F ht⟩) hS.2.2 dX12_mix_14
set_option maxHeartbeats 4000000 in
set_option maxRecDepth 100000 in
theorem qX12_mixEntrant (l : Launch) (D : va_G) (cy : Nat → ClassId) (a : Nat → Nat) (o : Nat) (S : SX12) (p1 : Int32) (sz : Nat) (rs : SX12) (h : DX12_mixEntrant S p1 = some rs) : Met l yX12_mixEntrant wsX12_mixEntrant ({ frames := 7, cells := 0, slots := 0, locals := 157 } : Room) (mP D cy sz [.ref (a o), .int p1] (wX12 cy a o S)) (va_Qv (fun (u : SX12) => u = rs) (fun u t => mB D sz (wX12 cy a o S) (wX12 cy a o u) t) (va_A (wX12 cy a o S) sz)) 0 0 (va_A (wX12 cy a o S) sz) := by
  refine Met.ofW (cc := cX12_mixEntrant) (maxL := 4) (ret := none) (by decide) rfl ?_
  intro p e s m args below meth c s₁ B hml hv
  obtain ⟨rfl, hsz, hP, hG, hD0⟩ := hv
  have hx := B.exec
  have hb := B.bytes
  have hr := B.returns
  have hts := atoms_spec (ws := wsX12_mixEntrant) B.pre
  have hown : s.vm.findClass RX12 = some m.cls := findClass_of_methodNamed B.named
  have hlocks := B.notSynchronized
  have hK := hG.1
  subst hsz
  have hD := hD0.self (sz := s.heap.size)
  have hA : ∀ q : Nat, s.heap.size ≤ q → (va_A (wX12 cy a o S) s.heap.size) q := fun q h => Or.inr h
  have hS : va_S (va_A (wX12 cy a o S) s.heap.size) s.heap s.heap [] := va_S.rf
  have hinX12 := (by decide +kernel : ∀ w ∈ wsX120, w ∈ wsX12_mixEntrant)
  have hf7 := hts (.fieldLink RX12 7 "PianoRoundsModel" "m" "[I") (by decide +kernel)
  have hl := lv_entry ([.ref (a o), .int p1]) (n := 4) (Nat.le_of_ble_eq_true rfl)
  rw [lg_entry_eq]
  generalize (lg_sl ([.ref (a o), .int p1]) ++ List.replicate (4 - (lg_sl ([.ref (a o), .int p1])).length) Slot.unset).toArray = ls at hl ⊢
  have hl : lv_has ls 4 [(0, .ref (a o)), (1, .int p1)] := hl
  rw [DX12_mixEntrant] at h
  refine lv_iconst (v := (0 : Int32)) hx hb dX12_mixEntrant_0 (by decide) ?_
  refine lv_istore_n (lv' := [(2, .int (0 : Int32)), (0, .ref (a o)), (1, .int p1)]) hx hb dX12_mixEntrant_1 rfl hl (by decide) rfl (fun ls hl => ?_)
  have L59 : ∀ (c1_1 : Int32) (k3 : SX12 → Option (SX12)) (hk3 : ∀ (S4 : SX12) (H : Heap) (locs : List Loc) (ls : Array Slot), k3 S4 = some rs → va_P D vwCl (wX12 cy a o S4) H → va_D (va_A (wX12 cy a o S) s.heap.size) (wX12 cy a o S4) → va_S (va_A (wX12 cy a o S) s.heap.size) s.heap H locs → lv_has ls 4 [(0, .ref (a o)), (1, .int c1_1)] → W p l e (headSpec wsX12_mixEntrant ({ frames := 7, cells := 0, slots := 0, locals := 157 } : Room)).room s m ([.ref (a o), .int p1] : List Value).toArray below meth c H locs 0 0 (MQ below (va_Qv (fun (u : SX12) => u = rs) (fun u t => mB D s.heap.size (wX12 cy a o S) (wX12 cy a o u) t) (va_A (wX12 cy a o S) s.heap.size)) ([.ref (a o), .int p1] : List Value).toArray s 0 0 (va_A (wX12 cy a o S) s.heap.size)) (F0 m 25 ls [])) (f : Nat) (v2_54 : Int32) (S2 : SX12) (H : Heap) (locs : List Loc) (ls : Array Slot), DX12_mixEntrant_L2 c1_1 k3 f v2_54 S2 = some rs → va_P D vwCl (wX12 cy a o S2) H → va_D (va_A (wX12 cy a o S) s.heap.size) (wX12 cy a o S2) → va_S (va_A (wX12 cy a o S) s.heap.size) s.heap H locs → lv_has ls 4 [(0, .ref (a o)), (1, .int c1_1), (2, .int v2_54)] → W p l e (headSpec wsX12_mixEntrant ({ frames := 7, cells := 0, slots := 0, locals := 157 } : Room)).room s m ([.ref (a o), .int p1] : List Value).toArray below meth c H locs 0 0 (MQ below (va_Qv (fun (u : SX12) => u = rs) (fun u t => mB D s.heap.size (wX12 cy a o S) (wX12 cy a o u) t) (va_A (wX12 cy a o S) s.heap.size)) ([.ref (a o), .int p1] : List Value).toArray s 0 0 (va_A (wX12 cy a o S) s.heap.size)) (F0 m 2 ls []) := by
    intro c1_1 k3 hk3 f
    induction f with
    | zero =>
      intro v2_54 S2 H locs ls h hP hD hS hl
      rw [DX12_mixEntrant_L2] at h
      cases h
    | succ f ih =>
      intro v2_54 S2 H locs ls h hP hD hS hl
      rw [DX12_mixEntrant_L2] at h
      refine lv_iload_n hx hb dX12_mixEntrant_2 rfl (lv_at hl 2 rfl) ?_
      refine lv_bipush (v := (8 : Int32)) hx hb dX12_mixEntrant_3 (by decide) ?_
      refine lv_icmp_ge (tgt := 25) hx hb dX12_mixEntrant_5 (by decide) (fun cc => ?_) (fun cc => ?_)
      · have h := ite_p cc h
        exact hk3 S2 H locs ls h hP hD hS (lv_sub hl [0, 1] rfl)
      · have h := ite_n cc h
        refine lv_aload_n hx hb dX12_mixEntrant_8 rfl (lv_at hl 0 rfl) ?_
        refine lv_aload_n hx hb dX12_mixEntrant_9 rfl (lv_at hl 0 rfl) ?_
        refine lv_iload_n hx hb dX12_mixEntrant_10 rfl (lv_at hl 1 rfl) ?_
        refine lv_iload_n hx hb dX12_mixEntrant_11 rfl (lv_at hl 2 rfl) ?_
        obtain ⟨x55, e56, h⟩ := bd_some h
        refine pcV (As := [.int c1_1, .int v2_54]) (rest := [.ref (a o)]) (q0 := 0) (qX12_ofEntrant l D cy a o S2 c1_1 v2_54 x55 e56) ⟨hx, hb, hml, hown, hts⟩ (cwV 2 hts gX12_mixEntrant_X12_ofEntrant rfl rfl rfl (by decide +kernel) ⟨Nat.le_of_ble_eq_true rfl, Nat.le_of_ble_eq_true rfl⟩) hG hP rfl rfl rfl hl.1 rfl (Nat.le_of_ble_eq_true rfl) dX12_mixEntrant_12 ⟨Nat.zero_le _, Nat.zero_le _⟩ ?_
        refine lv_i2l (v := (x55).toInt64) hx hb dX12_mixEntrant_15 rfl ?_
        obtain ⟨x57, e58, h⟩ := bd_some h
        refine smVv (As := [.long ((x55).toInt64)]) (rest := []) (ws' := (wX12 cy a o x57)) (q0 := 0) (qX12_mix l D cy a o S2 ((x55).toInt64) (H).size x57 e58) ⟨hx, hb, hml, hown, hts⟩ (cwV 1 hts gX12_mixEntrant_X12_mix rfl rfl rfl (by decide +kernel) ⟨Nat.le_of_ble_eq_true rfl, Nat.le_of_ble_eq_true rfl⟩) hG hP hD hS hA (pm1 (X := ([] : va_W)) (c := (wX12 cy a o S2)) (Y := ([] : va_W)) (show (wX12 cy a o S2) = ([] : va_W) ++ ((wX12 cy a o S2) ++ ([] : va_W)) from by simp only [List.append_assoc, List.nil_append, List.append_nil] <;> rfl)) (pm1 (X := ([] : va_W)) (c := (wX12 cy a o x57)) (Y := ([] : va_W)) (show (wX12 cy a o x57) = ([] : va_W) ++ ((wX12 cy a o x57) ++ ([] : va_W)) from by simp only [List.append_assoc, List.nil_append, List.append_nil] <;> rfl)) rfl rfl rfl hl.1 rfl (Nat.le_of_ble_eq_true rfl) dX12_mixEntrant_16 ⟨Nat.zero_le _, Nat.zero_le _⟩ (fun H locs hP hD hS => ?_)
        refine lv_iinc (v := (v2_54 + (1 : Int32))) (lv' := [(2, .int (v2_54 + (1 : Int32))), (0, .ref (a o)), (1, .int c1_1)]) hx hb dX12_mixEntrant_19 hl (k := 2) rfl (by rfl) (by decide) rfl (fun ls hl => ?_)
        refine lv_goto (tgt := 2) hx hb dX12_mixEntrant_22 (by decide) ?_
        exact ih (v2_54 + (1 : Int32)) x57 H locs ls h hP hD hS (lv_sub hl [1, 2, 0] rfl)
  refine L59 p1 _ ?_ fu (0 : Int32) S s.heap [] ls h hP hD hS (lv_sub hl [1, 2, 0] rfl)
  intro S5 H locs ls h hP hD hS hl
  refine lv_iconst (v := (0 : Int32)) hx hb dX12_mixEntrant_25 (by decide) ?_
  refine lv_istore_n (lv' := [(2, .int (0 : Int32)), (0, .ref (a o)), (1, .int p1)]) hx hb dX12_mixEntrant_26 rfl hl (by decide) rfl (fun ls hl => ?_)
  have L53 : ∀ (c1_6 : Int32) (k8 : SX12 → Option (SX12)) (hk8 : ∀ (S9 : SX12) (H : Heap) (locs : List Loc) (ls : Array Slot), k8 S9 = some rs → va_P D vwCl (wX12 cy a o S9) H → va_D (va_A (wX12 cy a o S) s.heap.size) (wX12 cy a o S9) → va_S (va_A (wX12 cy a o S) s.heap.size) s.heap H locs → lv_has ls 4 [(0, .ref (a o)), (1, .int c1_6)] → W p l e (headSpec wsX12_mixEntrant ({ frames := 7, cells := 0, slots := 0, locals := 157 } : Room)).room s m ([.ref (a o), .int p1] : List Value).toArray below meth c H locs 0 0 (MQ below (va_Qv (fun (u : SX12) => u = rs) (fun u t => mB D s.heap.size (wX12 cy a o S) (wX12 cy a o u) t) (va_A (wX12 cy a o S) s.heap.size)) ([.ref (a o), .int p1] : List Value).toArray s 0 0 (va_A (wX12 cy a o S) s.heap.size)) (F0 m 93 ls [])) (f : Nat) (v2_33 : Int32) (S7 : SX12) (H : Heap) (locs : List Loc) (ls : Array Slot), DX12_mixEntrant_L27 c1_6 k8 f v2_33 S7 = some rs → va_P D vwCl (wX12 cy a o S7) H → va_D (va_A (wX12 cy a o S) s.heap.size) (wX12 cy a o S7) → va_S (va_A (wX12 cy a o S) s.heap.size) s.heap H locs → lv_has ls 4 [(0, .ref (a o)), (1, .int c1_6), (2, .int v2_33)] → W p l e (headSpec wsX12_mixEntrant ({ frames := 7, cells := 0, slots := 0, locals := 157 } : Room)).room s m ([.ref (a o), .int p1] : List Value).toArray below meth c H locs 0 0 (MQ below (va_Qv (fun (u : SX12) => u = rs) (fun u t => mB D s.heap.size (wX12 cy a o S) (wX12 cy a o u) t) (va_A (wX12 cy a o S) s.heap.size)) ([.ref (a o), .int p1] : List Value).toArray s 0 0 (va_A (wX12 cy a o S) s.heap.size)) (F0 m 27 ls []) := by
    intro c1_6 k8 hk8 f
    induction f with
    | zero =>
      intro v2_33 S7 H locs ls h hP hD hS hl
      rw [DX12_mixEntrant_L27] at h
      cases h
    | succ f ih =>
      intro v2_33 S7 H locs ls h hP hD hS hl
      rw [DX12_mixEntrant_L27] at h
      refine lv_iload_n hx hb dX12_mixEntrant_27 rfl (lv_at hl 2 rfl) ?_
      refine lv_iconst (v := (4 : Int32)) hx hb dX12_mixEntrant_28 (by decide) ?_
      refine lv_icmp_ge (tgt := 93) hx hb dX12_mixEntrant_29 (by decide) (fun cc => ?_) (fun cc => ?_)
      · have h := ite_p cc h
        exact hk8 S7 H locs ls h hP hD hS (lv_sub hl [0, 1] rfl)
      · have h := ite_n cc h
        refine lv_aload_n hx hb dX12_mixEntrant_32 rfl (lv_at hl 0 rfl) ?_
        refine lv_aload_n hx hb dX12_mixEntrant_33 rfl (lv_at hl 0 rfl) ?_
        refine lv_iload_n hx hb dX12_mixEntrant_34 rfl (lv_at hl 1 rfl) ?_
        refine lv_iload_n hx hb dX12_mixEntrant_35 rfl (lv_at hl 2 rfl) ?_
        obtain ⟨x34, e35, h⟩ := bd_some h
        refine pcV (As := [.int c1_6, .int v2_33]) (rest := [.ref (a o)]) (q0 := 0) (qX12_flawOf l D cy a o S7 c1_6 v2_33 x34 e35) ⟨hx, hb, hml, hown, hts⟩ (cwV 2 hts gX12_mixEntrant_X12_flawOf rfl rfl rfl (by decide +kernel) ⟨Nat.le_of_ble_eq_true rfl, Nat.le_of_ble_eq_true rfl⟩) hG hP rfl rfl rfl hl.1 rfl (Nat.le_of_ble_eq_true rfl) dX12_mixEntrant_36 ⟨Nat.zero_le _, Nat.zero_le _⟩ ?_
        refine lv_i2l (v := (x34).toInt64) hx hb dX12_mixEntrant_39 rfl ?_
        obtain ⟨x36, e37, h⟩ := bd_some h
        refine smVv (As := [.long ((x34).toInt64)]) (rest := []) (ws' := (wX12 cy a o x36)) (q0 := 0) (qX12_mix l D cy a o S7 ((x34).toInt64) (H).size x36 e37) ⟨hx, hb, hml, hown, hts⟩ (cwV 1 hts gX12_mixEntrant_X12_mix rfl rfl rfl (by decide +kernel) ⟨Nat.le_of_ble_eq_true rfl, Nat.le_of_ble_eq_true rfl⟩) hG hP hD hS hA (pm1 (X := ([] : va_W)) (c := (wX12 cy a o S7)) (Y := ([] : va_W)) (show (wX12 cy a o S7) = ([] : va_W) ++ ((wX12 cy a o S7) ++ ([] : va_W)) from by simp only [List.append_assoc, List.nil_append, List.append_nil] <;> rfl)) (pm1 (X := ([] : va_W)) (c := (wX12 cy a o x36)) (Y := ([] : va_W)) (show (wX12 cy a o x36) = ([] : va_W) ++ ((wX12 cy a o x36) ++ ([] : va_W)) from by simp only [List.append_assoc, List.nil_append, List.append_nil] <;> rfl)) rfl rfl rfl hl.1 rfl (Nat.le_of_ble_eq_true rfl) dX12_mixEntrant_40 ⟨Nat.zero_le _, Nat.zero_le _⟩ (fun H locs hP hD hS => ?_)
        refine lv_aload_n hx hb dX12_mixEntrant_43 rfl (lv_at hl 0 rfl) ?_
        refine lv_aload_n hx hb dX12_mixEntrant_44 rfl (lv_at hl 0 rfl) ?_
        refine va_get (D := D) (ci := 12) (v := .ref (a (o + 1))) (C := RX12) (T := TX12) (N := 12) hx hb hts hinX12 hown hK hP 0 rfl rfl 0 (by decide) hf7 (fun _ h9 => h9) rfl dX12_mixEntrant_45 ?_
        refine lv_sipush (v := (666 : Int32)) hx hb dX12_mixEntrant_48 (by decide) ?_
        refine lv_iconst (v := (4 : Int32)) hx hb dX12_mixEntrant_51 (by decide) ?_
        refine lv_iload_n hx hb dX12_mixEntrant_52 rfl (lv_at hl 1 rfl) ?_
        refine lv_imul hx hb dX12_mixEntrant_53 ?_
        refine lv_iadd hx hb dX12_mixEntrant_54 ?_
        refine lv_iload_n hx hb dX12_mixEntrant_55 rfl (lv_at hl 2 rfl) ?_
        refine lv_iadd hx hb dX12_mixEntrant_56 ?_
        obtain ⟨g38, h⟩ := gd_some h
        refine r_ald (f := (gX12_m x36)) (n := 714) (v := ((gX12_m x36) (((((666 : Int32) + ((4 : Int32) * c1_6)) + v2_33)).toNatClampNeg))) hx hb hK hP 1 0 rfl rfl (gIn_in g38) rfl dX12_mixEntrant_57 ?_
        refine lv_i2l (v := (((gX12_m x36) (((((666 : Int32) + ((4 : Int32) * c1_6)) + v2_33)).toNatClampNeg))).toInt64) hx hb dX12_mixEntrant_58 rfl ?_
        obtain ⟨x39, e40, h⟩ := bd_some h
        refine smVv (As := [.long ((((gX12_m x36) (((((666 : Int32) + ((4 : Int32) * c1_6)) + v2_33)).toNatClampNeg))).toInt64)]) (rest := []) (ws' := (wX12 cy a o x39)) (q0 := 0) (qX12_mix l D cy a o x36 ((((gX12_m x36) (((((666 : Int32) + ((4 : Int32) * c1_6)) + v2_33)).toNatClampNeg))).toInt64) (H).size x39 e40) ⟨hx, hb, hml, hown, hts⟩ (cwV 1 hts gX12_mixEntrant_X12_mix rfl rfl rfl (by decide +kernel) ⟨Nat.le_of_ble_eq_true rfl, Nat.le_of_ble_eq_true rfl⟩) hG hP hD hS hA (pm1 (X := ([] : va_W)) (c := (wX12 cy a o x36)) (Y := ([] : va_W)) (show (wX12 cy a o x36) = ([] : va_W) ++ ((wX12 cy a o x36) ++ ([] : va_W)) from by simp only [List.append_assoc, List.nil_append, List.append_nil] <;> rfl)) (pm1 (X := ([] : va_W)) (c := (wX12 cy a o x39)) (Y := ([] : va_W)) (show (wX12 cy a o x39) = ([] : va_W) ++ ((wX12 cy a o x39) ++ ([] : va_W)) from by simp only [List.append_assoc, List.nil_append, List.append_nil] <;> rfl)) rfl rfl rfl hl.1 rfl (Nat.le_of_ble_eq_true rfl) dX12_mixEntrant_59 ⟨Nat.zero_le _, Nat.zero_le _⟩ (fun H locs hP hD hS => ?_)
        refine lv_iconst (v := (0 : Int32)) hx hb dX12_mixEntrant_62 (by decide) ?_
        refine lv_istore_n (lv' := [(3, .int (0 : Int32)), (0, .ref (a o)), (1, .int c1_6), (2, .int v2_33)]) hx hb dX12_mixEntrant_63 rfl hl (by decide) rfl (fun ls hl => ?_)
        have L52 : ∀ (c1_41 : Int32) (c2_42 : Int32) (k44 : SX12 → Option (SX12)) (hk44 : ∀ (S45 : SX12) (H : Heap) (locs : List Loc) (ls : Array Slot), k44 S45 = some rs → va_P D vwCl (wX12 cy a o S45) H → va_D (va_A (wX12 cy a o S) s.heap.size) (wX12 cy a o S45) → va_S (va_A (wX12 cy a o S) s.heap.size) s.heap H locs → lv_has ls 4 [(0, .ref (a o)), (1, .int c1_41), (2, .int c2_42)] → W p l e (headSpec wsX12_mixEntrant ({ frames := 7, cells := 0, slots := 0, locals := 157 } : Room)).room s m ([.ref (a o), .int p1] : List Value).toArray below meth c H locs 0 0 (MQ below (va_Qv (fun (u : SX12) => u = rs) (fun u t => mB D s.heap.size (wX12 cy a o S) (wX12 cy a o u) t) (va_A (wX12 cy a o S) s.heap.size)) ([.ref (a o), .int p1] : List Value).toArray s 0 0 (va_A (wX12 cy a o S) s.heap.size)) (F0 m 87 ls [])) (f : Nat) (v3_47 : Int32) (S43 : SX12) (H : Heap) (locs : List Loc) (ls : Array Slot), DX12_mixEntrant_L64 c1_41 c2_42 k44 f v3_47 S43 = some rs → va_P D vwCl (wX12 cy a o S43) H → va_D (va_A (wX12 cy a o S) s.heap.size) (wX12 cy a o S43) → va_S (va_A (wX12 cy a o S) s.heap.size) s.heap H locs → lv_has ls 4 [(0, .ref (a o)), (1, .int c1_41), (2, .int c2_42), (3, .int v3_47)] → W p l e (headSpec wsX12_mixEntrant ({ frames := 7, cells := 0, slots := 0, locals := 157 } : Room)).room s m ([.ref (a o), .int p1] : List Value).toArray below meth c H locs 0 0 (MQ below (va_Qv (fun (u : SX12) => u = rs) (fun u t => mB D s.heap.size (wX12 cy a o S) (wX12 cy a o u) t) (va_A (wX12 cy a o S) s.heap.size)) ([.ref (a o), .int p1] : List Value).toArray s 0 0 (va_A (wX12 cy a o S) s.heap.size)) (F0 m 64 ls []) := by
          intro c1_41 c2_42 k44 hk44 f
          induction f with
          | zero =>
            intro v3_47 S43 H locs ls h hP hD hS hl
            rw [DX12_mixEntrant_L64] at h
            cases h
          | succ f ih =>
            intro v3_47 S43 H locs ls h hP hD hS hl
            rw [DX12_mixEntrant_L64] at h
            refine lv_iload_n hx hb dX12_mixEntrant_64 rfl (lv_at hl 3 rfl) ?_
            refine lv_iconst (v := (4 : Int32)) hx hb dX12_mixEntrant_65 (by decide) ?_
            refine lv_icmp_ge (tgt := 87) hx hb dX12_mixEntrant_66 (by decide) (fun cc => ?_) (fun cc => ?_)
            · have h := ite_p cc h
              exact hk44 S43 H locs ls h hP hD hS (lv_sub hl [0, 1, 2] rfl)
            · have h := ite_n cc h
              refine lv_aload_n hx hb dX12_mixEntrant_69 rfl (lv_at hl 0 rfl) ?_
              refine lv_aload_n hx hb dX12_mixEntrant_70 rfl (lv_at hl 0 rfl) ?_
              refine lv_iload_n hx hb dX12_mixEntrant_71 rfl (lv_at hl 1 rfl) ?_
              refine lv_iload_n hx hb dX12_mixEntrant_72 rfl (lv_at hl 2 rfl) ?_
              refine lv_iload_n hx hb dX12_mixEntrant_73 rfl (lv_at hl 3 rfl) ?_
              obtain ⟨x48, e49, h⟩ := bd_some h
              refine pcV (As := [.int c1_41, .int c2_42, .int v3_47]) (rest := [.ref (a o)]) (q0 := 0) (qX12_workAt l D cy a o S43 c1_41 c2_42 v3_47 x48 e49) ⟨hx, hb, hml, hown, hts⟩ (cwV 3 hts gX12_mixEntrant_X12_workAt rfl rfl rfl (by decide +kernel) ⟨Nat.le_of_ble_eq_true rfl, Nat.le_of_ble_eq_true rfl⟩) hG hP rfl rfl rfl hl.1 rfl (Nat.le_of_ble_eq_true rfl) dX12_mixEntrant_74 ⟨Nat.zero_le _, Nat.zero_le _⟩ ?_
              refine lv_i2l (v := (x48).toInt64) hx hb dX12_mixEntrant_77 rfl ?_
              obtain ⟨x50, e51, h⟩ := bd_some h
              refine smVv (As := [.long ((x48).toInt64)]) (rest := []) (ws' := (wX12 cy a o x50)) (q0 := 0) (qX12_mix l D cy a o S43 ((x48).toInt64) (H).size x50 e51) ⟨hx, hb, hml, hown, hts⟩ (cwV 1 hts gX12_mixEntrant_X12_mix rfl rfl rfl (by decide +kernel) ⟨Nat.le_of_ble_eq_true rfl, Nat.le_of_ble_eq_true rfl⟩) hG hP hD hS hA (pm1 (X := ([] : va_W)) (c := (wX12 cy a o S43)) (Y := ([] : va_W)) (show (wX12 cy a o S43) = ([] : va_W) ++ ((wX12 cy a o S43) ++ ([] : va_W)) from by simp only [List.append_assoc, List.nil_append, List.append_nil] <;> rfl)) (pm1 (X := ([] : va_W)) (c := (wX12 cy a o x50)) (Y := ([] : va_W)) (show (wX12 cy a o x50) = ([] : va_W) ++ ((wX12 cy a o x50) ++ ([] : va_W)) from by simp only [List.append_assoc, List.nil_append, List.append_nil] <;> rfl)) rfl rfl rfl hl.1 rfl (Nat.le_of_ble_eq_true rfl) dX12_mixEntrant_78 ⟨Nat.zero_le _, Nat.zero_le _⟩ (fun H locs hP hD hS => ?_)
              refine lv_iinc (v := (v3_47 + (1 : Int32))) (lv' := [(3, .int (v3_47 + (1 : Int32))), (0, .ref (a o)), (1, .int c1_41), (2, .int c2_42)]) hx hb dX12_mixEntrant_81 hl (k := 3) rfl (by rfl) (by decide) rfl (fun ls hl => ?_)
              refine lv_goto (tgt := 64) hx hb dX12_mixEntrant_84 (by decide) ?_
              exact ih (v3_47 + (1 : Int32)) x50 H locs ls h hP hD hS (lv_sub hl [1, 2, 3, 0] rfl)
        refine L52 c1_6 v2_33 _ ?_ fu (0 : Int32) x39 H locs ls h hP hD hS (lv_sub hl [1, 2, 3, 0] rfl)
        intro S46 H locs ls h hP hD hS hl
        refine lv_iinc (v := (v2_33 + (1 : Int32))) (lv' := [(2, .int (v2_33 + (1 : Int32))), (0, .ref (a o)), (1, .int c1_6)]) hx hb dX12_mixEntrant_87 hl (k := 2) rfl (by rfl) (by decide) rfl (fun ls hl => ?_)
        refine lv_goto (tgt := 27) hx hb dX12_mixEntrant_90 (by decide) ?_
        exact ih (v2_33 + (1 : Int32)) S46 H locs ls h hP hD hS (lv_sub hl [1, 2, 0] rfl)
  refine L53 p1 _ ?_ fu (0 : Int32) S5 H locs ls h hP hD hS (lv_sub hl [1, 2, 0] rfl)
  intro S10 H locs ls h hP hD hS hl
  refine lv_iconst (v := (0 : Int32)) hx hb dX12_mixEntrant_93 (by decide) ?_
  refine lv_istore_n (lv' := [(2, .int (0 : Int32)), (0, .ref (a o)), (1, .int p1)]) hx hb dX12_mixEntrant_94 rfl hl (by decide) rfl (fun ls hl => ?_)
  have L32 : ∀ (c1_11 : Int32) (k13 : SX12 → Option (SX12)) (hk13 : ∀ (S14 : SX12) (H : Heap) (locs : List Loc) (ls : Array Slot), k13 S14 = some rs → va_P D vwCl (wX12 cy a o S14) H → va_D (va_A (wX12 cy a o S) s.heap.size) (wX12 cy a o S14) → va_S (va_A (wX12 cy a o S) s.heap.size) s.heap H locs → lv_has ls 4 [] → W p l e (headSpec wsX12_mixEntrant ({ frames := 7, cells := 0, slots := 0, locals := 157 } : Room)).room s m ([.ref (a o), .int p1] : List Value).toArray below meth c H locs 0 0 (MQ below (va_Qv (fun (u : SX12) => u = rs) (fun u t => mB D s.heap.size (wX12 cy a o S) (wX12 cy a o u) t) (va_A (wX12 cy a o S) s.heap.size)) ([.ref (a o), .int p1] : List Value).toArray s 0 0 (va_A (wX12 cy a o S) s.heap.size)) (F0 m 168 ls [])) (f : Nat) (v2_16 : Int32) (S12 : SX12) (H : Heap) (locs : List Loc) (ls : Array Slot), DX12_mixEntrant_L95 c1_11 k13 f v2_16 S12 = some rs → va_P D vwCl (wX12 cy a o S12) H → va_D (va_A (wX12 cy a o S) s.heap.size) (wX12 cy a o S12) → va_S (va_A (wX12 cy a o S) s.heap.size) s.heap H locs → lv_has ls 4 [(0, .ref (a o)), (1, .int c1_11), (2, .int v2_16)] → W p l e (headSpec wsX12_mixEntrant ({ frames := 7, cells := 0, slots := 0, locals := 157 } : Room)).room s m ([.ref (a o), .int p1] : List Value).toArray below meth c H locs 0 0 (MQ below (va_Qv (fun (u : SX12) => u = rs) (fun u t => mB D s.heap.size (wX12 cy a o S) (wX12 cy a o u) t) (va_A (wX12 cy a o S) s.heap.size)) ([.ref (a o), .int p1] : List Value).toArray s 0 0 (va_A (wX12 cy a o S) s.heap.size)) (F0 m 95 ls []) := by
    intro c1_11 k13 hk13 f
    induction f with
    | zero =>
      intro v2_16 S12 H locs ls h hP hD hS hl
      rw [DX12_mixEntrant_L95] at h
      cases h
    | succ f ih =>
      intro v2_16 S12 H locs ls h hP hD hS hl
      rw [DX12_mixEntrant_L95] at h
      refine lv_iload_n hx hb dX12_mixEntrant_95 rfl (lv_at hl 2 rfl) ?_
      refine lv_aload_n hx hb dX12_mixEntrant_96 rfl (lv_at hl 0 rfl) ?_
      refine va_get (D := D) (ci := 12) (v := .ref (a (o + 1))) (C := RX12) (T := TX12) (N := 12) hx hb hts hinX12 hown hK hP 0 rfl rfl 0 (by decide) hf7 (fun _ h9 => h9) rfl dX12_mixEntrant_97 ?_
      refine lv_iconst (v := (0 : Int32)) hx hb dX12_mixEntrant_100 (by decide) ?_
      refine r_ald (f := (gX12_m S12)) (n := 714) (v := ((gX12_m S12) 0)) hx hb hK hP 1 0 rfl rfl (vp_in_nI (n := 0) (N := 714) (by decide) (by decide)) (congrArg (gX12_m S12) (nI_clamp (n := 0) (by decide))) dX12_mixEntrant_101 ?_
      refine lv_icmp_ge (tgt := 168) hx hb dX12_mixEntrant_102 (by decide) (fun cc => ?_) (fun cc => ?_)
      · have h := ite_p cc h
        exact hk13 S12 H locs ls h hP hD hS (lv_sub hl [] rfl)
      · have h := ite_n cc h
        refine lv_aload_n hx hb dX12_mixEntrant_105 rfl (lv_at hl 0 rfl) ?_
        refine lv_aload_n hx hb dX12_mixEntrant_106 rfl (lv_at hl 0 rfl) ?_
        refine va_get (D := D) (ci := 12) (v := .ref (a (o + 1))) (C := RX12) (T := TX12) (N := 12) hx hb hts hinX12 hown hK hP 0 rfl rfl 0 (by decide) hf7 (fun _ h9 => h9) rfl dX12_mixEntrant_107 ?_
        refine lv_sipush (v := (378 : Int32)) hx hb dX12_mixEntrant_110 (by decide) ?_
        refine lv_iload_n hx hb dX12_mixEntrant_113 rfl (lv_at hl 2 rfl) ?_
        refine lv_iload_n hx hb dX12_mixEntrant_114 rfl (lv_at hl 1 rfl) ?_
        obtain ⟨x17, e18, h⟩ := bd_some h
        refine pcS (As := [.int v2_16, .int c1_11]) (rest := [.int (378 : Int32), .ref (a (o + 1)), .ref (a o)]) (qX12_seat l D cy  v2_16 c1_11 x17 e18) ⟨hx, hb, hml, hown, hts⟩ (va_cwS 2 hts gX12_mixEntrant_X12_seat rfl rfl rfl (by decide +kernel) ⟨Nat.le_of_ble_eq_true rfl, Nat.le_of_ble_eq_true rfl⟩) hG (hP.sub [] rfl) rfl hl.1 rfl (Nat.le_of_ble_eq_true rfl) dX12_mixEntrant_115 ⟨Nat.zero_le _, Nat.zero_le _⟩ ?_
        refine lv_iadd hx hb dX12_mixEntrant_118 ?_
        obtain ⟨g19, h⟩ := gd_some h
        refine r_ald (f := (gX12_m S12)) (n := 714) (v := ((gX12_m S12) ((((378 : Int32) + x17)).toNatClampNeg))) hx hb hK hP 1 0 rfl rfl (gIn_in g19) rfl dX12_mixEntrant_119 ?_
        refine lv_i2l (v := (((gX12_m S12) ((((378 : Int32) + x17)).toNatClampNeg))).toInt64) hx hb dX12_mixEntrant_120 rfl ?_
        obtain ⟨x20, e21, h⟩ := bd_some h
        refine smVv (As := [.long ((((gX12_m S12) ((((378 : Int32) + x17)).toNatClampNeg))).toInt64)]) (rest := []) (ws' := (wX12 cy a o x20)) (q0 := 0) (qX12_mix l D cy a o S12 ((((gX12_m S12) ((((378 : Int32) + x17)).toNatClampNeg))).toInt64) (H).size x20 e21) ⟨hx, hb, hml, hown, hts⟩ (cwV 1 hts gX12_mixEntrant_X12_mix rfl rfl rfl (by decide +kernel) ⟨Nat.le_of_ble_eq_true rfl, Nat.le_of_ble_eq_true rfl⟩) hG hP hD hS hA (pm1 (X := ([] : va_W)) (c := (wX12 cy a o S12)) (Y := ([] : va_W)) (show (wX12 cy a o S12) = ([] : va_W) ++ ((wX12 cy a o S12) ++ ([] : va_W)) from by simp only [List.append_assoc, List.nil_append, List.append_nil] <;> rfl)) (pm1 (X := ([] : va_W)) (c := (wX12 cy a o x20)) (Y := ([] : va_W)) (show (wX12 cy a o x20) = ([] : va_W) ++ ((wX12 cy a o x20) ++ ([] : va_W)) from by simp only [List.append_assoc, List.nil_append, List.append_nil] <;> rfl)) rfl rfl rfl hl.1 rfl (Nat.le_of_ble_eq_true rfl) dX12_mixEntrant_121 ⟨Nat.zero_le _, Nat.zero_le _⟩ (fun H locs hP hD hS => ?_)
        refine lv_aload_n hx hb dX12_mixEntrant_124 rfl (lv_at hl 0 rfl) ?_
        refine lv_aload_n hx hb dX12_mixEntrant_125 rfl (lv_at hl 0 rfl) ?_
        refine va_get (D := D) (ci := 12) (v := .ref (a (o + 1))) (C := RX12) (T := TX12) (N := 12) hx hb hts hinX12 hown hK hP 0 rfl rfl 0 (by decide) hf7 (fun _ h9 => h9) rfl dX12_mixEntrant_126 ?_
        refine lv_sipush (v := (486 : Int32)) hx hb dX12_mixEntrant_129 (by decide) ?_
        refine lv_iload_n hx hb dX12_mixEntrant_132 rfl (lv_at hl 2 rfl) ?_
        refine lv_iload_n hx hb dX12_mixEntrant_133 rfl (lv_at hl 1 rfl) ?_
        obtain ⟨x22, e23, h⟩ := bd_some h
        refine pcS (As := [.int v2_16, .int c1_11]) (rest := [.int (486 : Int32), .ref (a (o + 1)), .ref (a o)]) (qX12_seat l D cy  v2_16 c1_11 x22 e23) ⟨hx, hb, hml, hown, hts⟩ (va_cwS 2 hts gX12_mixEntrant_X12_seat rfl rfl rfl (by decide +kernel) ⟨Nat.le_of_ble_eq_true rfl, Nat.le_of_ble_eq_true rfl⟩) hG (hP.sub [] rfl) rfl hl.1 rfl (Nat.le_of_ble_eq_true rfl) dX12_mixEntrant_134 ⟨Nat.zero_le _, Nat.zero_le _⟩ ?_
        refine lv_iadd hx hb dX12_mixEntrant_137 ?_
        obtain ⟨g24, h⟩ := gd_some h
        refine r_ald (f := (gX12_m x20)) (n := 714) (v := ((gX12_m x20) ((((486 : Int32) + x22)).toNatClampNeg))) hx hb hK hP 1 0 rfl rfl (gIn_in g24) rfl dX12_mixEntrant_138 ?_
        refine lv_i2l (v := (((gX12_m x20) ((((486 : Int32) + x22)).toNatClampNeg))).toInt64) hx hb dX12_mixEntrant_139 rfl ?_
        obtain ⟨x25, e26, h⟩ := bd_some h
        refine smVv (As := [.long ((((gX12_m x20) ((((486 : Int32) + x22)).toNatClampNeg))).toInt64)]) (rest := []) (ws' := (wX12 cy a o x25)) (q0 := 0) (qX12_mix l D cy a o x20 ((((gX12_m x20) ((((486 : Int32) + x22)).toNatClampNeg))).toInt64) (H).size x25 e26) ⟨hx, hb, hml, hown, hts⟩ (cwV 1 hts gX12_mixEntrant_X12_mix rfl rfl rfl (by decide +kernel) ⟨Nat.le_of_ble_eq_true rfl, Nat.le_of_ble_eq_true rfl⟩) hG hP hD hS hA (pm1 (X := ([] : va_W)) (c := (wX12 cy a o x20)) (Y := ([] : va_W)) (show (wX12 cy a o x20) = ([] : va_W) ++ ((wX12 cy a o x20) ++ ([] : va_W)) from by simp only [List.append_assoc, List.nil_append, List.append_nil] <;> rfl)) (pm1 (X := ([] : va_W)) (c := (wX12 cy a o x25)) (Y := ([] : va_W)) (show (wX12 cy a o x25) = ([] : va_W) ++ ((wX12 cy a o x25) ++ ([] : va_W)) from by simp only [List.append_assoc, List.nil_append, List.append_nil] <;> rfl)) rfl rfl rfl hl.1 rfl (Nat.le_of_ble_eq_true rfl) dX12_mixEntrant_140 ⟨Nat.zero_le _, Nat.zero_le _⟩ (fun H locs hP hD hS => ?_)
        refine lv_aload_n hx hb dX12_mixEntrant_143 rfl (lv_at hl 0 rfl) ?_
        refine lv_aload_n hx hb dX12_mixEntrant_144 rfl (lv_at hl 0 rfl) ?_
        refine va_get (D := D) (ci := 12) (v := .ref (a (o + 1))) (C := RX12) (T := TX12) (N := 12) hx hb hts hinX12 hown hK hP 0 rfl rfl 0 (by decide) hf7 (fun _ h9 => h9) rfl dX12_mixEntrant_145 ?_
        refine lv_sipush (v := (570 : Int32)) hx hb dX12_mixEntrant_148 (by decide) ?_
        refine lv_iload_n hx hb dX12_mixEntrant_151 rfl (lv_at hl 2 rfl) ?_
        refine lv_iload_n hx hb dX12_mixEntrant_152 rfl (lv_at hl 1 rfl) ?_
        obtain ⟨x27, e28, h⟩ := bd_some h
        refine pcS (As := [.int v2_16, .int c1_11]) (rest := [.int (570 : Int32), .ref (a (o + 1)), .ref (a o)]) (qX12_seat l D cy  v2_16 c1_11 x27 e28) ⟨hx, hb, hml, hown, hts⟩ (va_cwS 2 hts gX12_mixEntrant_X12_seat rfl rfl rfl (by decide +kernel) ⟨Nat.le_of_ble_eq_true rfl, Nat.le_of_ble_eq_true rfl⟩) hG (hP.sub [] rfl) rfl hl.1 rfl (Nat.le_of_ble_eq_true rfl) dX12_mixEntrant_153 ⟨Nat.zero_le _, Nat.zero_le _⟩ ?_
        refine lv_iadd hx hb dX12_mixEntrant_156 ?_
        obtain ⟨g29, h⟩ := gd_some h
        refine r_ald (f := (gX12_m x25)) (n := 714) (v := ((gX12_m x25) ((((570 : Int32) + x27)).toNatClampNeg))) hx hb hK hP 1 0 rfl rfl (gIn_in g29) rfl dX12_mixEntrant_157 ?_
        refine lv_i2l (v := (((gX12_m x25) ((((570 : Int32) + x27)).toNatClampNeg))).toInt64) hx hb dX12_mixEntrant_158 rfl ?_
        obtain ⟨x30, e31, h⟩ := bd_some h
        refine smVv (As := [.long ((((gX12_m x25) ((((570 : Int32) + x27)).toNatClampNeg))).toInt64)]) (rest := []) (ws' := (wX12 cy a o x30)) (q0 := 0) (qX12_mix l D cy a o x25 ((((gX12_m x25) ((((570 : Int32) + x27)).toNatClampNeg))).toInt64) (H).size x30 e31) ⟨hx, hb, hml, hown, hts⟩ (cwV 1 hts gX12_mixEntrant_X12_mix rfl rfl rfl (by decide +kernel) ⟨Nat.le_of_ble_eq_true rfl, Nat.le_of_ble_eq_true rfl⟩) hG hP hD hS hA (pm1 (X := ([] : va_W)) (c := (wX12 cy a o x25)) (Y := ([] : va_W)) (show (wX12 cy a o x25) = ([] : va_W) ++ ((wX12 cy a o x25) ++ ([] : va_W)) from by simp only [List.append_assoc, List.nil_append, List.append_nil] <;> rfl)) (pm1 (X := ([] : va_W)) (c := (wX12 cy a o x30)) (Y := ([] : va_W)) (show (wX12 cy a o x30) = ([] : va_W) ++ ((wX12 cy a o x30) ++ ([] : va_W)) from by simp only [List.append_assoc, List.nil_append, List.append_nil] <;> rfl)) rfl rfl rfl hl.1 rfl (Nat.le_of_ble_eq_true rfl) dX12_mixEntrant_159 ⟨Nat.zero_le _, Nat.zero_le _⟩ (fun H locs hP hD hS => ?_)
        refine lv_iinc (v := (v2_16 + (1 : Int32))) (lv' := [(2, .int (v2_16 + (1 : Int32))), (0, .ref (a o)), (1, .int c1_11)]) hx hb dX12_mixEntrant_162 hl (k := 2) rfl (by rfl) (by decide) rfl (fun ls hl => ?_)
        refine lv_goto (tgt := 95) hx hb dX12_mixEntrant_165 (by decide) ?_
        exact ih (v2_16 + (1 : Int32)) x30 H locs ls h hP hD hS (lv_sub hl [1, 2, 0] rfl)
  refine L32 p1 _ ?_ fu (0 : Int32) S10 H locs ls h hP hD hS (lv_sub hl [1, 2, 0] rfl)
  intro S15 H locs ls h hP hD hS hl
  exact W.vret hx hb hr (fun t ht hW => ⟨⟨S15, rfl, some_in h, by rw [ht]; exact hP, hD⟩, hS.F ht⟩) hS.2.2 dX12_mixEntrant_168
set_option maxHeartbeats 4000000 in
set_option maxRecDepth 100000 in
theorem qX12_checksum (l : Launch) (D : va_G) (cy : Nat → ClassId) (a : Nat → Nat) (o : Nat) (S : SX12)  (sz : Nat) (rs : Int64 × SX12) (h : DX12_checksum S = some rs) : Met l yX12_checksum wsX12_checksum ({ frames := 8, cells := 0, slots := 0, locals := 180 } : Room) (mP D cy sz [.ref (a o)] (wX12 cy a o S)) (va_Ql (fun r (u : SX12) => (r, u) = rs) (fun u t => mB D sz (wX12 cy a o S) (wX12 cy a o u) t) (va_A (wX12 cy a o S) sz)) 0 0 (va_A (wX12 cy a o S) sz) := by
  refine Met.ofW (cc := cX12_checksum) (maxL := 2) (ret := (some .long)) (by decide) rfl ?_
  intro p e s m args below meth c s₁ B hml hv
  obtain ⟨rfl, hsz, hP, hG, hD0⟩ := hv
  have hx := B.exec
  have hb := B.bytes
  have hr := B.returns
  have hts := atoms_spec (ws := wsX12_checksum) B.pre
  have hown : s.vm.findClass RX12 = some m.cls := findClass_of_methodNamed B.named
  have hlocks := B.notSynchronized
  have hK := hG.1
  subst hsz
  have hD := hD0.self (sz := s.heap.size)
  have hA : ∀ q : Nat, s.heap.size ≤ q → (va_A (wX12 cy a o S) s.heap.size) q := fun q h => Or.inr h
  have hS : va_S (va_A (wX12 cy a o S) s.heap.size) s.heap s.heap [] := va_S.rf
  have hinX12 := (by decide +kernel : ∀ w ∈ wsX120, w ∈ wsX12_checksum)
  have hf31 := hts (.fieldLink RX12 31 "PianoRoundsModel" "code" "I") (by decide +kernel)
  have hf190 := hts (.fieldLink RX12 190 "PianoRoundsModel" "hash" "J") (by decide +kernel)
  have hf176 := hts (.fieldLink RX12 176 "PianoRoundsModel" "textLength" "I") (by decide +kernel)
  have hf35 := hts (.fieldLink RX12 35 "PianoRoundsModel" "savedCount" "I") (by decide +kernel)
  have hf7 := hts (.fieldLink RX12 7 "PianoRoundsModel" "m" "[I") (by decide +kernel)
  have hl := lv_entry ([.ref (a o)]) (n := 2) (Nat.le_of_ble_eq_true rfl)
  rw [lg_entry_eq]
  generalize (lg_sl ([.ref (a o)]) ++ List.replicate (2 - (lg_sl ([.ref (a o)])).length) Slot.unset).toArray = ls at hl ⊢
  have hl : lv_has ls 2 [(0, .ref (a o))] := hl
  rw [DX12_checksum] at h
  refine lv_aload_n hx hb dX12_checksum_0 rfl (lv_at hl 0 rfl) ?_
  refine lv_iconst (v := (0 : Int32)) hx hb dX12_checksum_1 (by decide) ?_
  refine va_put (D := D) (ci := 12) (v := .int (0 : Int32)) (ty := .int) (C := RX12) (T := TX12) (N := 12) hx hb hts hinX12 tyX12 tyX12_ok nmX12 hown hK hP hD hS 0 rfl rfl 5 (by decide) hf31 (fun _ h9 => h9) rfl (by decide +kernel) rfl rfl (Nat.le_of_ble_eq_true rfl) dX12_checksum_2 (fun H locs hP hD hS => ?_)
  have hP : va_P D vwCl (wX12 cy a o (uX12_code S (0 : Int32))) H := hP
  have hD : va_D (va_A (wX12 cy a o S) s.heap.size) (wX12 cy a o (uX12_code S (0 : Int32))) := hD
  obtain ⟨S1, eS2, h⟩ := lt_elim h
  have hP : va_P D vwCl (wX12 cy a o S1) H := by rw [eS2]; exact hP
  have hD : va_D (va_A (wX12 cy a o S) s.heap.size) (wX12 cy a o S1) := by rw [eS2]; exact hD
  refine lv_aload_n hx hb dX12_checksum_5 rfl (lv_at hl 0 rfl) ?_
  refine lv_ldc2 (v := (43009 : Int64)) hx hb hown (hts (.constantLong RX12 198 (43009 : Int64)) (by decide +kernel)) dX12_checksum_6 ?_
  refine va_put (D := D) (ci := 12) (v := .long (43009 : Int64)) (ty := .long) (C := RX12) (T := TX12) (N := 12) hx hb hts hinX12 tyX12 tyX12_ok nmX12 hown hK hP hD hS 0 rfl rfl 11 (by decide) hf190 (fun _ h9 => h9) rfl (by decide +kernel) rfl rfl (Nat.le_of_ble_eq_true rfl) dX12_checksum_9 (fun H locs hP hD hS => ?_)
  have hP : va_P D vwCl (wX12 cy a o (uX12_hash S1 (43009 : Int64))) H := hP
  have hD : va_D (va_A (wX12 cy a o S) s.heap.size) (wX12 cy a o (uX12_hash S1 (43009 : Int64))) := hD
  obtain ⟨S3, eS4, h⟩ := lt_elim h
  have hP : va_P D vwCl (wX12 cy a o S3) H := by rw [eS4]; exact hP
  have hD : va_D (va_A (wX12 cy a o S) s.heap.size) (wX12 cy a o S3) := by rw [eS4]; exact hD
  refine lv_iconst (v := (0 : Int32)) hx hb dX12_checksum_12 (by decide) ?_
  refine lv_istore_n (lv' := [(1, .int (0 : Int32)), (0, .ref (a o))]) hx hb dX12_checksum_13 rfl hl (by decide) rfl (fun ls hl => ?_)
  have L57 : ∀ (k6 : SX12 → Option (Int64 × SX12)) (hk6 : ∀ (S7 : SX12) (H : Heap) (locs : List Loc) (ls : Array Slot), k6 S7 = some rs → va_P D vwCl (wX12 cy a o S7) H → va_D (va_A (wX12 cy a o S) s.heap.size) (wX12 cy a o S7) → va_S (va_A (wX12 cy a o S) s.heap.size) s.heap H locs → lv_has ls 2 [(0, .ref (a o))] → W p l e (headSpec wsX12_checksum ({ frames := 8, cells := 0, slots := 0, locals := 180 } : Room)).room s m ([.ref (a o)] : List Value).toArray below meth c H locs 0 0 (MQ below (va_Ql (fun r (u : SX12) => (r, u) = rs) (fun u t => mB D s.heap.size (wX12 cy a o S) (wX12 cy a o u) t) (va_A (wX12 cy a o S) s.heap.size)) ([.ref (a o)] : List Value).toArray s 0 0 (va_A (wX12 cy a o S) s.heap.size)) (F0 m 36 ls [])) (f : Nat) (v1_52 : Int32) (S5 : SX12) (H : Heap) (locs : List Loc) (ls : Array Slot), DX12_checksum_L14 k6 f v1_52 S5 = some rs → va_P D vwCl (wX12 cy a o S5) H → va_D (va_A (wX12 cy a o S) s.heap.size) (wX12 cy a o S5) → va_S (va_A (wX12 cy a o S) s.heap.size) s.heap H locs → lv_has ls 2 [(0, .ref (a o)), (1, .int v1_52)] → W p l e (headSpec wsX12_checksum ({ frames := 8, cells := 0, slots := 0, locals := 180 } : Room)).room s m ([.ref (a o)] : List Value).toArray below meth c H locs 0 0 (MQ below (va_Ql (fun r (u : SX12) => (r, u) = rs) (fun u t => mB D s.heap.size (wX12 cy a o S) (wX12 cy a o u) t) (va_A (wX12 cy a o S) s.heap.size)) ([.ref (a o)] : List Value).toArray s 0 0 (va_A (wX12 cy a o S) s.heap.size)) (F0 m 14 ls []) := by
    intro k6 hk6 f
    induction f with
    | zero =>
      intro v1_52 S5 H locs ls h hP hD hS hl
      rw [DX12_checksum_L14] at h
      cases h
    | succ f ih =>
      intro v1_52 S5 H locs ls h hP hD hS hl
      rw [DX12_checksum_L14] at h
      refine lv_iload_n hx hb dX12_checksum_14 rfl (lv_at hl 1 rfl) ?_
      refine lv_bipush (v := (13 : Int32)) hx hb dX12_checksum_15 (by decide) ?_
      refine lv_icmp_ge (tgt := 36) hx hb dX12_checksum_17 (by decide) (fun cc => ?_) (fun cc => ?_)
      · have h := ite_p cc h
        exact hk6 S5 H locs ls h hP hD hS (lv_sub hl [0] rfl)
      · have h := ite_n cc h
        refine lv_aload_n hx hb dX12_checksum_20 rfl (lv_at hl 0 rfl) ?_
        refine lv_aload_n hx hb dX12_checksum_21 rfl (lv_at hl 0 rfl) ?_
        refine lv_iload_n hx hb dX12_checksum_22 rfl (lv_at hl 1 rfl) ?_
        obtain ⟨x53, e54, h⟩ := bd_some h
        refine pcV (As := [.int v1_52]) (rest := [.ref (a o)]) (q0 := 0) (qX12_infoOf l D cy a o S5 v1_52 x53 e54) ⟨hx, hb, hml, hown, hts⟩ (cwV 1 hts gX12_checksum_X12_infoOf rfl rfl rfl (by decide +kernel) ⟨Nat.le_of_ble_eq_true rfl, Nat.le_of_ble_eq_true rfl⟩) hG hP rfl rfl rfl hl.1 rfl (Nat.le_of_ble_eq_true rfl) dX12_checksum_23 ⟨Nat.zero_le _, Nat.zero_le _⟩ ?_
        refine lv_i2l (v := (x53).toInt64) hx hb dX12_checksum_26 rfl ?_
        obtain ⟨x55, e56, h⟩ := bd_some h
        refine smVv (As := [.long ((x53).toInt64)]) (rest := []) (ws' := (wX12 cy a o x55)) (q0 := 0) (qX12_mix l D cy a o S5 ((x53).toInt64) (H).size x55 e56) ⟨hx, hb, hml, hown, hts⟩ (cwV 1 hts gX12_checksum_X12_mix rfl rfl rfl (by decide +kernel) ⟨Nat.le_of_ble_eq_true rfl, Nat.le_of_ble_eq_true rfl⟩) hG hP hD hS hA (pm1 (X := ([] : va_W)) (c := (wX12 cy a o S5)) (Y := ([] : va_W)) (show (wX12 cy a o S5) = ([] : va_W) ++ ((wX12 cy a o S5) ++ ([] : va_W)) from by simp only [List.append_assoc, List.nil_append, List.append_nil] <;> rfl)) (pm1 (X := ([] : va_W)) (c := (wX12 cy a o x55)) (Y := ([] : va_W)) (show (wX12 cy a o x55) = ([] : va_W) ++ ((wX12 cy a o x55) ++ ([] : va_W)) from by simp only [List.append_assoc, List.nil_append, List.append_nil] <;> rfl)) rfl rfl rfl hl.1 rfl (Nat.le_of_ble_eq_true rfl) dX12_checksum_27 ⟨Nat.zero_le _, Nat.zero_le _⟩ (fun H locs hP hD hS => ?_)
        refine lv_iinc (v := (v1_52 + (1 : Int32))) (lv' := [(1, .int (v1_52 + (1 : Int32))), (0, .ref (a o))]) hx hb dX12_checksum_30 hl (k := 1) rfl (by rfl) (by decide) rfl (fun ls hl => ?_)
        refine lv_goto (tgt := 14) hx hb dX12_checksum_33 (by decide) ?_
        exact ih (v1_52 + (1 : Int32)) x55 H locs ls h hP hD hS (lv_sub hl [1, 0] rfl)
  refine L57  _ ?_ fu (0 : Int32) S3 H locs ls h hP hD hS (lv_sub hl [1, 0] rfl)
  intro S8 H locs ls h hP hD hS hl
  refine lv_iconst (v := (0 : Int32)) hx hb dX12_checksum_36 (by decide) ?_
  refine lv_istore_n (lv' := [(1, .int (0 : Int32)), (0, .ref (a o))]) hx hb dX12_checksum_37 rfl hl (by decide) rfl (fun ls hl => ?_)
  have L51 : ∀ (k10 : SX12 → Option (Int64 × SX12)) (hk10 : ∀ (S11 : SX12) (H : Heap) (locs : List Loc) (ls : Array Slot), k10 S11 = some rs → va_P D vwCl (wX12 cy a o S11) H → va_D (va_A (wX12 cy a o S) s.heap.size) (wX12 cy a o S11) → va_S (va_A (wX12 cy a o S) s.heap.size) s.heap H locs → lv_has ls 2 [(0, .ref (a o))] → W p l e (headSpec wsX12_checksum ({ frames := 8, cells := 0, slots := 0, locals := 180 } : Room)).room s m ([.ref (a o)] : List Value).toArray below meth c H locs 0 0 (MQ below (va_Ql (fun r (u : SX12) => (r, u) = rs) (fun u t => mB D s.heap.size (wX12 cy a o S) (wX12 cy a o u) t) (va_A (wX12 cy a o S) s.heap.size)) ([.ref (a o)] : List Value).toArray s 0 0 (va_A (wX12 cy a o S) s.heap.size)) (F0 m 70 ls [])) (f : Nat) (v1_47 : Int32) (S9 : SX12) (H : Heap) (locs : List Loc) (ls : Array Slot), DX12_checksum_L38 k10 f v1_47 S9 = some rs → va_P D vwCl (wX12 cy a o S9) H → va_D (va_A (wX12 cy a o S) s.heap.size) (wX12 cy a o S9) → va_S (va_A (wX12 cy a o S) s.heap.size) s.heap H locs → lv_has ls 2 [(0, .ref (a o)), (1, .int v1_47)] → W p l e (headSpec wsX12_checksum ({ frames := 8, cells := 0, slots := 0, locals := 180 } : Room)).room s m ([.ref (a o)] : List Value).toArray below meth c H locs 0 0 (MQ below (va_Ql (fun r (u : SX12) => (r, u) = rs) (fun u t => mB D s.heap.size (wX12 cy a o S) (wX12 cy a o u) t) (va_A (wX12 cy a o S) s.heap.size)) ([.ref (a o)] : List Value).toArray s 0 0 (va_A (wX12 cy a o S) s.heap.size)) (F0 m 38 ls []) := by
    intro k10 hk10 f
    induction f with
    | zero =>
      intro v1_47 S9 H locs ls h hP hD hS hl
      rw [DX12_checksum_L38] at h
      cases h
    | succ f ih =>
      intro v1_47 S9 H locs ls h hP hD hS hl
      rw [DX12_checksum_L38] at h
      refine lv_iload_n hx hb dX12_checksum_38 rfl (lv_at hl 1 rfl) ?_
      refine lv_iconst (v := (3 : Int32)) hx hb dX12_checksum_39 (by decide) ?_
      refine lv_aload_n hx hb dX12_checksum_40 rfl (lv_at hl 0 rfl) ?_
      refine va_get (D := D) (ci := 12) (v := .ref (a (o + 1))) (C := RX12) (T := TX12) (N := 12) hx hb hts hinX12 hown hK hP 0 rfl rfl 0 (by decide) hf7 (fun _ h9 => h9) rfl dX12_checksum_41 ?_
      refine lv_iconst (v := (5 : Int32)) hx hb dX12_checksum_44 (by decide) ?_
      refine r_ald (f := (gX12_m S9)) (n := 714) (v := ((gX12_m S9) 5)) hx hb hK hP 1 0 rfl rfl (vp_in_nI (n := 5) (N := 714) (by decide) (by decide)) (congrArg (gX12_m S9) (nI_clamp (n := 5) (by decide))) dX12_checksum_45 ?_
      refine lv_imul hx hb dX12_checksum_46 ?_
      refine lv_icmp_ge (tgt := 70) hx hb dX12_checksum_47 (by decide) (fun cc => ?_) (fun cc => ?_)
      · have h := ite_p cc h
        exact hk10 S9 H locs ls h hP hD hS (lv_sub hl [0] rfl)
      · have h := ite_n cc h
        refine lv_aload_n hx hb dX12_checksum_50 rfl (lv_at hl 0 rfl) ?_
        refine lv_aload_n hx hb dX12_checksum_51 rfl (lv_at hl 0 rfl) ?_
        refine va_get (D := D) (ci := 12) (v := .ref (a (o + 1))) (C := RX12) (T := TX12) (N := 12) hx hb hts hinX12 hown hK hP 0 rfl rfl 0 (by decide) hf7 (fun _ h9 => h9) rfl dX12_checksum_52 ?_
        refine lv_bipush (v := (12 : Int32)) hx hb dX12_checksum_55 (by decide) ?_
        refine lv_iload_n hx hb dX12_checksum_57 rfl (lv_at hl 1 rfl) ?_
        refine lv_iadd hx hb dX12_checksum_58 ?_
        obtain ⟨g48, h⟩ := gd_some h
        refine r_ald (f := (gX12_m S9)) (n := 714) (v := ((gX12_m S9) ((((12 : Int32) + v1_47)).toNatClampNeg))) hx hb hK hP 1 0 rfl rfl (gIn_in g48) rfl dX12_checksum_59 ?_
        refine lv_i2l (v := (((gX12_m S9) ((((12 : Int32) + v1_47)).toNatClampNeg))).toInt64) hx hb dX12_checksum_60 rfl ?_
        obtain ⟨x49, e50, h⟩ := bd_some h
        refine smVv (As := [.long ((((gX12_m S9) ((((12 : Int32) + v1_47)).toNatClampNeg))).toInt64)]) (rest := []) (ws' := (wX12 cy a o x49)) (q0 := 0) (qX12_mix l D cy a o S9 ((((gX12_m S9) ((((12 : Int32) + v1_47)).toNatClampNeg))).toInt64) (H).size x49 e50) ⟨hx, hb, hml, hown, hts⟩ (cwV 1 hts gX12_checksum_X12_mix rfl rfl rfl (by decide +kernel) ⟨Nat.le_of_ble_eq_true rfl, Nat.le_of_ble_eq_true rfl⟩) hG hP hD hS hA (pm1 (X := ([] : va_W)) (c := (wX12 cy a o S9)) (Y := ([] : va_W)) (show (wX12 cy a o S9) = ([] : va_W) ++ ((wX12 cy a o S9) ++ ([] : va_W)) from by simp only [List.append_assoc, List.nil_append, List.append_nil] <;> rfl)) (pm1 (X := ([] : va_W)) (c := (wX12 cy a o x49)) (Y := ([] : va_W)) (show (wX12 cy a o x49) = ([] : va_W) ++ ((wX12 cy a o x49) ++ ([] : va_W)) from by simp only [List.append_assoc, List.nil_append, List.append_nil] <;> rfl)) rfl rfl rfl hl.1 rfl (Nat.le_of_ble_eq_true rfl) dX12_checksum_61 ⟨Nat.zero_le _, Nat.zero_le _⟩ (fun H locs hP hD hS => ?_)
        refine lv_iinc (v := (v1_47 + (1 : Int32))) (lv' := [(1, .int (v1_47 + (1 : Int32))), (0, .ref (a o))]) hx hb dX12_checksum_64 hl (k := 1) rfl (by rfl) (by decide) rfl (fun ls hl => ?_)
        refine lv_goto (tgt := 38) hx hb dX12_checksum_67 (by decide) ?_
        exact ih (v1_47 + (1 : Int32)) x49 H locs ls h hP hD hS (lv_sub hl [1, 0] rfl)
  refine L51  _ ?_ fu (0 : Int32) S8 H locs ls h hP hD hS (lv_sub hl [1, 0] rfl)
  intro S12 H locs ls h hP hD hS hl
  refine lv_iconst (v := (0 : Int32)) hx hb dX12_checksum_70 (by decide) ?_
  refine lv_istore_n (lv' := [(1, .int (0 : Int32)), (0, .ref (a o))]) hx hb dX12_checksum_71 rfl hl (by decide) rfl (fun ls hl => ?_)
  have L46 : ∀ (k14 : SX12 → Option (Int64 × SX12)) (hk14 : ∀ (S15 : SX12) (H : Heap) (locs : List Loc) (ls : Array Slot), k14 S15 = some rs → va_P D vwCl (wX12 cy a o S15) H → va_D (va_A (wX12 cy a o S) s.heap.size) (wX12 cy a o S15) → va_S (va_A (wX12 cy a o S) s.heap.size) s.heap H locs → lv_has ls 2 [(0, .ref (a o))] → W p l e (headSpec wsX12_checksum ({ frames := 8, cells := 0, slots := 0, locals := 180 } : Room)).room s m ([.ref (a o)] : List Value).toArray below meth c H locs 0 0 (MQ below (va_Ql (fun r (u : SX12) => (r, u) = rs) (fun u t => mB D s.heap.size (wX12 cy a o S) (wX12 cy a o u) t) (va_A (wX12 cy a o S) s.heap.size)) ([.ref (a o)] : List Value).toArray s 0 0 (va_A (wX12 cy a o S) s.heap.size)) (F0 m 98 ls [])) (f : Nat) (v1_42 : Int32) (S13 : SX12) (H : Heap) (locs : List Loc) (ls : Array Slot), DX12_checksum_L72 k14 f v1_42 S13 = some rs → va_P D vwCl (wX12 cy a o S13) H → va_D (va_A (wX12 cy a o S) s.heap.size) (wX12 cy a o S13) → va_S (va_A (wX12 cy a o S) s.heap.size) s.heap H locs → lv_has ls 2 [(0, .ref (a o)), (1, .int v1_42)] → W p l e (headSpec wsX12_checksum ({ frames := 8, cells := 0, slots := 0, locals := 180 } : Room)).room s m ([.ref (a o)] : List Value).toArray below meth c H locs 0 0 (MQ below (va_Ql (fun r (u : SX12) => (r, u) = rs) (fun u t => mB D s.heap.size (wX12 cy a o S) (wX12 cy a o u) t) (va_A (wX12 cy a o S) s.heap.size)) ([.ref (a o)] : List Value).toArray s 0 0 (va_A (wX12 cy a o S) s.heap.size)) (F0 m 72 ls []) := by
    intro k14 hk14 f
    induction f with
    | zero =>
      intro v1_42 S13 H locs ls h hP hD hS hl
      rw [DX12_checksum_L72] at h
      cases h
    | succ f ih =>
      intro v1_42 S13 H locs ls h hP hD hS hl
      rw [DX12_checksum_L72] at h
      refine lv_iload_n hx hb dX12_checksum_72 rfl (lv_at hl 1 rfl) ?_
      refine lv_bipush (v := (24 : Int32)) hx hb dX12_checksum_73 (by decide) ?_
      refine lv_icmp_ge (tgt := 98) hx hb dX12_checksum_75 (by decide) (fun cc => ?_) (fun cc => ?_)
      · have h := ite_p cc h
        exact hk14 S13 H locs ls h hP hD hS (lv_sub hl [0] rfl)
      · have h := ite_n cc h
        refine lv_aload_n hx hb dX12_checksum_78 rfl (lv_at hl 0 rfl) ?_
        refine lv_aload_n hx hb dX12_checksum_79 rfl (lv_at hl 0 rfl) ?_
        refine va_get (D := D) (ci := 12) (v := .ref (a (o + 1))) (C := RX12) (T := TX12) (N := 12) hx hb hts hinX12 hown hK hP 0 rfl rfl 0 (by decide) hf7 (fun _ h9 => h9) rfl dX12_checksum_80 ?_
        refine lv_bipush (v := (102 : Int32)) hx hb dX12_checksum_83 (by decide) ?_
        refine lv_iload_n hx hb dX12_checksum_85 rfl (lv_at hl 1 rfl) ?_
        refine lv_iadd hx hb dX12_checksum_86 ?_
        obtain ⟨g43, h⟩ := gd_some h
        refine r_ald (f := (gX12_m S13)) (n := 714) (v := ((gX12_m S13) ((((102 : Int32) + v1_42)).toNatClampNeg))) hx hb hK hP 1 0 rfl rfl (gIn_in g43) rfl dX12_checksum_87 ?_
        refine lv_i2l (v := (((gX12_m S13) ((((102 : Int32) + v1_42)).toNatClampNeg))).toInt64) hx hb dX12_checksum_88 rfl ?_
        obtain ⟨x44, e45, h⟩ := bd_some h
        refine smVv (As := [.long ((((gX12_m S13) ((((102 : Int32) + v1_42)).toNatClampNeg))).toInt64)]) (rest := []) (ws' := (wX12 cy a o x44)) (q0 := 0) (qX12_mix l D cy a o S13 ((((gX12_m S13) ((((102 : Int32) + v1_42)).toNatClampNeg))).toInt64) (H).size x44 e45) ⟨hx, hb, hml, hown, hts⟩ (cwV 1 hts gX12_checksum_X12_mix rfl rfl rfl (by decide +kernel) ⟨Nat.le_of_ble_eq_true rfl, Nat.le_of_ble_eq_true rfl⟩) hG hP hD hS hA (pm1 (X := ([] : va_W)) (c := (wX12 cy a o S13)) (Y := ([] : va_W)) (show (wX12 cy a o S13) = ([] : va_W) ++ ((wX12 cy a o S13) ++ ([] : va_W)) from by simp only [List.append_assoc, List.nil_append, List.append_nil] <;> rfl)) (pm1 (X := ([] : va_W)) (c := (wX12 cy a o x44)) (Y := ([] : va_W)) (show (wX12 cy a o x44) = ([] : va_W) ++ ((wX12 cy a o x44) ++ ([] : va_W)) from by simp only [List.append_assoc, List.nil_append, List.append_nil] <;> rfl)) rfl rfl rfl hl.1 rfl (Nat.le_of_ble_eq_true rfl) dX12_checksum_89 ⟨Nat.zero_le _, Nat.zero_le _⟩ (fun H locs hP hD hS => ?_)
        refine lv_iinc (v := (v1_42 + (1 : Int32))) (lv' := [(1, .int (v1_42 + (1 : Int32))), (0, .ref (a o))]) hx hb dX12_checksum_92 hl (k := 1) rfl (by rfl) (by decide) rfl (fun ls hl => ?_)
        refine lv_goto (tgt := 72) hx hb dX12_checksum_95 (by decide) ?_
        exact ih (v1_42 + (1 : Int32)) x44 H locs ls h hP hD hS (lv_sub hl [1, 0] rfl)
  refine L46  _ ?_ fu (0 : Int32) S12 H locs ls h hP hD hS (lv_sub hl [1, 0] rfl)
  intro S16 H locs ls h hP hD hS hl
  refine lv_iconst (v := (0 : Int32)) hx hb dX12_checksum_98 (by decide) ?_
  refine lv_istore_n (lv' := [(1, .int (0 : Int32)), (0, .ref (a o))]) hx hb dX12_checksum_99 rfl hl (by decide) rfl (fun ls hl => ?_)
  have L41 : ∀ (k18 : SX12 → Option (Int64 × SX12)) (hk18 : ∀ (S19 : SX12) (H : Heap) (locs : List Loc) (ls : Array Slot), k18 S19 = some rs → va_P D vwCl (wX12 cy a o S19) H → va_D (va_A (wX12 cy a o S) s.heap.size) (wX12 cy a o S19) → va_S (va_A (wX12 cy a o S) s.heap.size) s.heap H locs → lv_has ls 2 [(0, .ref (a o))] → W p l e (headSpec wsX12_checksum ({ frames := 8, cells := 0, slots := 0, locals := 180 } : Room)).room s m ([.ref (a o)] : List Value).toArray below meth c H locs 0 0 (MQ below (va_Ql (fun r (u : SX12) => (r, u) = rs) (fun u t => mB D s.heap.size (wX12 cy a o S) (wX12 cy a o u) t) (va_A (wX12 cy a o S) s.heap.size)) ([.ref (a o)] : List Value).toArray s 0 0 (va_A (wX12 cy a o S) s.heap.size)) (F0 m 122 ls [])) (f : Nat) (v1_38 : Int32) (S17 : SX12) (H : Heap) (locs : List Loc) (ls : Array Slot), DX12_checksum_L100 k18 f v1_38 S17 = some rs → va_P D vwCl (wX12 cy a o S17) H → va_D (va_A (wX12 cy a o S) s.heap.size) (wX12 cy a o S17) → va_S (va_A (wX12 cy a o S) s.heap.size) s.heap H locs → lv_has ls 2 [(0, .ref (a o)), (1, .int v1_38)] → W p l e (headSpec wsX12_checksum ({ frames := 8, cells := 0, slots := 0, locals := 180 } : Room)).room s m ([.ref (a o)] : List Value).toArray below meth c H locs 0 0 (MQ below (va_Ql (fun r (u : SX12) => (r, u) = rs) (fun u t => mB D s.heap.size (wX12 cy a o S) (wX12 cy a o u) t) (va_A (wX12 cy a o S) s.heap.size)) ([.ref (a o)] : List Value).toArray s 0 0 (va_A (wX12 cy a o S) s.heap.size)) (F0 m 100 ls []) := by
    intro k18 hk18 f
    induction f with
    | zero =>
      intro v1_38 S17 H locs ls h hP hD hS hl
      rw [DX12_checksum_L100] at h
      cases h
    | succ f ih =>
      intro v1_38 S17 H locs ls h hP hD hS hl
      rw [DX12_checksum_L100] at h
      refine lv_iload_n hx hb dX12_checksum_100 rfl (lv_at hl 1 rfl) ?_
      refine lv_aload_n hx hb dX12_checksum_101 rfl (lv_at hl 0 rfl) ?_
      refine va_get (D := D) (ci := 12) (v := .ref (a (o + 1))) (C := RX12) (T := TX12) (N := 12) hx hb hts hinX12 hown hK hP 0 rfl rfl 0 (by decide) hf7 (fun _ h9 => h9) rfl dX12_checksum_102 ?_
      refine lv_bipush (v := (6 : Int32)) hx hb dX12_checksum_105 (by decide) ?_
      refine r_ald (f := (gX12_m S17)) (n := 714) (v := ((gX12_m S17) 6)) hx hb hK hP 1 0 rfl rfl (vp_in_nI (n := 6) (N := 714) (by decide) (by decide)) (congrArg (gX12_m S17) (nI_clamp (n := 6) (by decide))) dX12_checksum_107 ?_
      refine lv_icmp_ge (tgt := 122) hx hb dX12_checksum_108 (by decide) (fun cc => ?_) (fun cc => ?_)
      · have h := ite_p cc h
        exact hk18 S17 H locs ls h hP hD hS (lv_sub hl [0] rfl)
      · have h := ite_n cc h
        refine lv_aload_n hx hb dX12_checksum_111 rfl (lv_at hl 0 rfl) ?_
        refine lv_iload_n hx hb dX12_checksum_112 rfl (lv_at hl 1 rfl) ?_
        obtain ⟨x39, e40, h⟩ := bd_some h
        refine smVv (As := [.int v1_38]) (rest := []) (ws' := (wX12 cy a o x39)) (q0 := 0) (qX12_mixEntrant l D cy a o S17 v1_38 (H).size x39 e40) ⟨hx, hb, hml, hown, hts⟩ (cwV 1 hts gX12_checksum_X12_mixEntrant rfl rfl rfl (by decide +kernel) ⟨Nat.le_of_ble_eq_true rfl, Nat.le_of_ble_eq_true rfl⟩) hG hP hD hS hA (pm1 (X := ([] : va_W)) (c := (wX12 cy a o S17)) (Y := ([] : va_W)) (show (wX12 cy a o S17) = ([] : va_W) ++ ((wX12 cy a o S17) ++ ([] : va_W)) from by simp only [List.append_assoc, List.nil_append, List.append_nil] <;> rfl)) (pm1 (X := ([] : va_W)) (c := (wX12 cy a o x39)) (Y := ([] : va_W)) (show (wX12 cy a o x39) = ([] : va_W) ++ ((wX12 cy a o x39) ++ ([] : va_W)) from by simp only [List.append_assoc, List.nil_append, List.append_nil] <;> rfl)) rfl rfl rfl hl.1 rfl (Nat.le_of_ble_eq_true rfl) dX12_checksum_113 ⟨Nat.zero_le _, Nat.zero_le _⟩ (fun H locs hP hD hS => ?_)
        refine lv_iinc (v := (v1_38 + (1 : Int32))) (lv' := [(1, .int (v1_38 + (1 : Int32))), (0, .ref (a o))]) hx hb dX12_checksum_116 hl (k := 1) rfl (by rfl) (by decide) rfl (fun ls hl => ?_)
        refine lv_goto (tgt := 100) hx hb dX12_checksum_119 (by decide) ?_
        exact ih (v1_38 + (1 : Int32)) x39 H locs ls h hP hD hS (lv_sub hl [1, 0] rfl)
  refine L41  _ ?_ fu (0 : Int32) S16 H locs ls h hP hD hS (lv_sub hl [1, 0] rfl)
  intro S20 H locs ls h hP hD hS hl
  refine lv_iconst (v := (0 : Int32)) hx hb dX12_checksum_122 (by decide) ?_
  refine lv_istore_n (lv' := [(1, .int (0 : Int32)), (0, .ref (a o))]) hx hb dX12_checksum_123 rfl hl (by decide) rfl (fun ls hl => ?_)
  have L37 : ∀ (k22 : SX12 → Option (Int64 × SX12)) (hk22 : ∀ (S23 : SX12) (H : Heap) (locs : List Loc) (ls : Array Slot), k22 S23 = some rs → va_P D vwCl (wX12 cy a o S23) H → va_D (va_A (wX12 cy a o S) s.heap.size) (wX12 cy a o S23) → va_S (va_A (wX12 cy a o S) s.heap.size) s.heap H locs → lv_has ls 2 [(0, .ref (a o))] → W p l e (headSpec wsX12_checksum ({ frames := 8, cells := 0, slots := 0, locals := 180 } : Room)).room s m ([.ref (a o)] : List Value).toArray below meth c H locs 0 0 (MQ below (va_Ql (fun r (u : SX12) => (r, u) = rs) (fun u t => mB D s.heap.size (wX12 cy a o S) (wX12 cy a o u) t) (va_A (wX12 cy a o S) s.heap.size)) ([.ref (a o)] : List Value).toArray s 0 0 (va_A (wX12 cy a o S) s.heap.size)) (F0 m 156 ls [])) (f : Nat) (v1_33 : Int32) (S21 : SX12) (H : Heap) (locs : List Loc) (ls : Array Slot), DX12_checksum_L124 k22 f v1_33 S21 = some rs → va_P D vwCl (wX12 cy a o S21) H → va_D (va_A (wX12 cy a o S) s.heap.size) (wX12 cy a o S21) → va_S (va_A (wX12 cy a o S) s.heap.size) s.heap H locs → lv_has ls 2 [(0, .ref (a o)), (1, .int v1_33)] → W p l e (headSpec wsX12_checksum ({ frames := 8, cells := 0, slots := 0, locals := 180 } : Room)).room s m ([.ref (a o)] : List Value).toArray below meth c H locs 0 0 (MQ below (va_Ql (fun r (u : SX12) => (r, u) = rs) (fun u t => mB D s.heap.size (wX12 cy a o S) (wX12 cy a o u) t) (va_A (wX12 cy a o S) s.heap.size)) ([.ref (a o)] : List Value).toArray s 0 0 (va_A (wX12 cy a o S) s.heap.size)) (F0 m 124 ls []) := by
    intro k22 hk22 f
    induction f with
    | zero =>
      intro v1_33 S21 H locs ls h hP hD hS hl
      rw [DX12_checksum_L124] at h
      cases h
    | succ f ih =>
      intro v1_33 S21 H locs ls h hP hD hS hl
      rw [DX12_checksum_L124] at h
      refine lv_iload_n hx hb dX12_checksum_124 rfl (lv_at hl 1 rfl) ?_
      refine lv_aload_n hx hb dX12_checksum_125 rfl (lv_at hl 0 rfl) ?_
      refine va_get (D := D) (ci := 12) (v := .ref (a (o + 1))) (C := RX12) (T := TX12) (N := 12) hx hb hts hinX12 hown hK hP 0 rfl rfl 0 (by decide) hf7 (fun _ h9 => h9) rfl dX12_checksum_126 ?_
      refine lv_bipush (v := (7 : Int32)) hx hb dX12_checksum_129 (by decide) ?_
      refine r_ald (f := (gX12_m S21)) (n := 714) (v := ((gX12_m S21) 7)) hx hb hK hP 1 0 rfl rfl (vp_in_nI (n := 7) (N := 714) (by decide) (by decide)) (congrArg (gX12_m S21) (nI_clamp (n := 7) (by decide))) dX12_checksum_131 ?_
      refine lv_icmp_ge (tgt := 156) hx hb dX12_checksum_132 (by decide) (fun cc => ?_) (fun cc => ?_)
      · have h := ite_p cc h
        exact hk22 S21 H locs ls h hP hD hS (lv_sub hl [0] rfl)
      · have h := ite_n cc h
        refine lv_aload_n hx hb dX12_checksum_135 rfl (lv_at hl 0 rfl) ?_
        refine lv_aload_n hx hb dX12_checksum_136 rfl (lv_at hl 0 rfl) ?_
        refine va_get (D := D) (ci := 12) (v := .ref (a (o + 1))) (C := RX12) (T := TX12) (N := 12) hx hb hts hinX12 hown hK hP 0 rfl rfl 0 (by decide) hf7 (fun _ h9 => h9) rfl dX12_checksum_137 ?_
        refine lv_sipush (v := (462 : Int32)) hx hb dX12_checksum_140 (by decide) ?_
        refine lv_iload_n hx hb dX12_checksum_143 rfl (lv_at hl 1 rfl) ?_
        refine lv_iadd hx hb dX12_checksum_144 ?_
        obtain ⟨g34, h⟩ := gd_some h
        refine r_ald (f := (gX12_m S21)) (n := 714) (v := ((gX12_m S21) ((((462 : Int32) + v1_33)).toNatClampNeg))) hx hb hK hP 1 0 rfl rfl (gIn_in g34) rfl dX12_checksum_145 ?_
        refine lv_i2l (v := (((gX12_m S21) ((((462 : Int32) + v1_33)).toNatClampNeg))).toInt64) hx hb dX12_checksum_146 rfl ?_
        obtain ⟨x35, e36, h⟩ := bd_some h
        refine smVv (As := [.long ((((gX12_m S21) ((((462 : Int32) + v1_33)).toNatClampNeg))).toInt64)]) (rest := []) (ws' := (wX12 cy a o x35)) (q0 := 0) (qX12_mix l D cy a o S21 ((((gX12_m S21) ((((462 : Int32) + v1_33)).toNatClampNeg))).toInt64) (H).size x35 e36) ⟨hx, hb, hml, hown, hts⟩ (cwV 1 hts gX12_checksum_X12_mix rfl rfl rfl (by decide +kernel) ⟨Nat.le_of_ble_eq_true rfl, Nat.le_of_ble_eq_true rfl⟩) hG hP hD hS hA (pm1 (X := ([] : va_W)) (c := (wX12 cy a o S21)) (Y := ([] : va_W)) (show (wX12 cy a o S21) = ([] : va_W) ++ ((wX12 cy a o S21) ++ ([] : va_W)) from by simp only [List.append_assoc, List.nil_append, List.append_nil] <;> rfl)) (pm1 (X := ([] : va_W)) (c := (wX12 cy a o x35)) (Y := ([] : va_W)) (show (wX12 cy a o x35) = ([] : va_W) ++ ((wX12 cy a o x35) ++ ([] : va_W)) from by simp only [List.append_assoc, List.nil_append, List.append_nil] <;> rfl)) rfl rfl rfl hl.1 rfl (Nat.le_of_ble_eq_true rfl) dX12_checksum_147 ⟨Nat.zero_le _, Nat.zero_le _⟩ (fun H locs hP hD hS => ?_)
        refine lv_iinc (v := (v1_33 + (1 : Int32))) (lv' := [(1, .int (v1_33 + (1 : Int32))), (0, .ref (a o))]) hx hb dX12_checksum_150 hl (k := 1) rfl (by rfl) (by decide) rfl (fun ls hl => ?_)
        refine lv_goto (tgt := 124) hx hb dX12_checksum_153 (by decide) ?_
        exact ih (v1_33 + (1 : Int32)) x35 H locs ls h hP hD hS (lv_sub hl [1, 0] rfl)
  refine L37  _ ?_ fu (0 : Int32) S20 H locs ls h hP hD hS (lv_sub hl [1, 0] rfl)
  intro S24 H locs ls h hP hD hS hl
  refine lv_aload_n hx hb dX12_checksum_156 rfl (lv_at hl 0 rfl) ?_
  refine lv_aload_n hx hb dX12_checksum_157 rfl (lv_at hl 0 rfl) ?_
  obtain ⟨x25, e26, h⟩ := bd_some h
  refine pcV (As := []) (rest := [.ref (a o)]) (q0 := 0) (qX12_strangest l D cy a o S24  x25 e26) ⟨hx, hb, hml, hown, hts⟩ (cwV 0 hts gX12_checksum_X12_strangest rfl rfl rfl (by decide +kernel) ⟨Nat.le_of_ble_eq_true rfl, Nat.le_of_ble_eq_true rfl⟩) hG hP rfl rfl rfl hl.1 rfl (Nat.le_of_ble_eq_true rfl) dX12_checksum_158 ⟨Nat.zero_le _, Nat.zero_le _⟩ ?_
  refine lv_i2l (v := (x25).toInt64) hx hb dX12_checksum_161 rfl ?_
  obtain ⟨x27, e28, h⟩ := bd_some h
  refine smVv (As := [.long ((x25).toInt64)]) (rest := []) (ws' := (wX12 cy a o x27)) (q0 := 0) (qX12_mix l D cy a o S24 ((x25).toInt64) (H).size x27 e28) ⟨hx, hb, hml, hown, hts⟩ (cwV 1 hts gX12_checksum_X12_mix rfl rfl rfl (by decide +kernel) ⟨Nat.le_of_ble_eq_true rfl, Nat.le_of_ble_eq_true rfl⟩) hG hP hD hS hA (pm1 (X := ([] : va_W)) (c := (wX12 cy a o S24)) (Y := ([] : va_W)) (show (wX12 cy a o S24) = ([] : va_W) ++ ((wX12 cy a o S24) ++ ([] : va_W)) from by simp only [List.append_assoc, List.nil_append, List.append_nil] <;> rfl)) (pm1 (X := ([] : va_W)) (c := (wX12 cy a o x27)) (Y := ([] : va_W)) (show (wX12 cy a o x27) = ([] : va_W) ++ ((wX12 cy a o x27) ++ ([] : va_W)) from by simp only [List.append_assoc, List.nil_append, List.append_nil] <;> rfl)) rfl rfl rfl hl.1 rfl (Nat.le_of_ble_eq_true rfl) dX12_checksum_162 ⟨Nat.zero_le _, Nat.zero_le _⟩ (fun H locs hP hD hS => ?_)
  refine lv_aload_n hx hb dX12_checksum_165 rfl (lv_at hl 0 rfl) ?_
  refine lv_aload_n hx hb dX12_checksum_166 rfl (lv_at hl 0 rfl) ?_
  refine va_get (D := D) (ci := 12) (v := .int (gX12_textLength x27)) (C := RX12) (T := TX12) (N := 12) hx hb hts hinX12 hown hK hP 0 rfl rfl 4 (by decide) hf176 (fun _ h9 => h9) rfl dX12_checksum_167 ?_
  refine lv_i2l (v := ((gX12_textLength x27)).toInt64) hx hb dX12_checksum_170 rfl ?_
  obtain ⟨x29, e30, h⟩ := bd_some h
  refine smVv (As := [.long (((gX12_textLength x27)).toInt64)]) (rest := []) (ws' := (wX12 cy a o x29)) (q0 := 0) (qX12_mix l D cy a o x27 (((gX12_textLength x27)).toInt64) (H).size x29 e30) ⟨hx, hb, hml, hown, hts⟩ (cwV 1 hts gX12_checksum_X12_mix rfl rfl rfl (by decide +kernel) ⟨Nat.le_of_ble_eq_true rfl, Nat.le_of_ble_eq_true rfl⟩) hG hP hD hS hA (pm1 (X := ([] : va_W)) (c := (wX12 cy a o x27)) (Y := ([] : va_W)) (show (wX12 cy a o x27) = ([] : va_W) ++ ((wX12 cy a o x27) ++ ([] : va_W)) from by simp only [List.append_assoc, List.nil_append, List.append_nil] <;> rfl)) (pm1 (X := ([] : va_W)) (c := (wX12 cy a o x29)) (Y := ([] : va_W)) (show (wX12 cy a o x29) = ([] : va_W) ++ ((wX12 cy a o x29) ++ ([] : va_W)) from by simp only [List.append_assoc, List.nil_append, List.append_nil] <;> rfl)) rfl rfl rfl hl.1 rfl (Nat.le_of_ble_eq_true rfl) dX12_checksum_171 ⟨Nat.zero_le _, Nat.zero_le _⟩ (fun H locs hP hD hS => ?_)
  refine lv_aload_n hx hb dX12_checksum_174 rfl (lv_at hl 0 rfl) ?_
  refine lv_aload_n hx hb dX12_checksum_175 rfl (lv_at hl 0 rfl) ?_
  refine va_get (D := D) (ci := 12) (v := .int (gX12_savedCount x29)) (C := RX12) (T := TX12) (N := 12) hx hb hts hinX12 hown hK hP 0 rfl rfl 2 (by decide) hf35 (fun _ h9 => h9) rfl dX12_checksum_176 ?_
  refine lv_i2l (v := ((gX12_savedCount x29)).toInt64) hx hb dX12_checksum_179 rfl ?_
  obtain ⟨x31, e32, h⟩ := bd_some h
  refine smVv (As := [.long (((gX12_savedCount x29)).toInt64)]) (rest := []) (ws' := (wX12 cy a o x31)) (q0 := 0) (qX12_mix l D cy a o x29 (((gX12_savedCount x29)).toInt64) (H).size x31 e32) ⟨hx, hb, hml, hown, hts⟩ (cwV 1 hts gX12_checksum_X12_mix rfl rfl rfl (by decide +kernel) ⟨Nat.le_of_ble_eq_true rfl, Nat.le_of_ble_eq_true rfl⟩) hG hP hD hS hA (pm1 (X := ([] : va_W)) (c := (wX12 cy a o x29)) (Y := ([] : va_W)) (show (wX12 cy a o x29) = ([] : va_W) ++ ((wX12 cy a o x29) ++ ([] : va_W)) from by simp only [List.append_assoc, List.nil_append, List.append_nil] <;> rfl)) (pm1 (X := ([] : va_W)) (c := (wX12 cy a o x31)) (Y := ([] : va_W)) (show (wX12 cy a o x31) = ([] : va_W) ++ ((wX12 cy a o x31) ++ ([] : va_W)) from by simp only [List.append_assoc, List.nil_append, List.append_nil] <;> rfl)) rfl rfl rfl hl.1 rfl (Nat.le_of_ble_eq_true rfl) dX12_checksum_180 ⟨Nat.zero_le _, Nat.zero_le _⟩ (fun H locs hP hD hS => ?_)
  refine lv_aload_n hx hb dX12_checksum_183 rfl (lv_at hl 0 rfl) ?_
  refine va_get (D := D) (ci := 12) (v := .long (gX12_hash x31)) (C := RX12) (T := TX12) (N := 12) hx hb hts hinX12 hown hK hP 0 rfl rfl 11 (by decide) hf190 (fun _ h9 => h9) rfl dX12_checksum_184 ?_
  exact W.lret (v := (gX12_hash x31)) hx hb hr (fun t ht hW => ⟨⟨(gX12_hash x31), x31, rfl, some_in h, by rw [ht]; exact hP, hD⟩, hS.F ht⟩) hS.2.2 dX12_checksum_187
