set_option maxHeartbeats 8000000 in
set_option maxRecDepth 100000 in
theorem qL_sound (l : Launch) (hl9 : l.stackTraces = false) (D : va_G) (cy : Nat → ClassId) (tt : Nat → Nat) (a : Nat → Nat) (o : Nat) (S : SX11) (sz : Nat) (rs : Int32) (h : DL_sound S = some rs) : vx_Met l yL_sound wsL_sound ({ frames := 11, cells := 674, slots := 8088, locals := 210 } : Room) (lP D cy tt sz [.ref (a o)] (wX11 cy a o S)) (va_Qi (fun r (u : SX11) => (r, u) = (rs, S)) (fun u t => mB D sz (wX11 cy a o S) (wX11 cy a o u) t) (va_A (wX11 cy a o S) sz)) (fun _ _ _ => False) 674 8088 (va_A (wX11 cy a o S) sz) := by
  refine vx_ofW (cc := cL_sound) (maxL := 14) (ret := (some .boolean)) (by decide) rfl ?_
  intro p e s m args below meth c s₁ B hml htab hv
  obtain ⟨rfl, hsz, hP, hG, hD0, hGX, hN⟩ := hv
  have hx := B.exec
  have hb := B.bytes
  have hr := B.returns
  have hts := atoms_spec (ws := wsL_sound) B.pre
  have hown : s.vm.findClass RL = some m.cls := findClass_of_methodNamed B.named
  have hlocks := B.notSynchronized
  have hK := hG.1
  subst hsz
  have hD := hD0.self (sz := s.heap.size)
  have hA : ∀ q : Nat, s.heap.size ≤ q → (va_A (wX11 cy a o S) s.heap.size) q := fun q h => Or.inr h
  have hS : va_S (va_A (wX11 cy a o S) s.heap.size) s.heap s.heap [] := va_S.rf
  have hl := lv_entry ([.ref (a o)]) (n := 14) (Nat.le_of_ble_eq_true rfl)
  rw [lg_entry_eq]
  generalize (lg_sl ([.ref (a o)]) ++ List.replicate (14 - (lg_sl ([.ref (a o)])).length) Slot.unset).toArray = ls at hl ⊢
  have hl : lv_has ls 14 [(0, .ref (a o))] := hl
  rw [DL_sound] at h
  have start : ∀ (cu su : Nat) (hcu : cu + (674) ≤ 674 ∧ su + 12 * (674) ≤ 8088), W p l e (headSpec wsL_sound ({ frames := 11, cells := 674, slots := 8088, locals := 210 } : Room)).room s m ([.ref (a o)] : List Value).toArray below meth c s.heap [] cu su (vx_MQ below (va_Qi (fun r (u : SX11) => (r, u) = (rs, S)) (fun u t => mB D s.heap.size (wX11 cy a o S) (wX11 cy a o u) t) (va_A (wX11 cy a o S) s.heap.size)) (fun _ _ _ => False) ([.ref (a o)] : List Value).toArray s 674 8088 (va_A (wX11 cy a o S) s.heap.size)) (F0 m 0 ls []) := by
    intro cu su hcu
    refine lv_aload_n hx hb dL_sound_0 rfl (lv_at hl 0 rfl) ?_
    refine lv_iconst (v := (3 : Int32)) hx hb dL_sound_1 (by decide) ?_
    obtain ⟨x1, e2, h⟩ := bd_some h
    refine lcW (Re := []) (S := S) (rs := (x1, S)) (c2 := (cu + 1)) (s2 := (su + 6)) hG hGX hN hP hD hS hA (fun h1 h2 => vx_runSX (As := [.ref (a o), .int (3 : Int32)]) (rest := []) ⟨hx, hb, hml, hown, hts⟩ (qL_info l hl9 D cy tt a o S (3 : Int32) (s.heap).size x1 e2) (vx_cwSW 2 hts gL_sound_L_info rfl rfl rfl (by decide +kernel) ⟨Nat.le_of_ble_eq_true rfl, Nat.le_of_ble_eq_true rfl⟩) ⟨h1, h2⟩ rfl rfl hl.1 rfl (lv_room (Nat.le_of_ble_eq_true rfl)) dL_sound_2 ⟨show cu + 1 ≤ 674 by omega, show su + 6 ≤ 8088 by omega⟩) rfl rfl (fun H locs hP hD hS => ?_)
    refine lv_istore_n (lv' := [(1, .int x1), (0, .ref (a o))]) hx hb dL_sound_5 rfl hl (by decide) rfl (fun ls hl => ?_)
    refine lv_aload_n hx hb dL_sound_6 rfl (lv_at hl 1 rfl) ?_
    refine lv_bipush (v := (6 : Int32)) hx hb dL_sound_7 (by decide) ?_
    obtain ⟨x3, e4, h⟩ := bd_some h
    refine lcW (Re := []) (S := S) (rs := (x3, S)) (c2 := (cu + 2)) (s2 := (su + 12)) hG hGX hN hP hD hS hA (fun h1 h2 => vx_runSX (As := [.ref (a o), .int (6 : Int32)]) (rest := []) ⟨hx, hb, hml, hown, hts⟩ (qL_info l hl9 D cy tt a o S (6 : Int32) (H).size x3 e4) (vx_cwSW 2 hts gL_sound_L_info rfl rfl rfl (by decide +kernel) ⟨Nat.le_of_ble_eq_true rfl, Nat.le_of_ble_eq_true rfl⟩) ⟨h1, h2⟩ rfl rfl hl.1 rfl (lv_room (Nat.le_of_ble_eq_true rfl)) dL_sound_9 ⟨show (cu + 1) + 1 ≤ 674 by omega, show (su + 6) + 6 ≤ 8088 by omega⟩) rfl rfl (fun H locs hP hD hS => ?_)
    refine lv_istore_n (lv' := [(2, .int x3), (1, .int x1), (0, .ref (a o))]) hx hb dL_sound_12 rfl hl (by decide) rfl (fun ls hl => ?_)
    refine lv_aload_n hx hb dL_sound_13 rfl (lv_at hl 2 rfl) ?_
    refine lv_iconst (v := (0 : Int32)) hx hb dL_sound_14 (by decide) ?_
    obtain ⟨x5, e6, h⟩ := bd_some h
    refine lcW (Re := []) (S := S) (rs := (x5, S)) (c2 := (cu + 3)) (s2 := (su + 18)) hG hGX hN hP hD hS hA (fun h1 h2 => vx_runSX (As := [.ref (a o), .int (0 : Int32)]) (rest := []) ⟨hx, hb, hml, hown, hts⟩ (qL_info l hl9 D cy tt a o S (0 : Int32) (H).size x5 e6) (vx_cwSW 2 hts gL_sound_L_info rfl rfl rfl (by decide +kernel) ⟨Nat.le_of_ble_eq_true rfl, Nat.le_of_ble_eq_true rfl⟩) ⟨h1, h2⟩ rfl rfl hl.1 rfl (lv_room (Nat.le_of_ble_eq_true rfl)) dL_sound_15 ⟨show (cu + 2) + 1 ≤ 674 by omega, show (su + 12) + 6 ≤ 8088 by omega⟩) rfl rfl (fun H locs hP hD hS => ?_)
    refine lv_istore_n (lv' := [(3, .int x5), (2, .int x3), (1, .int x1), (0, .ref (a o))]) hx hb dL_sound_18 rfl hl (by decide) rfl (fun ls hl => ?_)
    refine lv_aload_n hx hb dL_sound_19 rfl (lv_at hl 3 rfl) ?_
    refine lv_bipush (v := (8 : Int32)) hx hb dL_sound_20 (by decide) ?_
    obtain ⟨x7, e8, h⟩ := bd_some h
    refine lcW (Re := []) (S := S) (rs := (x7, S)) (c2 := (cu + 4)) (s2 := (su + 24)) hG hGX hN hP hD hS hA (fun h1 h2 => vx_runSX (As := [.ref (a o), .int (8 : Int32)]) (rest := []) ⟨hx, hb, hml, hown, hts⟩ (qL_info l hl9 D cy tt a o S (8 : Int32) (H).size x7 e8) (vx_cwSW 2 hts gL_sound_L_info rfl rfl rfl (by decide +kernel) ⟨Nat.le_of_ble_eq_true rfl, Nat.le_of_ble_eq_true rfl⟩) ⟨h1, h2⟩ rfl rfl hl.1 rfl (lv_room (Nat.le_of_ble_eq_true rfl)) dL_sound_22 ⟨show (cu + 3) + 1 ≤ 674 by omega, show (su + 18) + 6 ≤ 8088 by omega⟩) rfl rfl (fun H locs hP hD hS => ?_)
    refine lv_istore (lv' := [(4, .int x7), (3, .int x5), (2, .int x3), (1, .int x1), (0, .ref (a o))]) hx hb dL_sound_25 hl (by decide) rfl (fun ls hl => ?_)
    refine lv_iconst (v := (0 : Int32)) hx hb dL_sound_27 (by decide) ?_
    refine lv_istore (lv' := [(5, .int (0 : Int32)), (4, .int x7), (3, .int x5), (2, .int x3), (1, .int x1), (0, .ref (a o))]) hx hb dL_sound_28 hl (by decide) rfl (fun ls hl => ?_)
    refine lv_iconst (v := (0 : Int32)) hx hb dL_sound_30 (by decide) ?_
    refine lv_istore (lv' := [(6, .int (0 : Int32)), (5, .int (0 : Int32)), (4, .int x7), (3, .int x5), (2, .int x3), (1, .int x1), (0, .ref (a o))]) hx hb dL_sound_31 hl (by decide) rfl (fun ls hl => ?_)
    refine lv_iconst (v := (0 : Int32)) hx hb dL_sound_33 (by decide) ?_
    refine lv_istore (lv' := [(7, .int (0 : Int32)), (6, .int (0 : Int32)), (5, .int (0 : Int32)), (4, .int x7), (3, .int x5), (2, .int x3), (1, .int x1), (0, .ref (a o))]) hx hb dL_sound_34 hl (by decide) rfl (fun ls hl => ?_)
    refine lv_iconst (v := (0 : Int32)) hx hb dL_sound_36 (by decide) ?_
    refine lv_istore (lv' := [(8, .int (0 : Int32)), (7, .int (0 : Int32)), (6, .int (0 : Int32)), (5, .int (0 : Int32)), (4, .int x7), (3, .int x5), (2, .int x3), (1, .int x1), (0, .ref (a o))]) hx hb dL_sound_37 hl (by decide) rfl (fun ls hl => ?_)
    obtain ⟨j9, hj9, h⟩ := jn_elim h
    have Jj9 : ∀ (cu su : Nat) (hcu : cu + (0) ≤ 674 ∧ su + 12 * (0) ≤ 8088) (H : Heap) (locs : List Loc) (ls : Array Slot), j9 () = some rs → va_P D vwCl (wX11 cy a o S) H → va_D (va_A (wX11 cy a o S) s.heap.size) (wX11 cy a o S) → va_S (va_A (wX11 cy a o S) s.heap.size) s.heap H locs → lv_has ls 14 [] → W p l e (headSpec wsL_sound ({ frames := 11, cells := 674, slots := 8088, locals := 210 } : Room)).room s m ([.ref (a o)] : List Value).toArray below meth c H locs cu su (vx_MQ below (va_Qi (fun r (u : SX11) => (r, u) = (rs, S)) (fun u t => mB D s.heap.size (wX11 cy a o S) (wX11 cy a o u) t) (va_A (wX11 cy a o S) s.heap.size)) (fun _ _ _ => False) ([.ref (a o)] : List Value).toArray s 674 8088 (va_A (wX11 cy a o S) s.heap.size)) (F0 m 160 ls []) := by
      intro cu su hcu H locs ls h hP hD hS hl
      rw [hj9] at h
      refine lv_iconst (v := (0 : Int32)) hx hb dL_sound_160 (by decide) ?_
      refine vx_ret (W.widen (k := 674) (n := 8088) (by omega) (by omega) ?_)
      exact W.zret (v := (0 : Int32)) hx hb hr rfl (fun t ht hW => ⟨⟨(0 : Int32), S, rfl, (congrArg (fun z => (z, S)) (some_in h)), by rw [ht]; exact cutP hP (pmA [] (wX11 cy a o S)), cutD hD (pmA [] (wX11 cy a o S))⟩, hS.F ht⟩) hS.2.2 dL_sound_161
    have L156 : ∀ (c1_10 : Int32) (c2_11 : Int32) (c3_12 : Int32) (c4_13 : Int32) (c5_14 : Int32) (c7_15 : Int32) (k16 : Unit → Option (Int32)) (hk16 : ∀ (cu su : Nat) (hcu : cu + (0) ≤ 674 ∧ su + 12 * (0) ≤ 8088) (H : Heap) (locs : List Loc) (ls : Array Slot), k16 () = some rs → va_P D vwCl (wX11 cy a o S) H → va_D (va_A (wX11 cy a o S) s.heap.size) (wX11 cy a o S) → va_S (va_A (wX11 cy a o S) s.heap.size) s.heap H locs → lv_has ls 14 [] → W p l e (headSpec wsL_sound ({ frames := 11, cells := 674, slots := 8088, locals := 210 } : Room)).room s m ([.ref (a o)] : List Value).toArray below meth c H locs cu su (vx_MQ below (va_Qi (fun r (u : SX11) => (r, u) = (rs, S)) (fun u t => mB D s.heap.size (wX11 cy a o S) (wX11 cy a o u) t) (va_A (wX11 cy a o S) s.heap.size)) (fun _ _ _ => False) ([.ref (a o)] : List Value).toArray s 674 8088 (va_A (wX11 cy a o S) s.heap.size)) (F0 m 160 ls [])) (k17 : Int32 → Option (Int32)) (hk17 : ∀ (v6_18 : Int32) (cu su : Nat) (hcu : cu + (592) ≤ 674 ∧ su + 12 * (592) ≤ 8088) (H : Heap) (locs : List Loc) (ls : Array Slot), k17 v6_18 = some rs → va_P D vwCl (wX11 cy a o S) H → va_D (va_A (wX11 cy a o S) s.heap.size) (wX11 cy a o S) → va_S (va_A (wX11 cy a o S) s.heap.size) s.heap H locs → lv_has ls 14 [(0, .ref (a o)), (1, .int c1_10), (2, .int c2_11), (3, .int c3_12), (4, .int c4_13), (5, .int c5_14), (6, .int v6_18), (7, .int c7_15)] → W p l e (headSpec wsL_sound ({ frames := 11, cells := 674, slots := 8088, locals := 210 } : Room)).room s m ([.ref (a o)] : List Value).toArray below meth c H locs cu su (vx_MQ below (va_Qi (fun r (u : SX11) => (r, u) = (rs, S)) (fun u t => mB D s.heap.size (wX11 cy a o S) (wX11 cy a o u) t) (va_A (wX11 cy a o S) s.heap.size)) (fun _ _ _ => False) ([.ref (a o)] : List Value).toArray s 674 8088 (va_A (wX11 cy a o S) s.heap.size)) (F0 m 177 ls [])) (f39 : Nat) (v6_135 : Int32) (v8_136 : Int32) (cu su : Nat) (hcu : cu + (f39 * 6 + 592) ≤ 674 ∧ su + 12 * (f39 * 6 + 592) ≤ 8088) (H : Heap) (locs : List Loc) (ls : Array Slot), DL_sound_L39 S c1_10 c2_11 c3_12 c4_13 c5_14 c7_15 k16 k17 f39 v6_135 v8_136 = some rs → va_P D vwCl (wX11 cy a o S) H → va_D (va_A (wX11 cy a o S) s.heap.size) (wX11 cy a o S) → va_S (va_A (wX11 cy a o S) s.heap.size) s.heap H locs → lv_has ls 14 [(0, .ref (a o)), (1, .int c1_10), (2, .int c2_11), (3, .int c3_12), (4, .int c4_13), (5, .int c5_14), (6, .int v6_135), (7, .int c7_15), (8, .int v8_136)] → W p l e (headSpec wsL_sound ({ frames := 11, cells := 674, slots := 8088, locals := 210 } : Room)).room s m ([.ref (a o)] : List Value).toArray below meth c H locs cu su (vx_MQ below (va_Qi (fun r (u : SX11) => (r, u) = (rs, S)) (fun u t => mB D s.heap.size (wX11 cy a o S) (wX11 cy a o u) t) (va_A (wX11 cy a o S) s.heap.size)) (fun _ _ _ => False) ([.ref (a o)] : List Value).toArray s 674 8088 (va_A (wX11 cy a o S) s.heap.size)) (F0 m 39 ls []) := by
      intro c1_10 c2_11 c3_12 c4_13 c5_14 c7_15 k16 hk16 k17 hk17 f39
      induction f39 with
      | zero =>
        intro v6_135 v8_136 cu su hcu H locs ls h hP hD hS hl
        rw [DL_sound_L39] at h
        cases h
      | succ f39 ih39 =>
        intro v6_135 v8_136 cu su hcu H locs ls h hP hD hS hl
        rw [DL_sound_L39] at h
        refine lv_iload hx hb dL_sound_39 (lv_at hl 8 rfl) ?_
        refine lv_iload hx hb dL_sound_41 (lv_at hl 4 rfl) ?_
        refine lv_icmp_ge (tgt := 177) hx hb dL_sound_43 (by decide) (fun cc => ?_) (fun cc => ?_)
        · have h := ite_p cc h
          exact hk17 v6_135 cu su ⟨by omega, by omega⟩ H locs ls h hP hD hS (lv_sub hl [0, 1, 2, 3, 4, 5, 6, 7] rfl)
        · have h := ite_n cc h
          refine lv_aload_n hx hb dL_sound_46 rfl (lv_at hl 0 rfl) ?_
          refine lv_iload hx hb dL_sound_47 (lv_at hl 8 rfl) ?_
          obtain ⟨x137, e138, h⟩ := bd_some h
          refine pcV (As := [.int v8_136]) (rest := []) (q0 := 0) (ci := 11) (qX11_stage l D cy a o (gX11_now S) v8_136 x137 e138) ⟨hx, hb, hml, hown, hts⟩ (cwV 1 hts gL_sound_X11_stage rfl rfl rfl (by decide +kernel) ⟨Nat.le_of_ble_eq_true rfl, Nat.le_of_ble_eq_true rfl⟩) hG (P_now (cutP hP (pmA [] (wX11 cy a o S)))) rfl rfl rfl hl.1 rfl (Nat.le_of_ble_eq_true rfl) dL_sound_49 ⟨show cu ≤ 674 by omega, show su ≤ 8088 by omega⟩ ?_
          refine lv_istore (lv' := [(9, .int x137), (0, .ref (a o)), (1, .int c1_10), (2, .int c2_11), (3, .int c3_12), (4, .int c4_13), (5, .int c5_14), (6, .int v6_135), (7, .int c7_15), (8, .int v8_136)]) hx hb dL_sound_52 hl (by decide) rfl (fun ls hl => ?_)
          refine lv_iload hx hb dL_sound_54 (lv_at hl 0 rfl) ?_
          refine lv_if_lt (tgt := 160) hx hb dL_sound_56 (by decide) (fun cc => ?_) (fun cc => ?_)
          · have h := ite_p cc h
            exact hk16  cu su ⟨by omega, by omega⟩ H locs ls h hP hD hS (lv_sub hl [] rfl)
          · have h := ite_n cc h
            refine lv_iload hx hb dL_sound_59 (lv_at hl 0 rfl) ?_
            refine lv_iload_n hx hb dL_sound_61 rfl (lv_at hl 3 rfl) ?_
            refine lv_icmp_ge (tgt := 160) hx hb dL_sound_62 (by decide) (fun cc => ?_) (fun cc => ?_)
            · have h := ite_p cc h
              exact hk16  cu su ⟨by omega, by omega⟩ H locs ls h hP hD hS (lv_sub hl [] rfl)
            · have h := ite_n cc h
              refine lv_iload hx hb dL_sound_65 (lv_at hl 7 rfl) ?_
              refine lv_iload hx hb dL_sound_67 (lv_at hl 0 rfl) ?_
              refine lv_ishr hx hb dL_sound_69 ?_
              refine lv_iconst (v := (1 : Int32)) hx hb dL_sound_70 (by decide) ?_
              refine lv_iand hx hb dL_sound_71 ?_
              refine lv_iconst (v := (1 : Int32)) hx hb dL_sound_72 (by decide) ?_
              refine lv_icmp_eq (tgt := 160) hx hb dL_sound_73 (by decide) (fun cc => ?_) (fun cc => ?_)
              · have h := ite_p cc h
                exact hk16  cu su ⟨by omega, by omega⟩ H locs ls h hP hD hS (lv_sub hl [] rfl)
              · have h := ite_n cc h
                refine lv_aload_n hx hb dL_sound_76 rfl (lv_at hl 1 rfl) ?_
                refine lv_iload hx hb dL_sound_77 (lv_at hl 0 rfl) ?_
                refine lv_iconst (v := (1 : Int32)) hx hb dL_sound_79 (by decide) ?_
                obtain ⟨x139, e140, h⟩ := bd_some h
                refine lcW (Re := []) (S := S) (rs := (x139, S)) (c2 := (cu + 1)) (s2 := (su + 6)) hG hGX hN hP hD hS hA (fun h1 h2 => vx_runSX (As := [.ref (a o), .int x137, .int (1 : Int32)]) (rest := []) ⟨hx, hb, hml, hown, hts⟩ (qL_entrant l hl9 D cy tt a o S x137 (1 : Int32) (H).size x139 e140) (vx_cwSW 3 hts gL_sound_L_entrant rfl rfl rfl (by decide +kernel) ⟨Nat.le_of_ble_eq_true rfl, Nat.le_of_ble_eq_true rfl⟩) ⟨h1, h2⟩ rfl rfl hl.1 rfl (lv_room (Nat.le_of_ble_eq_true rfl)) dL_sound_80 ⟨show cu + 1 ≤ 674 by omega, show su + 6 ≤ 8088 by omega⟩) rfl rfl (fun H locs hP hD hS => ?_)
                refine lv_iload hx hb dL_sound_83 (lv_at hl 9 rfl) ?_
                refine lv_icmp_ne (tgt := 160) hx hb dL_sound_85 (by decide) (fun cc => ?_) (fun cc => ?_)
                · have h := ite_n cc h
                  exact hk16  (cu + 1) (su + 6) ⟨by omega, by omega⟩ H locs ls h hP hD hS (lv_sub hl [] rfl)
                · have h := ite_p cc h
                  refine lv_aload_n hx hb dL_sound_88 rfl (lv_at hl 1 rfl) ?_
                  refine lv_iload hx hb dL_sound_89 (lv_at hl 0 rfl) ?_
                  refine lv_iconst (v := (2 : Int32)) hx hb dL_sound_91 (by decide) ?_
                  obtain ⟨x141, e142, h⟩ := bd_some h
                  refine lcW (Re := []) (S := S) (rs := (x141, S)) (c2 := (cu + 2)) (s2 := (su + 12)) hG hGX hN hP hD hS hA (fun h1 h2 => vx_runSX (As := [.ref (a o), .int x137, .int (2 : Int32)]) (rest := []) ⟨hx, hb, hml, hown, hts⟩ (qL_entrant l hl9 D cy tt a o S x137 (2 : Int32) (H).size x141 e142) (vx_cwSW 3 hts gL_sound_L_entrant rfl rfl rfl (by decide +kernel) ⟨Nat.le_of_ble_eq_true rfl, Nat.le_of_ble_eq_true rfl⟩) ⟨h1, h2⟩ rfl rfl hl.1 rfl (lv_room (Nat.le_of_ble_eq_true rfl)) dL_sound_92 ⟨show (cu + 1) + 1 ≤ 674 by omega, show (su + 6) + 6 ≤ 8088 by omega⟩) rfl rfl (fun H locs hP hD hS => ?_)
                  obtain ⟨j144, hj144, h⟩ := jn_elim h
                  have Jj144 : ∀ (x143 : Int32) (cu su : Nat) (hcu : cu + (f39 * 6 + 596) ≤ 674 ∧ su + 12 * (f39 * 6 + 596) ≤ 8088) (ls : Array Slot), j144 x143 = some rs → lv_has ls 14 [(0, .ref (a o)), (1, .int c1_10), (2, .int c2_11), (3, .int c3_12), (4, .int c4_13), (5, .int c5_14), (6, .int v6_135), (7, .int c7_15), (8, .int v8_136), (9, .int x137)] → W p l e (headSpec wsL_sound ({ frames := 11, cells := 674, slots := 8088, locals := 210 } : Room)).room s m ([.ref (a o)] : List Value).toArray below meth c H locs cu su (vx_MQ below (va_Qi (fun r (u : SX11) => (r, u) = (rs, S)) (fun u t => mB D s.heap.size (wX11 cy a o S) (wX11 cy a o u) t) (va_A (wX11 cy a o S) s.heap.size)) (fun _ _ _ => False) ([.ref (a o)] : List Value).toArray s 674 8088 (va_A (wX11 cy a o S) s.heap.size)) (F0 m 103 ls [.int x143]) := by
                    intro x143 cu su hcu ls h hl
                    rw [hj144] at h
                    refine lv_iload hx hb dL_sound_103 (lv_at hl 8 rfl) ?_
                    refine lv_aload_n hx hb dL_sound_105 rfl (lv_at hl 0 rfl) ?_
                    refine lv_bipush (v := (9 : Int32)) hx hb dL_sound_106 (by decide) ?_
                    obtain ⟨x145, e146, h⟩ := bd_some h
                    refine lcW (Re := []) (S := S) (rs := (x145, S)) (c2 := (cu + 1)) (s2 := (su + 6)) hG hGX hN hP hD hS hA (fun h1 h2 => vx_runSX (As := [.ref (a o), .int (9 : Int32)]) (rest := [.int v8_136, .int x143]) ⟨hx, hb, hml, hown, hts⟩ (qL_info l hl9 D cy tt a o S (9 : Int32) (H).size x145 e146) (vx_cwSW 2 hts gL_sound_L_info rfl rfl rfl (by decide +kernel) ⟨Nat.le_of_ble_eq_true rfl, Nat.le_of_ble_eq_true rfl⟩) ⟨h1, h2⟩ rfl rfl hl.1 rfl (lv_room (Nat.le_of_ble_eq_true rfl)) dL_sound_108 ⟨show cu + 1 ≤ 674 by omega, show su + 6 ≤ 8088 by omega⟩) rfl rfl (fun H locs hP hD hS => ?_)
                    obtain ⟨j148, hj148, h⟩ := jn_elim h
                    have Jj148 : ∀ (x147 : Int32) (cu su : Nat) (hcu : cu + (f39 * 6 + 595) ≤ 674 ∧ su + 12 * (f39 * 6 + 595) ≤ 8088) (ls : Array Slot), j148 x147 = some rs → lv_has ls 14 [(0, .ref (a o)), (1, .int c1_10), (2, .int c2_11), (3, .int c3_12), (4, .int c4_13), (5, .int c5_14), (6, .int v6_135), (7, .int c7_15), (8, .int v8_136), (9, .int x137)] → W p l e (headSpec wsL_sound ({ frames := 11, cells := 674, slots := 8088, locals := 210 } : Room)).room s m ([.ref (a o)] : List Value).toArray below meth c H locs cu su (vx_MQ below (va_Qi (fun r (u : SX11) => (r, u) = (rs, S)) (fun u t => mB D s.heap.size (wX11 cy a o S) (wX11 cy a o u) t) (va_A (wX11 cy a o S) s.heap.size)) (fun _ _ _ => False) ([.ref (a o)] : List Value).toArray s 674 8088 (va_A (wX11 cy a o S) s.heap.size)) (F0 m 119 ls [.int x147, .int x143]) := by
                      intro x147 cu su hcu ls h hl
                      rw [hj148] at h
                      refine lv_icmp_ne (tgt := 160) hx hb dL_sound_119 (by decide) (fun cc => ?_) (fun cc => ?_)
                      · have h := ite_n cc h
                        exact hk16  cu su ⟨by omega, by omega⟩ H locs ls h hP hD hS (lv_sub hl [] rfl)
                      · have h := ite_p cc h
                        refine lv_iload_n hx hb dL_sound_122 rfl (lv_at hl 1 rfl) ?_
                        refine lv_iconst (v := (1 : Int32)) hx hb dL_sound_123 (by decide) ?_
                        obtain ⟨j149, hj149, h⟩ := jn_elim h
                        have Jj149 : ∀ (cu su : Nat) (hcu : cu + (f39 * 6 + 592) ≤ 674 ∧ su + 12 * (f39 * 6 + 592) ≤ 8088) (H : Heap) (locs : List Loc) (ls : Array Slot), j149 () = some rs → va_P D vwCl (wX11 cy a o S) H → va_D (va_A (wX11 cy a o S) s.heap.size) (wX11 cy a o S) → va_S (va_A (wX11 cy a o S) s.heap.size) s.heap H locs → lv_has ls 14 [(0, .ref (a o)), (1, .int c1_10), (2, .int c2_11), (3, .int c3_12), (4, .int c4_13), (5, .int c5_14), (6, .int v6_135), (7, .int c7_15), (8, .int v8_136), (9, .int x137)] → W p l e (headSpec wsL_sound ({ frames := 11, cells := 674, slots := 8088, locals := 210 } : Room)).room s m ([.ref (a o)] : List Value).toArray below meth c H locs cu su (vx_MQ below (va_Qi (fun r (u : SX11) => (r, u) = (rs, S)) (fun u t => mB D s.heap.size (wX11 cy a o S) (wX11 cy a o u) t) (va_A (wX11 cy a o S) s.heap.size)) (fun _ _ _ => False) ([.ref (a o)] : List Value).toArray s 674 8088 (va_A (wX11 cy a o S) s.heap.size)) (F0 m 162 ls []) := by
                          intro cu su hcu H locs ls h hP hD hS hl
                          rw [hj149] at h
                          refine lv_iload hx hb dL_sound_162 (lv_at hl 6 rfl) ?_
                          refine lv_iconst (v := (1 : Int32)) hx hb dL_sound_164 (by decide) ?_
                          refine lv_iload hx hb dL_sound_165 (lv_at hl 9 rfl) ?_
                          refine lv_ishl hx hb dL_sound_167 ?_
                          refine lv_ior hx hb dL_sound_168 ?_
                          refine lv_istore (lv' := [(6, .int (v6_135 ||| ((1 : Int32) <<< (x137 &&& 31)))), (0, .ref (a o)), (1, .int c1_10), (2, .int c2_11), (3, .int c3_12), (4, .int c4_13), (5, .int c5_14), (7, .int c7_15), (8, .int v8_136), (9, .int x137)]) hx hb dL_sound_169 hl (by decide) rfl (fun ls hl => ?_)
                          refine lv_iinc (v := (v8_136 + (1 : Int32))) (lv' := [(8, .int (v8_136 + (1 : Int32))), (6, .int (v6_135 ||| ((1 : Int32) <<< (x137 &&& 31)))), (0, .ref (a o)), (1, .int c1_10), (2, .int c2_11), (3, .int c3_12), (4, .int c4_13), (5, .int c5_14), (7, .int c7_15), (9, .int x137)]) hx hb dL_sound_171 hl (k := 8) rfl (by rfl) (by decide) rfl (fun ls hl => ?_)
                          refine lv_goto (tgt := 39) hx hb dL_sound_174 (by decide) ?_
                          exact ih39 (v6_135 ||| ((1 : Int32) <<< (x137 &&& 31))) (v8_136 + (1 : Int32)) cu su ⟨by omega, by omega⟩ H locs ls h hP hD hS (lv_sub hl [2, 3, 4, 5, 6, 7, 1, 8, 0] rfl)
                        refine lv_icmp_ne (tgt := 162) hx hb dL_sound_124 (by decide) (fun cc => ?_) (fun cc => ?_)
                        · have h := ite_n cc h
                          exact Jj149  cu su ⟨by omega, by omega⟩ H locs ls h hP hD hS (lv_sub hl [0, 1, 2, 3, 4, 5, 6, 7, 8, 9] rfl)
                        · have h := ite_p cc h
                          refine lv_aload_n hx hb dL_sound_127 rfl (lv_at hl 0 rfl) ?_
                          refine lv_iload hx hb dL_sound_128 (lv_at hl 9 rfl) ?_
                          refine lv_iconst (v := (0 : Int32)) hx hb dL_sound_130 (by decide) ?_
                          obtain ⟨x150, e151, h⟩ := bd_some h
                          refine lcW (Re := []) (S := S) (rs := (x150, S)) (c2 := (cu + 1)) (s2 := (su + 6)) hG hGX hN hP hD hS hA (fun h1 h2 => vx_runSX (As := [.ref (a o), .int x137, .int (0 : Int32)]) (rest := []) ⟨hx, hb, hml, hown, hts⟩ (qL_entrant l hl9 D cy tt a o S x137 (0 : Int32) (H).size x150 e151) (vx_cwSW 3 hts gL_sound_L_entrant rfl rfl rfl (by decide +kernel) ⟨Nat.le_of_ble_eq_true rfl, Nat.le_of_ble_eq_true rfl⟩) ⟨h1, h2⟩ rfl rfl hl.1 rfl (lv_room (Nat.le_of_ble_eq_true rfl)) dL_sound_131 ⟨show cu + 1 ≤ 674 by omega, show su + 6 ≤ 8088 by omega⟩) rfl rfl (fun H locs hP hD hS => ?_)
                          refine lv_iconst (v := (1 : Int32)) hx hb dL_sound_134 (by decide) ?_
                          refine lv_icmp_ne (tgt := 160) hx hb dL_sound_135 (by decide) (fun cc => ?_) (fun cc => ?_)
                          · have h := ite_n cc h
                            exact hk16  (cu + 1) (su + 6) ⟨by omega, by omega⟩ H locs ls h hP hD hS (lv_sub hl [] rfl)
                          · have h := ite_p cc h
                            refine lv_iload hx hb dL_sound_138 (lv_at hl 8 rfl) ?_
                            refine lv_aload_n hx hb dL_sound_140 rfl (lv_at hl 0 rfl) ?_
                            refine lv_bipush (v := (9 : Int32)) hx hb dL_sound_141 (by decide) ?_
                            obtain ⟨x152, e153, h⟩ := bd_some h
                            refine lcW (Re := []) (S := S) (rs := (x152, S)) (c2 := (cu + 2)) (s2 := (su + 12)) hG hGX hN hP hD hS hA (fun h1 h2 => vx_runSX (As := [.ref (a o), .int (9 : Int32)]) (rest := [.int v8_136]) ⟨hx, hb, hml, hown, hts⟩ (qL_info l hl9 D cy tt a o S (9 : Int32) (H).size x152 e153) (vx_cwSW 2 hts gL_sound_L_info rfl rfl rfl (by decide +kernel) ⟨Nat.le_of_ble_eq_true rfl, Nat.le_of_ble_eq_true rfl⟩) ⟨h1, h2⟩ rfl rfl hl.1 rfl (lv_room (Nat.le_of_ble_eq_true rfl)) dL_sound_143 ⟨show (cu + 1) + 1 ≤ 674 by omega, show (su + 6) + 6 ≤ 8088 by omega⟩) rfl rfl (fun H locs hP hD hS => ?_)
                            refine lv_icmp_lt (tgt := 162) hx hb dL_sound_146 (by decide) (fun cc => ?_) (fun cc => ?_)
                            · have h := ite_p cc h
                              exact Jj149  (cu + 2) (su + 12) ⟨by omega, by omega⟩ H locs ls h hP hD hS (lv_sub hl [0, 1, 2, 3, 4, 5, 6, 7, 8, 9] rfl)
                            · have h := ite_n cc h
                              refine lv_aload_n hx hb dL_sound_149 rfl (lv_at hl 0 rfl) ?_
                              refine lv_iload hx hb dL_sound_150 (lv_at hl 9 rfl) ?_
                              refine lv_iconst (v := (4 : Int32)) hx hb dL_sound_152 (by decide) ?_
                              obtain ⟨x154, e155, h⟩ := bd_some h
                              refine lcW (Re := []) (S := S) (rs := (x154, S)) (c2 := (cu + 3)) (s2 := (su + 18)) hG hGX hN hP hD hS hA (fun h1 h2 => vx_runSX (As := [.ref (a o), .int x137, .int (4 : Int32)]) (rest := []) ⟨hx, hb, hml, hown, hts⟩ (qL_entrant l hl9 D cy tt a o S x137 (4 : Int32) (H).size x154 e155) (vx_cwSW 3 hts gL_sound_L_entrant rfl rfl rfl (by decide +kernel) ⟨Nat.le_of_ble_eq_true rfl, Nat.le_of_ble_eq_true rfl⟩) ⟨h1, h2⟩ rfl rfl hl.1 rfl (lv_room (Nat.le_of_ble_eq_true rfl)) dL_sound_153 ⟨show (cu + 2) + 1 ≤ 674 by omega, show (su + 12) + 6 ≤ 8088 by omega⟩) rfl rfl (fun H locs hP hD hS => ?_)
                              refine lv_iconst (v := (-1 : Int32)) hx hb dL_sound_156 (by decide) ?_
                              refine lv_icmp_eq (tgt := 162) hx hb dL_sound_157 (by decide) (fun cc => ?_) (fun cc => ?_)
                              · have h := ite_p cc h
                                exact Jj149  (cu + 3) (su + 18) ⟨by omega, by omega⟩ H locs ls h hP hD hS (lv_sub hl [0, 1, 2, 3, 4, 5, 6, 7, 8, 9] rfl)
                              · have h := ite_n cc h
                                exact hk16  (cu + 3) (su + 18) ⟨by omega, by omega⟩ H locs ls h hP hD hS (lv_sub hl [] rfl)
                    refine lv_icmp_ge (tgt := 118) hx hb dL_sound_111 (by decide) (fun cc => ?_) (fun cc => ?_)
                    · have h := ite_p cc h
                      refine lv_iconst (v := (0 : Int32)) hx hb dL_sound_118 (by decide) ?_
                      exact Jj148 (0 : Int32) (cu + 1) (su + 6) ⟨by omega, by omega⟩ ls h (lv_sub hl [0, 1, 2, 3, 4, 5, 6, 7, 8, 9] rfl)
                    · have h := ite_n cc h
                      refine lv_iconst (v := (1 : Int32)) hx hb dL_sound_114 (by decide) ?_
                      refine lv_goto (tgt := 119) hx hb dL_sound_115 (by decide) ?_
                      exact Jj148 (1 : Int32) (cu + 1) (su + 6) ⟨by omega, by omega⟩ ls h (lv_sub hl [0, 1, 2, 3, 4, 5, 6, 7, 8, 9] rfl)
                  refine lv_if_lt (tgt := 102) hx hb dL_sound_95 (by decide) (fun cc => ?_) (fun cc => ?_)
                  · have h := ite_p cc h
                    refine lv_iconst (v := (0 : Int32)) hx hb dL_sound_102 (by decide) ?_
                    exact Jj144 (0 : Int32) (cu + 2) (su + 12) ⟨by omega, by omega⟩ ls h (lv_sub hl [1, 2, 3, 4, 5, 6, 7, 8, 9, 0] rfl)
                  · have h := ite_n cc h
                    refine lv_iconst (v := (1 : Int32)) hx hb dL_sound_98 (by decide) ?_
                    refine lv_goto (tgt := 103) hx hb dL_sound_99 (by decide) ?_
                    exact Jj144 (1 : Int32) (cu + 2) (su + 12) ⟨by omega, by omega⟩ ls h (lv_sub hl [1, 2, 3, 4, 5, 6, 7, 8, 9, 0] rfl)
    refine L156 x1 x3 x5 x7 (0 : Int32) (0 : Int32) _ Jj9 _ ?_ 13 (0 : Int32) (0 : Int32) (cu + 4) (su + 24) ⟨by omega, by omega⟩ H locs ls h hP hD hS (lv_sub hl [8, 7, 6, 5, 4, 3, 2, 1, 0] rfl)
    intro v6_19 cu su hcu H locs ls h hP hD hS hl
    refine lv_iconst (v := (0 : Int32)) hx hb dL_sound_177 (by decide) ?_
    refine lv_istore (lv' := [(8, .int (0 : Int32)), (0, .ref (a o)), (1, .int x1), (2, .int x3), (3, .int x5), (4, .int x7), (5, .int (0 : Int32)), (6, .int v6_19), (7, .int (0 : Int32))]) hx hb dL_sound_178 hl (by decide) rfl (fun ls hl => ?_)
    obtain ⟨j20, hj20, h⟩ := jn_elim h
    have Jj20 : ∀ (cu su : Nat) (hcu : cu + (0) ≤ 674 ∧ su + 12 * (0) ≤ 8088) (H : Heap) (locs : List Loc) (ls : Array Slot), j20 () = some rs → va_P D vwCl (wX11 cy a o S) H → va_D (va_A (wX11 cy a o S) s.heap.size) (wX11 cy a o S) → va_S (va_A (wX11 cy a o S) s.heap.size) s.heap H locs → lv_has ls 14 [] → W p l e (headSpec wsL_sound ({ frames := 11, cells := 674, slots := 8088, locals := 210 } : Room)).room s m ([.ref (a o)] : List Value).toArray below meth c H locs cu su (vx_MQ below (va_Qi (fun r (u : SX11) => (r, u) = (rs, S)) (fun u t => mB D s.heap.size (wX11 cy a o S) (wX11 cy a o u) t) (va_A (wX11 cy a o S) s.heap.size)) (fun _ _ _ => False) ([.ref (a o)] : List Value).toArray s 674 8088 (va_A (wX11 cy a o S) s.heap.size)) (F0 m 558 ls []) := by
      intro cu su hcu H locs ls h hP hD hS hl
      rw [hj20] at h
      refine lv_iconst (v := (0 : Int32)) hx hb dL_sound_558 (by decide) ?_
      refine vx_ret (W.widen (k := 674) (n := 8088) (by omega) (by omega) ?_)
      exact W.zret (v := (0 : Int32)) hx hb hr rfl (fun t ht hW => ⟨⟨(0 : Int32), S, rfl, (congrArg (fun z => (z, S)) (some_in h)), by rw [ht]; exact cutP hP (pmA [] (wX11 cy a o S)), cutD hD (pmA [] (wX11 cy a o S))⟩, hS.F ht⟩) hS.2.2 dL_sound_559
    obtain ⟨j21, hj21, h⟩ := jn_elim h
    have Jj21 : ∀ (cu su : Nat) (hcu : cu + (0) ≤ 674 ∧ su + 12 * (0) ≤ 8088) (H : Heap) (locs : List Loc) (ls : Array Slot), j21 () = some rs → va_P D vwCl (wX11 cy a o S) H → va_D (va_A (wX11 cy a o S) s.heap.size) (wX11 cy a o S) → va_S (va_A (wX11 cy a o S) s.heap.size) s.heap H locs → lv_has ls 14 [] → W p l e (headSpec wsL_sound ({ frames := 11, cells := 674, slots := 8088, locals := 210 } : Room)).room s m ([.ref (a o)] : List Value).toArray below meth c H locs cu su (vx_MQ below (va_Qi (fun r (u : SX11) => (r, u) = (rs, S)) (fun u t => mB D s.heap.size (wX11 cy a o S) (wX11 cy a o u) t) (va_A (wX11 cy a o S) s.heap.size)) (fun _ _ _ => False) ([.ref (a o)] : List Value).toArray s 674 8088 (va_A (wX11 cy a o S) s.heap.size)) (F0 m 346 ls []) := by
      intro cu su hcu H locs ls h hP hD hS hl
      rw [hj21] at h
      refine lv_iconst (v := (0 : Int32)) hx hb dL_sound_346 (by decide) ?_
      refine vx_ret (W.widen (k := 674) (n := 8088) (by omega) (by omega) ?_)
      exact W.zret (v := (0 : Int32)) hx hb hr rfl (fun t ht hW => ⟨⟨(0 : Int32), S, rfl, (congrArg (fun z => (z, S)) (some_in h)), by rw [ht]; exact cutP hP (pmA [] (wX11 cy a o S)), cutD hD (pmA [] (wX11 cy a o S))⟩, hS.F ht⟩) hS.2.2 dL_sound_347
    have L134 : ∀ (c1_22 : Int32) (c2_23 : Int32) (c3_24 : Int32) (c4_25 : Int32) (c6_26 : Int32) (k27 : Unit → Option (Int32)) (hk27 : ∀ (cu su : Nat) (hcu : cu + (0) ≤ 674 ∧ su + 12 * (0) ≤ 8088) (H : Heap) (locs : List Loc) (ls : Array Slot), k27 () = some rs → va_P D vwCl (wX11 cy a o S) H → va_D (va_A (wX11 cy a o S) s.heap.size) (wX11 cy a o S) → va_S (va_A (wX11 cy a o S) s.heap.size) s.heap H locs → lv_has ls 14 [] → W p l e (headSpec wsL_sound ({ frames := 11, cells := 674, slots := 8088, locals := 210 } : Room)).room s m ([.ref (a o)] : List Value).toArray below meth c H locs cu su (vx_MQ below (va_Qi (fun r (u : SX11) => (r, u) = (rs, S)) (fun u t => mB D s.heap.size (wX11 cy a o S) (wX11 cy a o u) t) (va_A (wX11 cy a o S) s.heap.size)) (fun _ _ _ => False) ([.ref (a o)] : List Value).toArray s 674 8088 (va_A (wX11 cy a o S) s.heap.size)) (F0 m 346 ls [])) (k28 : Unit → Option (Int32)) (hk28 : ∀ (cu su : Nat) (hcu : cu + (0) ≤ 674 ∧ su + 12 * (0) ≤ 8088) (H : Heap) (locs : List Loc) (ls : Array Slot), k28 () = some rs → va_P D vwCl (wX11 cy a o S) H → va_D (va_A (wX11 cy a o S) s.heap.size) (wX11 cy a o S) → va_S (va_A (wX11 cy a o S) s.heap.size) s.heap H locs → lv_has ls 14 [] → W p l e (headSpec wsL_sound ({ frames := 11, cells := 674, slots := 8088, locals := 210 } : Room)).room s m ([.ref (a o)] : List Value).toArray below meth c H locs cu su (vx_MQ below (va_Qi (fun r (u : SX11) => (r, u) = (rs, S)) (fun u t => mB D s.heap.size (wX11 cy a o S) (wX11 cy a o u) t) (va_A (wX11 cy a o S) s.heap.size)) (fun _ _ _ => False) ([.ref (a o)] : List Value).toArray s 674 8088 (va_A (wX11 cy a o S) s.heap.size)) (F0 m 558 ls [])) (k29 : Int32 → Int32 → Option (Int32)) (hk29 : ∀ (v5_30 : Int32) (v7_31 : Int32) (cu su : Nat) (hcu : cu + (7) ≤ 674 ∧ su + 12 * (7) ≤ 8088) (H : Heap) (locs : List Loc) (ls : Array Slot), k29 v5_30 v7_31 = some rs → va_P D vwCl (wX11 cy a o S) H → va_D (va_A (wX11 cy a o S) s.heap.size) (wX11 cy a o S) → va_S (va_A (wX11 cy a o S) s.heap.size) s.heap H locs → lv_has ls 14 [(0, .ref (a o)), (1, .int c1_22), (4, .int c4_25), (5, .int v5_30), (7, .int v7_31)] → W p l e (headSpec wsL_sound ({ frames := 11, cells := 674, slots := 8088, locals := 210 } : Room)).room s m ([.ref (a o)] : List Value).toArray below meth c H locs cu su (vx_MQ below (va_Qi (fun r (u : SX11) => (r, u) = (rs, S)) (fun u t => mB D s.heap.size (wX11 cy a o S) (wX11 cy a o u) t) (va_A (wX11 cy a o S) s.heap.size)) (fun _ _ _ => False) ([.ref (a o)] : List Value).toArray s 674 8088 (va_A (wX11 cy a o S) s.heap.size)) (F0 m 566 ls [])) (f180 : Nat) (v5_60 : Int32) (v7_61 : Int32) (v8_62 : Int32) (cu su : Nat) (hcu : cu + (f180 * 45 + 7) ≤ 674 ∧ su + 12 * (f180 * 45 + 7) ≤ 8088) (H : Heap) (locs : List Loc) (ls : Array Slot), DL_sound_L180 S c1_22 c2_23 c3_24 c4_25 c6_26 k27 k28 k29 f180 v5_60 v7_61 v8_62 = some rs → va_P D vwCl (wX11 cy a o S) H → va_D (va_A (wX11 cy a o S) s.heap.size) (wX11 cy a o S) → va_S (va_A (wX11 cy a o S) s.heap.size) s.heap H locs → lv_has ls 14 [(0, .ref (a o)), (1, .int c1_22), (2, .int c2_23), (3, .int c3_24), (4, .int c4_25), (5, .int v5_60), (6, .int c6_26), (7, .int v7_61), (8, .int v8_62)] → W p l e (headSpec wsL_sound ({ frames := 11, cells := 674, slots := 8088, locals := 210 } : Room)).room s m ([.ref (a o)] : List Value).toArray below meth c H locs cu su (vx_MQ below (va_Qi (fun r (u : SX11) => (r, u) = (rs, S)) (fun u t => mB D s.heap.size (wX11 cy a o S) (wX11 cy a o u) t) (va_A (wX11 cy a o S) s.heap.size)) (fun _ _ _ => False) ([.ref (a o)] : List Value).toArray s 674 8088 (va_A (wX11 cy a o S) s.heap.size)) (F0 m 180 ls []) := by
      intro c1_22 c2_23 c3_24 c4_25 c6_26 k27 hk27 k28 hk28 k29 hk29 f180
      induction f180 with
      | zero =>
        intro v5_60 v7_61 v8_62 cu su hcu H locs ls h hP hD hS hl
        rw [DL_sound_L180] at h
        cases h
      | succ f180 ih180 =>
        intro v5_60 v7_61 v8_62 cu su hcu H locs ls h hP hD hS hl
        rw [DL_sound_L180] at h
        refine lv_iload hx hb dL_sound_180 (lv_at hl 8 rfl) ?_
        refine lv_iload_n hx hb dL_sound_182 rfl (lv_at hl 2 rfl) ?_
        refine lv_icmp_ge (tgt := 566) hx hb dL_sound_183 (by decide) (fun cc => ?_) (fun cc => ?_)
        · have h := ite_p cc h
          exact hk29 v5_60 v7_61 cu su ⟨by omega, by omega⟩ H locs ls h hP hD hS (lv_sub hl [0, 1, 4, 5, 7] rfl)
        · have h := ite_n cc h
          refine lv_iload hx hb dL_sound_186 (lv_at hl 5 rfl) ?_
          refine lv_aload_n hx hb dL_sound_188 rfl (lv_at hl 0 rfl) ?_
          refine lv_iload hx hb dL_sound_189 (lv_at hl 8 rfl) ?_
          refine lv_iconst (v := (0 : Int32)) hx hb dL_sound_191 (by decide) ?_
          obtain ⟨x63, e64, h⟩ := bd_some h
          refine lcW (Re := []) (S := S) (rs := (x63, S)) (c2 := (cu + 1)) (s2 := (su + 6)) hG hGX hN hP hD hS hA (fun h1 h2 => vx_runSX (As := [.ref (a o), .int v8_62, .int (0 : Int32)]) (rest := [.int v5_60]) ⟨hx, hb, hml, hown, hts⟩ (qL_entrant l hl9 D cy tt a o S v8_62 (0 : Int32) (H).size x63 e64) (vx_cwSW 3 hts gL_sound_L_entrant rfl rfl rfl (by decide +kernel) ⟨Nat.le_of_ble_eq_true rfl, Nat.le_of_ble_eq_true rfl⟩) ⟨h1, h2⟩ rfl rfl hl.1 rfl (lv_room (Nat.le_of_ble_eq_true rfl)) dL_sound_192 ⟨show cu + 1 ≤ 674 by omega, show su + 6 ≤ 8088 by omega⟩) rfl rfl (fun H locs hP hD hS => ?_)
          refine lv_iadd hx hb dL_sound_195 ?_
          refine lv_istore (lv' := [(5, .int (v5_60 + x63)), (0, .ref (a o)), (1, .int c1_22), (2, .int c2_23), (3, .int c3_24), (4, .int c4_25), (6, .int c6_26), (7, .int v7_61), (8, .int v8_62)]) hx hb dL_sound_196 hl (by decide) rfl (fun ls hl => ?_)
          refine lv_iload hx hb dL_sound_198 (lv_at hl 7 rfl) ?_
          refine lv_aload_n hx hb dL_sound_200 rfl (lv_at hl 1 rfl) ?_
          refine lv_iload hx hb dL_sound_201 (lv_at hl 8 rfl) ?_
          refine lv_bipush (v := (6 : Int32)) hx hb dL_sound_203 (by decide) ?_
          obtain ⟨x65, e66, h⟩ := bd_some h
          refine lcW (Re := []) (S := S) (rs := (x65, S)) (c2 := (cu + 2)) (s2 := (su + 12)) hG hGX hN hP hD hS hA (fun h1 h2 => vx_runSX (As := [.ref (a o), .int v8_62, .int (6 : Int32)]) (rest := [.int v7_61]) ⟨hx, hb, hml, hown, hts⟩ (qL_entrant l hl9 D cy tt a o S v8_62 (6 : Int32) (H).size x65 e66) (vx_cwSW 3 hts gL_sound_L_entrant rfl rfl rfl (by decide +kernel) ⟨Nat.le_of_ble_eq_true rfl, Nat.le_of_ble_eq_true rfl⟩) ⟨h1, h2⟩ rfl rfl hl.1 rfl (lv_room (Nat.le_of_ble_eq_true rfl)) dL_sound_205 ⟨show (cu + 1) + 1 ≤ 674 by omega, show (su + 6) + 6 ≤ 8088 by omega⟩) rfl rfl (fun H locs hP hD hS => ?_)
          refine lv_iadd hx hb dL_sound_208 ?_
          refine lv_istore (lv' := [(7, .int (v7_61 + x65)), (5, .int (v5_60 + x63)), (0, .ref (a o)), (1, .int c1_22), (2, .int c2_23), (3, .int c3_24), (4, .int c4_25), (6, .int c6_26), (8, .int v8_62)]) hx hb dL_sound_209 hl (by decide) rfl (fun ls hl => ?_)
          refine lv_iconst (v := (0 : Int32)) hx hb dL_sound_211 (by decide) ?_
          refine lv_istore (lv' := [(9, .int (0 : Int32)), (7, .int (v7_61 + x65)), (5, .int (v5_60 + x63)), (0, .ref (a o)), (1, .int c1_22), (2, .int c2_23), (3, .int c3_24), (4, .int c4_25), (6, .int c6_26), (8, .int v8_62)]) hx hb dL_sound_212 hl (by decide) rfl (fun ls hl => ?_)
          refine lv_iconst (v := (0 : Int32)) hx hb dL_sound_214 (by decide) ?_
          refine lv_istore (lv' := [(10, .int (0 : Int32)), (9, .int (0 : Int32)), (7, .int (v7_61 + x65)), (5, .int (v5_60 + x63)), (0, .ref (a o)), (1, .int c1_22), (2, .int c2_23), (3, .int c3_24), (4, .int c4_25), (6, .int c6_26), (8, .int v8_62)]) hx hb dL_sound_215 hl (by decide) rfl (fun ls hl => ?_)
          refine lv_iconst (v := (0 : Int32)) hx hb dL_sound_217 (by decide) ?_
          refine lv_istore (lv' := [(11, .int (0 : Int32)), (10, .int (0 : Int32)), (9, .int (0 : Int32)), (7, .int (v7_61 + x65)), (5, .int (v5_60 + x63)), (0, .ref (a o)), (1, .int c1_22), (2, .int c2_23), (3, .int c3_24), (4, .int c4_25), (6, .int c6_26), (8, .int v8_62)]) hx hb dL_sound_218 hl (by decide) rfl (fun ls hl => ?_)
          refine lv_iconst (v := (0 : Int32)) hx hb dL_sound_220 (by decide) ?_
          refine lv_istore (lv' := [(12, .int (0 : Int32)), (11, .int (0 : Int32)), (10, .int (0 : Int32)), (9, .int (0 : Int32)), (7, .int (v7_61 + x65)), (5, .int (v5_60 + x63)), (0, .ref (a o)), (1, .int c1_22), (2, .int c2_23), (3, .int c3_24), (4, .int c4_25), (6, .int c6_26), (8, .int v8_62)]) hx hb dL_sound_221 hl (by decide) rfl (fun ls hl => ?_)
          have L133 : ∀ (c1_67 : Int32) (c2_68 : Int32) (c3_69 : Int32) (c4_70 : Int32) (c5_71 : Int32) (c6_72 : Int32) (c7_73 : Int32) (c8_74 : Int32) (k75 : Unit → Option (Int32)) (hk75 : ∀ (cu su : Nat) (hcu : cu + (0) ≤ 674 ∧ su + 12 * (0) ≤ 8088) (H : Heap) (locs : List Loc) (ls : Array Slot), k75 () = some rs → va_P D vwCl (wX11 cy a o S) H → va_D (va_A (wX11 cy a o S) s.heap.size) (wX11 cy a o S) → va_S (va_A (wX11 cy a o S) s.heap.size) s.heap H locs → lv_has ls 14 [] → W p l e (headSpec wsL_sound ({ frames := 11, cells := 674, slots := 8088, locals := 210 } : Room)).room s m ([.ref (a o)] : List Value).toArray below meth c H locs cu su (vx_MQ below (va_Qi (fun r (u : SX11) => (r, u) = (rs, S)) (fun u t => mB D s.heap.size (wX11 cy a o S) (wX11 cy a o u) t) (va_A (wX11 cy a o S) s.heap.size)) (fun _ _ _ => False) ([.ref (a o)] : List Value).toArray s 674 8088 (va_A (wX11 cy a o S) s.heap.size)) (F0 m 346 ls [])) (k76 : Int32 → Int32 → Option (Int32)) (hk76 : ∀ (v9_77 : Int32) (v10_78 : Int32) (cu su : Nat) (hcu : cu + (f180 * 45 + 18) ≤ 674 ∧ su + 12 * (f180 * 45 + 18) ≤ 8088) (H : Heap) (locs : List Loc) (ls : Array Slot), k76 v9_77 v10_78 = some rs → va_P D vwCl (wX11 cy a o S) H → va_D (va_A (wX11 cy a o S) s.heap.size) (wX11 cy a o S) → va_S (va_A (wX11 cy a o S) s.heap.size) s.heap H locs → lv_has ls 14 [(0, .ref (a o)), (1, .int c1_67), (2, .int c2_68), (3, .int c3_69), (4, .int c4_70), (5, .int c5_71), (6, .int c6_72), (7, .int c7_73), (8, .int c8_74), (9, .int v9_77), (10, .int v10_78)] → W p l e (headSpec wsL_sound ({ frames := 11, cells := 674, slots := 8088, locals := 210 } : Room)).room s m ([.ref (a o)] : List Value).toArray below meth c H locs cu su (vx_MQ below (va_Qi (fun r (u : SX11) => (r, u) = (rs, S)) (fun u t => mB D s.heap.size (wX11 cy a o S) (wX11 cy a o u) t) (va_A (wX11 cy a o S) s.heap.size)) (fun _ _ _ => False) ([.ref (a o)] : List Value).toArray s 674 8088 (va_A (wX11 cy a o S) s.heap.size)) (F0 m 354 ls [])) (f223 : Nat) (v9_113 : Int32) (v10_114 : Int32) (v11_115 : Int32) (v12_116 : Int32) (cu su : Nat) (hcu : cu + (f223 * 4 + f180 * 45 + 18) ≤ 674 ∧ su + 12 * (f223 * 4 + f180 * 45 + 18) ≤ 8088) (H : Heap) (locs : List Loc) (ls : Array Slot), DL_sound_L223 S c1_67 c2_68 c3_69 c4_70 c5_71 c6_72 c7_73 c8_74 k75 k76 f223 v9_113 v10_114 v11_115 v12_116 = some rs → va_P D vwCl (wX11 cy a o S) H → va_D (va_A (wX11 cy a o S) s.heap.size) (wX11 cy a o S) → va_S (va_A (wX11 cy a o S) s.heap.size) s.heap H locs → lv_has ls 14 [(0, .ref (a o)), (1, .int c1_67), (2, .int c2_68), (3, .int c3_69), (4, .int c4_70), (5, .int c5_71), (6, .int c6_72), (7, .int c7_73), (8, .int c8_74), (9, .int v9_113), (10, .int v10_114), (11, .int v11_115), (12, .int v12_116)] → W p l e (headSpec wsL_sound ({ frames := 11, cells := 674, slots := 8088, locals := 210 } : Room)).room s m ([.ref (a o)] : List Value).toArray below meth c H locs cu su (vx_MQ below (va_Qi (fun r (u : SX11) => (r, u) = (rs, S)) (fun u t => mB D s.heap.size (wX11 cy a o S) (wX11 cy a o u) t) (va_A (wX11 cy a o S) s.heap.size)) (fun _ _ _ => False) ([.ref (a o)] : List Value).toArray s 674 8088 (va_A (wX11 cy a o S) s.heap.size)) (F0 m 223 ls []) := by
            intro c1_67 c2_68 c3_69 c4_70 c5_71 c6_72 c7_73 c8_74 k75 hk75 k76 hk76 f223
            induction f223 with
            | zero =>
              intro v9_113 v10_114 v11_115 v12_116 cu su hcu H locs ls h hP hD hS hl
              rw [DL_sound_L223] at h
              cases h
            | succ f223 ih223 =>
              intro v9_113 v10_114 v11_115 v12_116 cu su hcu H locs ls h hP hD hS hl
              rw [DL_sound_L223] at h
              refine lv_iload hx hb dL_sound_223 (lv_at hl 12 rfl) ?_
              refine lv_iload_n hx hb dL_sound_225 rfl (lv_at hl 3 rfl) ?_
              refine lv_icmp_ge (tgt := 354) hx hb dL_sound_226 (by decide) (fun cc => ?_) (fun cc => ?_)
              · have h := ite_p cc h
                exact hk76 v9_113 v10_114 cu su ⟨by omega, by omega⟩ H locs ls h hP hD hS (lv_sub hl [0, 1, 2, 3, 4, 5, 6, 7, 8, 9, 10] rfl)
              · have h := ite_n cc h
                refine lv_aload_n hx hb dL_sound_229 rfl (lv_at hl 0 rfl) ?_
                refine lv_iload hx hb dL_sound_230 (lv_at hl 12 rfl) ?_
                refine lv_iload hx hb dL_sound_232 (lv_at hl 8 rfl) ?_
                refine lv_iconst (v := (0 : Int32)) hx hb dL_sound_234 (by decide) ?_
                obtain ⟨x117, e118, h⟩ := bd_some h
                refine lcW (Re := []) (S := S) (rs := (x117, S)) (c2 := (cu + 1)) (s2 := (su + 6)) hG hGX hN hP hD hS hA (fun h1 h2 => vx_runSX (As := [.ref (a o), .int v12_116, .int c8_74, .int (0 : Int32)]) (rest := []) ⟨hx, hb, hml, hown, hts⟩ (qL_marked l hl9 D cy tt a o S v12_116 c8_74 (0 : Int32) (H).size x117 e118) (vx_cwSW 4 hts gL_sound_L_marked rfl rfl rfl (by decide +kernel) ⟨Nat.le_of_ble_eq_true rfl, Nat.le_of_ble_eq_true rfl⟩) ⟨h1, h2⟩ rfl rfl hl.1 rfl (lv_room (Nat.le_of_ble_eq_true rfl)) dL_sound_235 ⟨show cu + 1 ≤ 674 by omega, show su + 6 ≤ 8088 by omega⟩) rfl rfl (fun H locs hP hD hS => ?_)
                refine lv_istore (lv' := [(13, .int x117), (0, .ref (a o)), (1, .int c1_67), (2, .int c2_68), (3, .int c3_69), (4, .int c4_70), (5, .int c5_71), (6, .int c6_72), (7, .int c7_73), (8, .int c8_74), (9, .int v9_113), (10, .int v10_114), (11, .int v11_115), (12, .int v12_116)]) hx hb dL_sound_238 hl (by decide) rfl (fun ls hl => ?_)
                refine lv_iload hx hb dL_sound_240 (lv_at hl 11 rfl) ?_
                refine lv_iload hx hb dL_sound_242 (lv_at hl 0 rfl) ?_
                obtain ⟨j120, hj120, h⟩ := jn_elim h
                have Jj120 : ∀ (x119 : Int32) (cu su : Nat) (hcu : cu + (f223 * 4 + f180 * 45 + 21) ≤ 674 ∧ su + 12 * (f223 * 4 + f180 * 45 + 21) ≤ 8088) (ls : Array Slot), j120 x119 = some rs → lv_has ls 14 [(0, .ref (a o)), (1, .int c1_67), (2, .int c2_68), (3, .int c3_69), (4, .int c4_70), (5, .int c5_71), (6, .int c6_72), (7, .int c7_73), (8, .int c8_74), (9, .int v9_113), (11, .int v11_115), (12, .int v12_116), (13, .int x117)] → W p l e (headSpec wsL_sound ({ frames := 11, cells := 674, slots := 8088, locals := 210 } : Room)).room s m ([.ref (a o)] : List Value).toArray below meth c H locs cu su (vx_MQ below (va_Qi (fun r (u : SX11) => (r, u) = (rs, S)) (fun u t => mB D s.heap.size (wX11 cy a o S) (wX11 cy a o u) t) (va_A (wX11 cy a o S) s.heap.size)) (fun _ _ _ => False) ([.ref (a o)] : List Value).toArray s 674 8088 (va_A (wX11 cy a o S) s.heap.size)) (F0 m 252 ls [.int x119, .int v10_114]) := by
                  intro x119 cu su hcu ls h hl
                  rw [hj120] at h
                  refine lv_iadd hx hb dL_sound_252 ?_
                  refine lv_istore (lv' := [(10, .int (v10_114 + x119)), (0, .ref (a o)), (1, .int c1_67), (2, .int c2_68), (3, .int c3_69), (4, .int c4_70), (5, .int c5_71), (6, .int c6_72), (7, .int c7_73), (8, .int c8_74), (9, .int v9_113), (11, .int v11_115), (12, .int v12_116), (13, .int x117)]) hx hb dL_sound_253 hl (by decide) rfl (fun ls hl => ?_)
                  refine lv_iload hx hb dL_sound_255 (lv_at hl 10 rfl) ?_
                  refine lv_iload hx hb dL_sound_257 (lv_at hl 13 rfl) ?_
                  obtain ⟨j122, hj122, h⟩ := jn_elim h
                  have Jj122 : ∀ (x121 : Int32) (cu su : Nat) (hcu : cu + (f223 * 4 + f180 * 45 + 21) ≤ 674 ∧ su + 12 * (f223 * 4 + f180 * 45 + 21) ≤ 8088) (ls : Array Slot), j122 x121 = some rs → lv_has ls 14 [(0, .ref (a o)), (1, .int c1_67), (2, .int c2_68), (3, .int c3_69), (4, .int c4_70), (5, .int c5_71), (6, .int c6_72), (7, .int c7_73), (8, .int c8_74), (10, .int (v10_114 + x119)), (11, .int v11_115), (12, .int v12_116), (13, .int x117)] → W p l e (headSpec wsL_sound ({ frames := 11, cells := 674, slots := 8088, locals := 210 } : Room)).room s m ([.ref (a o)] : List Value).toArray below meth c H locs cu su (vx_MQ below (va_Qi (fun r (u : SX11) => (r, u) = (rs, S)) (fun u t => mB D s.heap.size (wX11 cy a o S) (wX11 cy a o u) t) (va_A (wX11 cy a o S) s.heap.size)) (fun _ _ _ => False) ([.ref (a o)] : List Value).toArray s 674 8088 (va_A (wX11 cy a o S) s.heap.size)) (F0 m 267 ls [.int x121, .int v9_113]) := by
                    intro x121 cu su hcu ls h hl
                    rw [hj122] at h
                    refine lv_iadd hx hb dL_sound_267 ?_
                    refine lv_istore (lv' := [(9, .int (v9_113 + x121)), (0, .ref (a o)), (1, .int c1_67), (2, .int c2_68), (3, .int c3_69), (4, .int c4_70), (5, .int c5_71), (6, .int c6_72), (7, .int c7_73), (8, .int c8_74), (10, .int (v10_114 + x119)), (11, .int v11_115), (12, .int v12_116), (13, .int x117)]) hx hb dL_sound_268 hl (by decide) rfl (fun ls hl => ?_)
                    refine lv_iload hx hb dL_sound_270 (lv_at hl 11 rfl) ?_
                    obtain ⟨j124, hj124, h⟩ := jn_elim h
                    have Jj124 : ∀ (x123 : Int32) (cu su : Nat) (hcu : cu + (f223 * 4 + f180 * 45 + 21) ≤ 674 ∧ su + 12 * (f223 * 4 + f180 * 45 + 21) ≤ 8088) (ls : Array Slot), j124 x123 = some rs → lv_has ls 14 [(0, .ref (a o)), (1, .int c1_67), (2, .int c2_68), (3, .int c3_69), (4, .int c4_70), (5, .int c5_71), (6, .int c6_72), (7, .int c7_73), (8, .int c8_74), (9, .int (v9_113 + x121)), (10, .int (v10_114 + x119)), (12, .int v12_116), (13, .int x117)] → W p l e (headSpec wsL_sound ({ frames := 11, cells := 674, slots := 8088, locals := 210 } : Room)).room s m ([.ref (a o)] : List Value).toArray below meth c H locs cu su (vx_MQ below (va_Qi (fun r (u : SX11) => (r, u) = (rs, S)) (fun u t => mB D s.heap.size (wX11 cy a o S) (wX11 cy a o u) t) (va_A (wX11 cy a o S) s.heap.size)) (fun _ _ _ => False) ([.ref (a o)] : List Value).toArray s 674 8088 (va_A (wX11 cy a o S) s.heap.size)) (F0 m 286 ls [.int x123]) := by
                      intro x123 cu su hcu ls h hl
                      rw [hj124] at h
                      refine lv_istore (lv' := [(11, .int x123), (0, .ref (a o)), (1, .int c1_67), (2, .int c2_68), (3, .int c3_69), (4, .int c4_70), (5, .int c5_71), (6, .int c6_72), (7, .int c7_73), (8, .int c8_74), (9, .int (v9_113 + x121)), (10, .int (v10_114 + x119)), (12, .int v12_116), (13, .int x117)]) hx hb dL_sound_286 hl (by decide) rfl (fun ls hl => ?_)
                      refine lv_iload hx hb dL_sound_288 (lv_at hl 13 rfl) ?_
                      refine lv_bipush (v := (-2 : Int32)) hx hb dL_sound_290 (by decide) ?_
                      refine lv_icmp_lt (tgt := 346) hx hb dL_sound_292 (by decide) (fun cc => ?_) (fun cc => ?_)
                      · have h := ite_p cc h
                        exact hk75  cu su ⟨by omega, by omega⟩ H locs ls h hP hD hS (lv_sub hl [] rfl)
                      · have h := ite_n cc h
                        refine lv_iload hx hb dL_sound_295 (lv_at hl 13 rfl) ?_
                        refine lv_bipush (v := (100 : Int32)) hx hb dL_sound_297 (by decide) ?_
                        refine lv_icmp_gt (tgt := 346) hx hb dL_sound_299 (by decide) (fun cc => ?_) (fun cc => ?_)
                        · have h := ite_p cc h
                          exact hk75  cu su ⟨by omega, by omega⟩ H locs ls h hP hD hS (lv_sub hl [] rfl)
                        · have h := ite_n cc h
                          refine lv_aload_n hx hb dL_sound_302 rfl (lv_at hl 1 rfl) ?_
                          refine lv_iload hx hb dL_sound_303 (lv_at hl 12 rfl) ?_
                          refine lv_iload hx hb dL_sound_305 (lv_at hl 9 rfl) ?_
                          refine lv_iconst (v := (1 : Int32)) hx hb dL_sound_307 (by decide) ?_
                          obtain ⟨x125, e126, h⟩ := bd_some h
                          refine lcW (Re := []) (S := S) (rs := (x125, S)) (c2 := (cu + 1)) (s2 := (su + 6)) hG hGX hN hP hD hS hA (fun h1 h2 => vx_runSX (As := [.ref (a o), .int v12_116, .int c8_74, .int (1 : Int32)]) (rest := []) ⟨hx, hb, hml, hown, hts⟩ (qL_marked l hl9 D cy tt a o S v12_116 c8_74 (1 : Int32) (H).size x125 e126) (vx_cwSW 4 hts gL_sound_L_marked rfl rfl rfl (by decide +kernel) ⟨Nat.le_of_ble_eq_true rfl, Nat.le_of_ble_eq_true rfl⟩) ⟨h1, h2⟩ rfl rfl hl.1 rfl (lv_room (Nat.le_of_ble_eq_true rfl)) dL_sound_308 ⟨show cu + 1 ≤ 674 by omega, show su + 6 ≤ 8088 by omega⟩) rfl rfl (fun H locs hP hD hS => ?_)
                          refine lv_bipush (v := (10 : Int32)) hx hb dL_sound_311 (by decide) ?_
                          refine lv_icmp_gt (tgt := 346) hx hb dL_sound_313 (by decide) (fun cc => ?_) (fun cc => ?_)
                          · have h := ite_p cc h
                            exact hk75  (cu + 1) (su + 6) ⟨by omega, by omega⟩ H locs ls h hP hD hS (lv_sub hl [] rfl)
                          · have h := ite_n cc h
                            refine lv_aload_n hx hb dL_sound_316 rfl (lv_at hl 1 rfl) ?_
                            refine lv_iload hx hb dL_sound_317 (lv_at hl 12 rfl) ?_
                            refine lv_iload hx hb dL_sound_319 (lv_at hl 9 rfl) ?_
                            refine lv_iconst (v := (1 : Int32)) hx hb dL_sound_321 (by decide) ?_
                            obtain ⟨x127, e128, h⟩ := bd_some h
                            refine lcW (Re := []) (S := S) (rs := (x127, S)) (c2 := (cu + 2)) (s2 := (su + 12)) hG hGX hN hP hD hS hA (fun h1 h2 => vx_runSX (As := [.ref (a o), .int v12_116, .int c8_74, .int (1 : Int32)]) (rest := []) ⟨hx, hb, hml, hown, hts⟩ (qL_marked l hl9 D cy tt a o S v12_116 c8_74 (1 : Int32) (H).size x127 e128) (vx_cwSW 4 hts gL_sound_L_marked rfl rfl rfl (by decide +kernel) ⟨Nat.le_of_ble_eq_true rfl, Nat.le_of_ble_eq_true rfl⟩) ⟨h1, h2⟩ rfl rfl hl.1 rfl (lv_room (Nat.le_of_ble_eq_true rfl)) dL_sound_322 ⟨show (cu + 1) + 1 ≤ 674 by omega, show (su + 6) + 6 ≤ 8088 by omega⟩) rfl rfl (fun H locs hP hD hS => ?_)
                            refine lv_iconst (v := (-1 : Int32)) hx hb dL_sound_325 (by decide) ?_
                            obtain ⟨j129, hj129, h⟩ := jn_elim h
                            have Jj129 : ∀ (cu su : Nat) (hcu : cu + (f223 * 4 + f180 * 45 + 18) ≤ 674 ∧ su + 12 * (f223 * 4 + f180 * 45 + 18) ≤ 8088) (H : Heap) (locs : List Loc) (ls : Array Slot), j129 () = some rs → va_P D vwCl (wX11 cy a o S) H → va_D (va_A (wX11 cy a o S) s.heap.size) (wX11 cy a o S) → va_S (va_A (wX11 cy a o S) s.heap.size) s.heap H locs → lv_has ls 14 [(0, .ref (a o)), (1, .int c1_67), (2, .int c2_68), (3, .int c3_69), (4, .int c4_70), (5, .int c5_71), (6, .int c6_72), (7, .int c7_73), (8, .int c8_74), (9, .int (v9_113 + x121)), (10, .int (v10_114 + x119)), (11, .int x123), (12, .int v12_116)] → W p l e (headSpec wsL_sound ({ frames := 11, cells := 674, slots := 8088, locals := 210 } : Room)).room s m ([.ref (a o)] : List Value).toArray below meth c H locs cu su (vx_MQ below (va_Qi (fun r (u : SX11) => (r, u) = (rs, S)) (fun u t => mB D s.heap.size (wX11 cy a o S) (wX11 cy a o u) t) (va_A (wX11 cy a o S) s.heap.size)) (fun _ _ _ => False) ([.ref (a o)] : List Value).toArray s 674 8088 (va_A (wX11 cy a o S) s.heap.size)) (F0 m 348 ls []) := by
                              intro cu su hcu H locs ls h hP hD hS hl
                              rw [hj129] at h
                              refine lv_iinc (v := (v12_116 + (1 : Int32))) (lv' := [(12, .int (v12_116 + (1 : Int32))), (0, .ref (a o)), (1, .int c1_67), (2, .int c2_68), (3, .int c3_69), (4, .int c4_70), (5, .int c5_71), (6, .int c6_72), (7, .int c7_73), (8, .int c8_74), (9, .int (v9_113 + x121)), (10, .int (v10_114 + x119)), (11, .int x123)]) hx hb dL_sound_348 hl (k := 12) rfl (by rfl) (by decide) rfl (fun ls hl => ?_)
                              refine lv_goto (tgt := 223) hx hb dL_sound_351 (by decide) ?_
                              exact ih223 (v9_113 + x121) (v10_114 + x119) x123 (v12_116 + (1 : Int32)) cu su ⟨by omega, by omega⟩ H locs ls h hP hD hS (lv_sub hl [1, 2, 3, 4, 5, 6, 7, 8, 9, 10, 11, 12, 0] rfl)
                            refine lv_icmp_eq (tgt := 348) hx hb dL_sound_326 (by decide) (fun cc => ?_) (fun cc => ?_)
                            · have h := ite_p cc h
                              exact Jj129  (cu + 2) (su + 12) ⟨by omega, by omega⟩ H locs ls h hP hD hS (lv_sub hl [1, 2, 3, 4, 5, 6, 7, 8, 9, 10, 11, 0, 12] rfl)
                            · have h := ite_n cc h
                              refine lv_iload_n hx hb dL_sound_329 rfl (lv_at hl 2 rfl) ?_
                              refine lv_iconst (v := (2 : Int32)) hx hb dL_sound_330 (by decide) ?_
                              refine lv_icmp_ne (tgt := 346) hx hb dL_sound_331 (by decide) (fun cc => ?_) (fun cc => ?_)
                              · have h := ite_n cc h
                                exact hk75  (cu + 2) (su + 12) ⟨by omega, by omega⟩ H locs ls h hP hD hS (lv_sub hl [] rfl)
                              · have h := ite_p cc h
                                refine lv_aload_n hx hb dL_sound_334 rfl (lv_at hl 1 rfl) ?_
                                refine lv_iload hx hb dL_sound_335 (lv_at hl 9 rfl) ?_
                                refine lv_bipush (v := (6 : Int32)) hx hb dL_sound_337 (by decide) ?_
                                obtain ⟨x130, e131, h⟩ := bd_some h
                                refine lcW (Re := []) (S := S) (rs := (x130, S)) (c2 := (cu + 3)) (s2 := (su + 18)) hG hGX hN hP hD hS hA (fun h1 h2 => vx_runSX (As := [.ref (a o), .int c8_74, .int (6 : Int32)]) (rest := []) ⟨hx, hb, hml, hown, hts⟩ (qL_entrant l hl9 D cy tt a o S c8_74 (6 : Int32) (H).size x130 e131) (vx_cwSW 3 hts gL_sound_L_entrant rfl rfl rfl (by decide +kernel) ⟨Nat.le_of_ble_eq_true rfl, Nat.le_of_ble_eq_true rfl⟩) ⟨h1, h2⟩ rfl rfl hl.1 rfl (lv_room (Nat.le_of_ble_eq_true rfl)) dL_sound_339 ⟨show (cu + 2) + 1 ≤ 674 by omega, show (su + 12) + 6 ≤ 8088 by omega⟩) rfl rfl (fun H locs hP hD hS => ?_)
                                refine lv_iconst (v := (1 : Int32)) hx hb dL_sound_342 (by decide) ?_
                                refine lv_icmp_eq (tgt := 348) hx hb dL_sound_343 (by decide) (fun cc => ?_) (fun cc => ?_)
                                · have h := ite_p cc h
                                  exact Jj129  (cu + 3) (su + 18) ⟨by omega, by omega⟩ H locs ls h hP hD hS (lv_sub hl [1, 2, 3, 4, 5, 6, 7, 8, 9, 10, 11, 0, 12] rfl)
                                · have h := ite_n cc h
                                  exact hk75  (cu + 3) (su + 18) ⟨by omega, by omega⟩ H locs ls h hP hD hS (lv_sub hl [] rfl)
                    obtain ⟨j132, hj132, h⟩ := jn_elim h
                    have Jj132 : ∀ (cu su : Nat) (hcu : cu + (f223 * 4 + f180 * 45 + 21) ≤ 674 ∧ su + 12 * (f223 * 4 + f180 * 45 + 21) ≤ 8088) (ls : Array Slot), j132 () = some rs → lv_has ls 14 [(0, .ref (a o)), (1, .int c1_67), (2, .int c2_68), (3, .int c3_69), (4, .int c4_70), (5, .int c5_71), (6, .int c6_72), (7, .int c7_73), (8, .int c8_74), (9, .int (v9_113 + x121)), (10, .int (v10_114 + x119)), (12, .int v12_116), (13, .int x117)] → W p l e (headSpec wsL_sound ({ frames := 11, cells := 674, slots := 8088, locals := 210 } : Room)).room s m ([.ref (a o)] : List Value).toArray below meth c H locs cu su (vx_MQ below (va_Qi (fun r (u : SX11) => (r, u) = (rs, S)) (fun u t => mB D s.heap.size (wX11 cy a o S) (wX11 cy a o u) t) (va_A (wX11 cy a o S) s.heap.size)) (fun _ _ _ => False) ([.ref (a o)] : List Value).toArray s 674 8088 (va_A (wX11 cy a o S) s.heap.size)) (F0 m 281 ls []) := by
                      intro cu su hcu ls h hl
                      rw [hj132] at h
                      refine lv_iconst (v := (1 : Int32)) hx hb dL_sound_281 (by decide) ?_
                      refine lv_goto (tgt := 286) hx hb dL_sound_282 (by decide) ?_
                      exact Jj124 (1 : Int32) cu su ⟨by omega, by omega⟩ ls h (lv_sub hl [0, 1, 2, 3, 4, 5, 6, 7, 8, 9, 10, 11, 12] rfl)
                    refine lv_if_ne (tgt := 281) hx hb dL_sound_272 (by decide) (fun cc => ?_) (fun cc => ?_)
                    · have h := ite_n cc h
                      exact Jj132  cu su ⟨by omega, by omega⟩ ls h (lv_sub hl [1, 2, 3, 4, 5, 6, 7, 8, 9, 0, 10, 12, 13] rfl)
                    · have h := ite_p cc h
                      refine lv_iload hx hb dL_sound_275 (lv_at hl 13 rfl) ?_
                      refine lv_iconst (v := (-1 : Int32)) hx hb dL_sound_277 (by decide) ?_
                      refine lv_icmp_ne (tgt := 285) hx hb dL_sound_278 (by decide) (fun cc => ?_) (fun cc => ?_)
                      · have h := ite_n cc h
                        refine lv_iconst (v := (0 : Int32)) hx hb dL_sound_285 (by decide) ?_
                        exact Jj124 (0 : Int32) cu su ⟨by omega, by omega⟩ ls h (lv_sub hl [1, 2, 3, 4, 5, 6, 7, 8, 9, 0, 10, 12, 13] rfl)
                      · have h := ite_p cc h
                        exact Jj132  cu su ⟨by omega, by omega⟩ ls h (lv_sub hl [1, 2, 3, 4, 5, 6, 7, 8, 9, 0, 10, 12, 13] rfl)
                  refine lv_if_lt (tgt := 266) hx hb dL_sound_259 (by decide) (fun cc => ?_) (fun cc => ?_)
                  · have h := ite_p cc h
                    refine lv_iconst (v := (0 : Int32)) hx hb dL_sound_266 (by decide) ?_
                    exact Jj122 (0 : Int32) cu su ⟨by omega, by omega⟩ ls h (lv_sub hl [1, 2, 3, 4, 5, 6, 7, 8, 9, 0, 11, 12, 13] rfl)
                  · have h := ite_n cc h
                    refine lv_iconst (v := (1 : Int32)) hx hb dL_sound_262 (by decide) ?_
                    refine lv_goto (tgt := 267) hx hb dL_sound_263 (by decide) ?_
                    exact Jj122 (1 : Int32) cu su ⟨by omega, by omega⟩ ls h (lv_sub hl [1, 2, 3, 4, 5, 6, 7, 8, 9, 0, 11, 12, 13] rfl)
                refine lv_if_lt (tgt := 251) hx hb dL_sound_244 (by decide) (fun cc => ?_) (fun cc => ?_)
                · have h := ite_p cc h
                  refine lv_iconst (v := (0 : Int32)) hx hb dL_sound_251 (by decide) ?_
                  exact Jj120 (0 : Int32) (cu + 1) (su + 6) ⟨by omega, by omega⟩ ls h (lv_sub hl [1, 2, 3, 4, 5, 6, 7, 8, 9, 10, 12, 13, 0] rfl)
                · have h := ite_n cc h
                  refine lv_iconst (v := (1 : Int32)) hx hb dL_sound_247 (by decide) ?_
                  refine lv_goto (tgt := 252) hx hb dL_sound_248 (by decide) ?_
                  exact Jj120 (1 : Int32) (cu + 1) (su + 6) ⟨by omega, by omega⟩ ls h (lv_sub hl [1, 2, 3, 4, 5, 6, 7, 8, 9, 10, 12, 13, 0] rfl)
          refine L133 c1_22 c2_23 c3_24 c4_25 (v5_60 + x63) c6_26 (v7_61 + x65) v8_62 _ hk27 _ ?_ 8 (0 : Int32) (0 : Int32) (0 : Int32) (0 : Int32) (cu + 2) (su + 12) ⟨by omega, by omega⟩ H locs ls h hP hD hS (lv_sub hl [6, 7, 8, 9, 10, 5, 11, 4, 12, 3, 2, 1, 0] rfl)
          intro v9_79 v10_80 cu su hcu H locs ls h hP hD hS hl
          refine lv_aload_n hx hb dL_sound_354 rfl (lv_at hl 0 rfl) ?_
          refine lv_iload hx hb dL_sound_355 (lv_at hl 8 rfl) ?_
          refine lv_iconst (v := (4 : Int32)) hx hb dL_sound_357 (by decide) ?_
          obtain ⟨x81, e82, h⟩ := bd_some h
          refine lcW (Re := []) (S := S) (rs := (x81, S)) (c2 := (cu + 1)) (s2 := (su + 6)) hG hGX hN hP hD hS hA (fun h1 h2 => vx_runSX (As := [.ref (a o), .int v8_62, .int (4 : Int32)]) (rest := []) ⟨hx, hb, hml, hown, hts⟩ (qL_entrant l hl9 D cy tt a o S v8_62 (4 : Int32) (H).size x81 e82) (vx_cwSW 3 hts gL_sound_L_entrant rfl rfl rfl (by decide +kernel) ⟨Nat.le_of_ble_eq_true rfl, Nat.le_of_ble_eq_true rfl⟩) ⟨h1, h2⟩ rfl rfl hl.1 rfl (lv_room (Nat.le_of_ble_eq_true rfl)) dL_sound_358 ⟨show cu + 1 ≤ 674 by omega, show su + 6 ≤ 8088 by omega⟩) rfl rfl (fun H locs hP hD hS => ?_)
          refine lv_istore (lv' := [(12, .int x81), (0, .ref (a o)), (1, .int c1_22), (2, .int c2_23), (3, .int c3_24), (4, .int c4_25), (5, .int (v5_60 + x63)), (6, .int c6_26), (7, .int (v7_61 + x65)), (8, .int v8_62), (9, .int v9_79), (10, .int v10_80)]) hx hb dL_sound_361 hl (by decide) rfl (fun ls hl => ?_)
          refine lv_iload hx hb dL_sound_363 (lv_at hl 7 rfl) ?_
          refine lv_iload hx hb dL_sound_365 (lv_at hl 9 rfl) ?_
          refine lv_ishr hx hb dL_sound_367 ?_
          refine lv_iconst (v := (1 : Int32)) hx hb dL_sound_368 (by decide) ?_
          refine lv_iand hx hb dL_sound_369 ?_
          refine lv_iconst (v := (1 : Int32)) hx hb dL_sound_370 (by decide) ?_
          obtain ⟨j84, hj84, h⟩ := jn_elim h
          have Jj84 : ∀ (x83 : Int32) (cu su : Nat) (hcu : cu + (f180 * 45 + 17) ≤ 674 ∧ su + 12 * (f180 * 45 + 17) ≤ 8088) (ls : Array Slot), j84 x83 = some rs → lv_has ls 14 [(0, .ref (a o)), (1, .int c1_22), (2, .int c2_23), (3, .int c3_24), (4, .int c4_25), (5, .int (v5_60 + x63)), (6, .int c6_26), (7, .int (v7_61 + x65)), (8, .int v8_62), (9, .int v9_79), (10, .int v10_80), (12, .int x81)] → W p l e (headSpec wsL_sound ({ frames := 11, cells := 674, slots := 8088, locals := 210 } : Room)).room s m ([.ref (a o)] : List Value).toArray below meth c H locs cu su (vx_MQ below (va_Qi (fun r (u : SX11) => (r, u) = (rs, S)) (fun u t => mB D s.heap.size (wX11 cy a o S) (wX11 cy a o u) t) (va_A (wX11 cy a o S) s.heap.size)) (fun _ _ _ => False) ([.ref (a o)] : List Value).toArray s 674 8088 (va_A (wX11 cy a o S) s.heap.size)) (F0 m 379 ls [.int x83]) := by
            intro x83 cu su hcu ls h hl
            rw [hj84] at h
            refine lv_istore (lv' := [(13, .int x83), (0, .ref (a o)), (1, .int c1_22), (2, .int c2_23), (3, .int c3_24), (4, .int c4_25), (5, .int (v5_60 + x63)), (6, .int c6_26), (7, .int (v7_61 + x65)), (8, .int v8_62), (9, .int v9_79), (10, .int v10_80), (12, .int x81)]) hx hb dL_sound_379 hl (by decide) rfl (fun ls hl => ?_)
            refine lv_iload hx hb dL_sound_381 (lv_at hl 0 rfl) ?_
            obtain ⟨j85, hj85, h⟩ := jn_elim h
            have Jj85 : ∀ (cu su : Nat) (hcu : cu + (f180 * 45 + 13) ≤ 674 ∧ su + 12 * (f180 * 45 + 13) ≤ 8088) (H : Heap) (locs : List Loc) (ls : Array Slot), j85 () = some rs → va_P D vwCl (wX11 cy a o S) H → va_D (va_A (wX11 cy a o S) s.heap.size) (wX11 cy a o S) → va_S (va_A (wX11 cy a o S) s.heap.size) s.heap H locs → lv_has ls 14 [(0, .ref (a o)), (1, .int c1_22), (2, .int c2_23), (3, .int c3_24), (4, .int c4_25), (5, .int (v5_60 + x63)), (6, .int c6_26), (7, .int (v7_61 + x65)), (8, .int v8_62), (9, .int v9_79), (10, .int v10_80), (12, .int x81), (13, .int x83)] → W p l e (headSpec wsL_sound ({ frames := 11, cells := 674, slots := 8088, locals := 210 } : Room)).room s m ([.ref (a o)] : List Value).toArray below meth c H locs cu su (vx_MQ below (va_Qi (fun r (u : SX11) => (r, u) = (rs, S)) (fun u t => mB D s.heap.size (wX11 cy a o S) (wX11 cy a o u) t) (va_A (wX11 cy a o S) s.heap.size)) (fun _ _ _ => False) ([.ref (a o)] : List Value).toArray s 674 8088 (va_A (wX11 cy a o S) s.heap.size)) (F0 m 440 ls []) := by
              intro cu su hcu H locs ls h hP hD hS hl
              rw [hj85] at h
              refine lv_iload hx hb dL_sound_440 (lv_at hl 11 rfl) ?_
              refine lv_iconst (v := (-1 : Int32)) hx hb dL_sound_442 (by decide) ?_
              refine lv_icmp_lt (tgt := 558) hx hb dL_sound_443 (by decide) (fun cc => ?_) (fun cc => ?_)
              · have h := ite_p cc h
                exact hk28  cu su ⟨by omega, by omega⟩ H locs ls h hP hD hS (lv_sub hl [] rfl)
              · have h := ite_n cc h
                refine lv_iload hx hb dL_sound_446 (lv_at hl 11 rfl) ?_
                refine lv_ldc (v := (100000 : Int32)) hx hb hown (hts (.constant RL 112 (100000 : Int32)) (by decide +kernel)) dL_sound_448 ?_
                refine lv_icmp_gt (tgt := 558) hx hb dL_sound_450 (by decide) (fun cc => ?_) (fun cc => ?_)
                · have h := ite_p cc h
                  exact hk28  cu su ⟨by omega, by omega⟩ H locs ls h hP hD hS (lv_sub hl [] rfl)
                · have h := ite_n cc h
                  refine lv_iload_n hx hb dL_sound_453 rfl (lv_at hl 1 rfl) ?_
                  refine lv_iconst (v := (2 : Int32)) hx hb dL_sound_454 (by decide) ?_
                  obtain ⟨j86, hj86, h⟩ := jn_elim h
                  have Jj86 : ∀ (cu su : Nat) (hcu : cu + (f180 * 45 + 12) ≤ 674 ∧ su + 12 * (f180 * 45 + 12) ≤ 8088) (H : Heap) (locs : List Loc) (ls : Array Slot), j86 () = some rs → va_P D vwCl (wX11 cy a o S) H → va_D (va_A (wX11 cy a o S) s.heap.size) (wX11 cy a o S) → va_S (va_A (wX11 cy a o S) s.heap.size) s.heap H locs → lv_has ls 14 [(0, .ref (a o)), (1, .int c1_22), (2, .int c2_23), (3, .int c3_24), (4, .int c4_25), (5, .int (v5_60 + x63)), (6, .int c6_26), (7, .int (v7_61 + x65)), (8, .int v8_62), (10, .int v10_80), (12, .int x81), (13, .int x83)] → W p l e (headSpec wsL_sound ({ frames := 11, cells := 674, slots := 8088, locals := 210 } : Room)).room s m ([.ref (a o)] : List Value).toArray below meth c H locs cu su (vx_MQ below (va_Qi (fun r (u : SX11) => (r, u) = (rs, S)) (fun u t => mB D s.heap.size (wX11 cy a o S) (wX11 cy a o u) t) (va_A (wX11 cy a o S) s.heap.size)) (fun _ _ _ => False) ([.ref (a o)] : List Value).toArray s 674 8088 (va_A (wX11 cy a o S) s.heap.size)) (F0 m 470 ls []) := by
                    intro cu su hcu H locs ls h hP hD hS hl
                    rw [hj86] at h
                    refine lv_aload_n hx hb dL_sound_470 rfl (lv_at hl 0 rfl) ?_
                    refine lv_iload hx hb dL_sound_471 (lv_at hl 8 rfl) ?_
                    refine lv_iconst (v := (5 : Int32)) hx hb dL_sound_473 (by decide) ?_
                    obtain ⟨x87, e88, h⟩ := bd_some h
                    refine lcW (Re := []) (S := S) (rs := (x87, S)) (c2 := (cu + 1)) (s2 := (su + 6)) hG hGX hN hP hD hS hA (fun h1 h2 => vx_runSX (As := [.ref (a o), .int v8_62, .int (5 : Int32)]) (rest := []) ⟨hx, hb, hml, hown, hts⟩ (qL_entrant l hl9 D cy tt a o S v8_62 (5 : Int32) (H).size x87 e88) (vx_cwSW 3 hts gL_sound_L_entrant rfl rfl rfl (by decide +kernel) ⟨Nat.le_of_ble_eq_true rfl, Nat.le_of_ble_eq_true rfl⟩) ⟨h1, h2⟩ rfl rfl hl.1 rfl (lv_room (Nat.le_of_ble_eq_true rfl)) dL_sound_474 ⟨show cu + 1 ≤ 674 by omega, show su + 6 ≤ 8088 by omega⟩) rfl rfl (fun H locs hP hD hS => ?_)
                    refine lv_iconst (v := (1 : Int32)) hx hb dL_sound_477 (by decide) ?_
                    obtain ⟨j89, hj89, h⟩ := jn_elim h
                    have Jj89 : ∀ (cu su : Nat) (hcu : cu + (f180 * 45 + 11) ≤ 674 ∧ su + 12 * (f180 * 45 + 11) ≤ 8088) (ls : Array Slot), j89 () = some rs → lv_has ls 14 [(0, .ref (a o)), (1, .int c1_22), (2, .int c2_23), (3, .int c3_24), (4, .int c4_25), (5, .int (v5_60 + x63)), (6, .int c6_26), (7, .int (v7_61 + x65)), (8, .int v8_62), (12, .int x81), (13, .int x83)] → W p l e (headSpec wsL_sound ({ frames := 11, cells := 674, slots := 8088, locals := 210 } : Room)).room s m ([.ref (a o)] : List Value).toArray below meth c H locs cu su (vx_MQ below (va_Qi (fun r (u : SX11) => (r, u) = (rs, S)) (fun u t => mB D s.heap.size (wX11 cy a o S) (wX11 cy a o u) t) (va_A (wX11 cy a o S) s.heap.size)) (fun _ _ _ => False) ([.ref (a o)] : List Value).toArray s 674 8088 (va_A (wX11 cy a o S) s.heap.size)) (F0 m 489 ls []) := by
                      intro cu su hcu ls h hl
                      rw [hj89] at h
                      refine lv_aload_n hx hb dL_sound_489 rfl (lv_at hl 0 rfl) ?_
                      refine lv_iload hx hb dL_sound_490 (lv_at hl 8 rfl) ?_
                      refine lv_bipush (v := (6 : Int32)) hx hb dL_sound_492 (by decide) ?_
                      obtain ⟨x90, e91, h⟩ := bd_some h
                      refine lcW (Re := []) (S := S) (rs := (x90, S)) (c2 := (cu + 1)) (s2 := (su + 6)) hG hGX hN hP hD hS hA (fun h1 h2 => vx_runSX (As := [.ref (a o), .int v8_62, .int (6 : Int32)]) (rest := []) ⟨hx, hb, hml, hown, hts⟩ (qL_entrant l hl9 D cy tt a o S v8_62 (6 : Int32) (H).size x90 e91) (vx_cwSW 3 hts gL_sound_L_entrant rfl rfl rfl (by decide +kernel) ⟨Nat.le_of_ble_eq_true rfl, Nat.le_of_ble_eq_true rfl⟩) ⟨h1, h2⟩ rfl rfl hl.1 rfl (lv_room (Nat.le_of_ble_eq_true rfl)) dL_sound_494 ⟨show cu + 1 ≤ 674 by omega, show su + 6 ≤ 8088 by omega⟩) rfl rfl (fun H locs hP hD hS => ?_)
                      refine lv_iconst (v := (1 : Int32)) hx hb dL_sound_497 (by decide) ?_
                      obtain ⟨j92, hj92, h⟩ := jn_elim h
                      have Jj92 : ∀ (cu su : Nat) (hcu : cu + (f180 * 45 + 9) ≤ 674 ∧ su + 12 * (f180 * 45 + 9) ≤ 8088) (H : Heap) (locs : List Loc) (ls : Array Slot), j92 () = some rs → va_P D vwCl (wX11 cy a o S) H → va_D (va_A (wX11 cy a o S) s.heap.size) (wX11 cy a o S) → va_S (va_A (wX11 cy a o S) s.heap.size) s.heap H locs → lv_has ls 14 [(0, .ref (a o)), (1, .int c1_22), (2, .int c2_23), (3, .int c3_24), (4, .int c4_25), (5, .int (v5_60 + x63)), (6, .int c6_26), (7, .int (v7_61 + x65)), (8, .int v8_62), (12, .int x81), (13, .int x83)] → W p l e (headSpec wsL_sound ({ frames := 11, cells := 674, slots := 8088, locals := 210 } : Room)).room s m ([.ref (a o)] : List Value).toArray below meth c H locs cu su (vx_MQ below (va_Qi (fun r (u : SX11) => (r, u) = (rs, S)) (fun u t => mB D s.heap.size (wX11 cy a o S) (wX11 cy a o u) t) (va_A (wX11 cy a o S) s.heap.size)) (fun _ _ _ => False) ([.ref (a o)] : List Value).toArray s 674 8088 (va_A (wX11 cy a o S) s.heap.size)) (F0 m 517 ls []) := by
                        intro cu su hcu H locs ls h hP hD hS hl
                        rw [hj92] at h
                        refine lv_iload_n hx hb dL_sound_517 rfl (lv_at hl 1 rfl) ?_
                        refine lv_iconst (v := (1 : Int32)) hx hb dL_sound_518 (by decide) ?_
                        obtain ⟨j93, hj93, h⟩ := jn_elim h
                        have Jj93 : ∀ (cu su : Nat) (hcu : cu + (f180 * 45 + 8) ≤ 674 ∧ su + 12 * (f180 * 45 + 8) ≤ 8088) (H : Heap) (locs : List Loc) (ls : Array Slot), j93 () = some rs → va_P D vwCl (wX11 cy a o S) H → va_D (va_A (wX11 cy a o S) s.heap.size) (wX11 cy a o S) → va_S (va_A (wX11 cy a o S) s.heap.size) s.heap H locs → lv_has ls 14 [(0, .ref (a o)), (1, .int c1_22), (2, .int c2_23), (3, .int c3_24), (4, .int c4_25), (5, .int (v5_60 + x63)), (6, .int c6_26), (7, .int (v7_61 + x65)), (8, .int v8_62), (12, .int x81)] → W p l e (headSpec wsL_sound ({ frames := 11, cells := 674, slots := 8088, locals := 210 } : Room)).room s m ([.ref (a o)] : List Value).toArray below meth c H locs cu su (vx_MQ below (va_Qi (fun r (u : SX11) => (r, u) = (rs, S)) (fun u t => mB D s.heap.size (wX11 cy a o S) (wX11 cy a o u) t) (va_A (wX11 cy a o S) s.heap.size)) (fun _ _ _ => False) ([.ref (a o)] : List Value).toArray s 674 8088 (va_A (wX11 cy a o S) s.heap.size)) (F0 m 543 ls []) := by
                          intro cu su hcu H locs ls h hP hD hS hl
                          rw [hj93] at h
                          refine lv_iload hx hb dL_sound_543 (lv_at hl 9 rfl) ?_
                          obtain ⟨j94, hj94, h⟩ := jn_elim h
                          have Jj94 : ∀ (cu su : Nat) (hcu : cu + (f180 * 45 + 7) ≤ 674 ∧ su + 12 * (f180 * 45 + 7) ≤ 8088) (H : Heap) (locs : List Loc) (ls : Array Slot), j94 () = some rs → va_P D vwCl (wX11 cy a o S) H → va_D (va_A (wX11 cy a o S) s.heap.size) (wX11 cy a o S) → va_S (va_A (wX11 cy a o S) s.heap.size) s.heap H locs → lv_has ls 14 [(0, .ref (a o)), (1, .int c1_22), (2, .int c2_23), (3, .int c3_24), (4, .int c4_25), (5, .int (v5_60 + x63)), (6, .int c6_26), (7, .int (v7_61 + x65)), (8, .int v8_62)] → W p l e (headSpec wsL_sound ({ frames := 11, cells := 674, slots := 8088, locals := 210 } : Room)).room s m ([.ref (a o)] : List Value).toArray below meth c H locs cu su (vx_MQ below (va_Qi (fun r (u : SX11) => (r, u) = (rs, S)) (fun u t => mB D s.heap.size (wX11 cy a o S) (wX11 cy a o u) t) (va_A (wX11 cy a o S) s.heap.size)) (fun _ _ _ => False) ([.ref (a o)] : List Value).toArray s 674 8088 (va_A (wX11 cy a o S) s.heap.size)) (F0 m 560 ls []) := by
                            intro cu su hcu H locs ls h hP hD hS hl
                            rw [hj94] at h
                            refine lv_iinc (v := (v8_62 + (1 : Int32))) (lv' := [(8, .int (v8_62 + (1 : Int32))), (0, .ref (a o)), (1, .int c1_22), (2, .int c2_23), (3, .int c3_24), (4, .int c4_25), (5, .int (v5_60 + x63)), (6, .int c6_26), (7, .int (v7_61 + x65))]) hx hb dL_sound_560 hl (k := 8) rfl (by rfl) (by decide) rfl (fun ls hl => ?_)
                            refine lv_goto (tgt := 180) hx hb dL_sound_563 (by decide) ?_
                            exact ih180 (v5_60 + x63) (v7_61 + x65) (v8_62 + (1 : Int32)) cu su ⟨by omega, by omega⟩ H locs ls h hP hD hS (lv_sub hl [1, 2, 3, 4, 5, 6, 7, 8, 0] rfl)
                          refine lv_if_lt (tgt := 560) hx hb dL_sound_545 (by decide) (fun cc => ?_) (fun cc => ?_)
                          · have h := ite_p cc h
                            exact Jj94  cu su ⟨by omega, by omega⟩ H locs ls h hP hD hS (lv_sub hl [0, 1, 2, 3, 4, 5, 6, 7, 8] rfl)
                          · have h := ite_n cc h
                            refine lv_aload_n hx hb dL_sound_548 rfl (lv_at hl 0 rfl) ?_
                            refine lv_iload hx hb dL_sound_549 (lv_at hl 8 rfl) ?_
                            refine lv_iconst (v := (2 : Int32)) hx hb dL_sound_551 (by decide) ?_
                            obtain ⟨x95, e96, h⟩ := bd_some h
                            refine lcW (Re := []) (S := S) (rs := (x95, S)) (c2 := (cu + 1)) (s2 := (su + 6)) hG hGX hN hP hD hS hA (fun h1 h2 => vx_runSX (As := [.ref (a o), .int v8_62, .int (2 : Int32)]) (rest := []) ⟨hx, hb, hml, hown, hts⟩ (qL_entrant l hl9 D cy tt a o S v8_62 (2 : Int32) (H).size x95 e96) (vx_cwSW 3 hts gL_sound_L_entrant rfl rfl rfl (by decide +kernel) ⟨Nat.le_of_ble_eq_true rfl, Nat.le_of_ble_eq_true rfl⟩) ⟨h1, h2⟩ rfl rfl hl.1 rfl (lv_room (Nat.le_of_ble_eq_true rfl)) dL_sound_552 ⟨show cu + 1 ≤ 674 by omega, show su + 6 ≤ 8088 by omega⟩) rfl rfl (fun H locs hP hD hS => ?_)
                            refine lv_if_ge (tgt := 560) hx hb dL_sound_555 (by decide) (fun cc => ?_) (fun cc => ?_)
                            · have h := ite_p cc h
                              exact Jj94  (cu + 1) (su + 6) ⟨by omega, by omega⟩ H locs ls h hP hD hS (lv_sub hl [0, 1, 2, 3, 4, 5, 6, 7, 8] rfl)
                            · have h := ite_n cc h
                              exact hk28  (cu + 1) (su + 6) ⟨by omega, by omega⟩ H locs ls h hP hD hS (lv_sub hl [] rfl)
                        refine lv_icmp_ne (tgt := 543) hx hb dL_sound_519 (by decide) (fun cc => ?_) (fun cc => ?_)
                        · have h := ite_n cc h
                          exact Jj93  cu su ⟨by omega, by omega⟩ H locs ls h hP hD hS (lv_sub hl [0, 1, 2, 3, 4, 5, 6, 7, 8, 9] rfl)
                        · have h := ite_p cc h
                          refine lv_iload hx hb dL_sound_522 (lv_at hl 10 rfl) ?_
                          refine lv_aload_n hx hb dL_sound_524 rfl (lv_at hl 0 rfl) ?_
                          refine lv_iload hx hb dL_sound_525 (lv_at hl 8 rfl) ?_
                          refine lv_iconst (v := (0 : Int32)) hx hb dL_sound_527 (by decide) ?_
                          obtain ⟨x97, e98, h⟩ := bd_some h
                          refine lcW (Re := []) (S := S) (rs := (x97, S)) (c2 := (cu + 1)) (s2 := (su + 6)) hG hGX hN hP hD hS hA (fun h1 h2 => vx_runSX (As := [.ref (a o), .int v8_62, .int (0 : Int32)]) (rest := [.int x83]) ⟨hx, hb, hml, hown, hts⟩ (qL_entrant l hl9 D cy tt a o S v8_62 (0 : Int32) (H).size x97 e98) (vx_cwSW 3 hts gL_sound_L_entrant rfl rfl rfl (by decide +kernel) ⟨Nat.le_of_ble_eq_true rfl, Nat.le_of_ble_eq_true rfl⟩) ⟨h1, h2⟩ rfl rfl hl.1 rfl (lv_room (Nat.le_of_ble_eq_true rfl)) dL_sound_528 ⟨show cu + 1 ≤ 674 by omega, show su + 6 ≤ 8088 by omega⟩) rfl rfl (fun H locs hP hD hS => ?_)
                          refine lv_iconst (v := (1 : Int32)) hx hb dL_sound_531 (by decide) ?_
                          obtain ⟨j100, hj100, h⟩ := jn_elim h
                          have Jj100 : ∀ (x99 : Int32) (cu su : Nat) (hcu : cu + (f180 * 45 + 8) ≤ 674 ∧ su + 12 * (f180 * 45 + 8) ≤ 8088) (ls : Array Slot), j100 x99 = some rs → lv_has ls 14 [(0, .ref (a o)), (1, .int c1_22), (2, .int c2_23), (3, .int c3_24), (4, .int c4_25), (5, .int (v5_60 + x63)), (6, .int c6_26), (7, .int (v7_61 + x65)), (8, .int v8_62), (12, .int x81)] → W p l e (headSpec wsL_sound ({ frames := 11, cells := 674, slots := 8088, locals := 210 } : Room)).room s m ([.ref (a o)] : List Value).toArray below meth c H locs cu su (vx_MQ below (va_Qi (fun r (u : SX11) => (r, u) = (rs, S)) (fun u t => mB D s.heap.size (wX11 cy a o S) (wX11 cy a o u) t) (va_A (wX11 cy a o S) s.heap.size)) (fun _ _ _ => False) ([.ref (a o)] : List Value).toArray s 674 8088 (va_A (wX11 cy a o S) s.heap.size)) (F0 m 540 ls [.int x99, .int x83]) := by
                            intro x99 cu su hcu ls h hl
                            rw [hj100] at h
                            refine lv_icmp_ne (tgt := 558) hx hb dL_sound_540 (by decide) (fun cc => ?_) (fun cc => ?_)
                            · have h := ite_n cc h
                              exact hk28  cu su ⟨by omega, by omega⟩ H locs ls h hP hD hS (lv_sub hl [] rfl)
                            · have h := ite_p cc h
                              exact Jj93  cu su ⟨by omega, by omega⟩ H locs ls h hP hD hS (lv_sub hl [0, 1, 2, 3, 4, 5, 6, 7, 8, 9] rfl)
                          refine lv_icmp_ne (tgt := 539) hx hb dL_sound_532 (by decide) (fun cc => ?_) (fun cc => ?_)
                          · have h := ite_n cc h
                            refine lv_iconst (v := (0 : Int32)) hx hb dL_sound_539 (by decide) ?_
                            exact Jj100 (0 : Int32) (cu + 1) (su + 6) ⟨by omega, by omega⟩ ls h (lv_sub hl [0, 1, 2, 3, 4, 5, 6, 7, 8, 9] rfl)
                          · have h := ite_p cc h
                            refine lv_iconst (v := (1 : Int32)) hx hb dL_sound_535 (by decide) ?_
                            refine lv_goto (tgt := 540) hx hb dL_sound_536 (by decide) ?_
                            exact Jj100 (1 : Int32) (cu + 1) (su + 6) ⟨by omega, by omega⟩ ls h (lv_sub hl [0, 1, 2, 3, 4, 5, 6, 7, 8, 9] rfl)
                      refine lv_icmp_ne (tgt := 517) hx hb dL_sound_498 (by decide) (fun cc => ?_) (fun cc => ?_)
                      · have h := ite_n cc h
                        exact Jj92  (cu + 1) (su + 6) ⟨by omega, by omega⟩ H locs ls h hP hD hS (lv_sub hl [0, 1, 2, 3, 4, 5, 6, 7, 8, 9, 10] rfl)
                      · have h := ite_p cc h
                        refine lv_iload_n hx hb dL_sound_501 rfl (lv_at hl 1 rfl) ?_
                        refine lv_iconst (v := (2 : Int32)) hx hb dL_sound_502 (by decide) ?_
                        refine lv_icmp_ne (tgt := 558) hx hb dL_sound_503 (by decide) (fun cc => ?_) (fun cc => ?_)
                        · have h := ite_n cc h
                          exact hk28  (cu + 1) (su + 6) ⟨by omega, by omega⟩ H locs ls h hP hD hS (lv_sub hl [] rfl)
                        · have h := ite_p cc h
                          refine lv_aload_n hx hb dL_sound_506 rfl (lv_at hl 0 rfl) ?_
                          refine lv_iload hx hb dL_sound_507 (lv_at hl 8 rfl) ?_
                          refine lv_iconst (v := (0 : Int32)) hx hb dL_sound_509 (by decide) ?_
                          obtain ⟨x101, e102, h⟩ := bd_some h
                          refine lcW (Re := []) (S := S) (rs := (x101, S)) (c2 := (cu + 2)) (s2 := (su + 12)) hG hGX hN hP hD hS hA (fun h1 h2 => vx_runSX (As := [.ref (a o), .int v8_62, .int (0 : Int32)]) (rest := []) ⟨hx, hb, hml, hown, hts⟩ (qL_entrant l hl9 D cy tt a o S v8_62 (0 : Int32) (H).size x101 e102) (vx_cwSW 3 hts gL_sound_L_entrant rfl rfl rfl (by decide +kernel) ⟨Nat.le_of_ble_eq_true rfl, Nat.le_of_ble_eq_true rfl⟩) ⟨h1, h2⟩ rfl rfl hl.1 rfl (lv_room (Nat.le_of_ble_eq_true rfl)) dL_sound_510 ⟨show (cu + 1) + 1 ≤ 674 by omega, show (su + 6) + 6 ≤ 8088 by omega⟩) rfl rfl (fun H locs hP hD hS => ?_)
                          refine lv_iconst (v := (1 : Int32)) hx hb dL_sound_513 (by decide) ?_
                          refine lv_icmp_ne (tgt := 558) hx hb dL_sound_514 (by decide) (fun cc => ?_) (fun cc => ?_)
                          · have h := ite_n cc h
                            exact hk28  (cu + 2) (su + 12) ⟨by omega, by omega⟩ H locs ls h hP hD hS (lv_sub hl [] rfl)
                          · have h := ite_p cc h
                            exact Jj92  (cu + 2) (su + 12) ⟨by omega, by omega⟩ H locs ls h hP hD hS (lv_sub hl [0, 1, 2, 3, 4, 5, 6, 7, 8, 9, 10] rfl)
                    refine lv_icmp_ne (tgt := 489) hx hb dL_sound_478 (by decide) (fun cc => ?_) (fun cc => ?_)
                    · have h := ite_n cc h
                      exact Jj89  (cu + 1) (su + 6) ⟨by omega, by omega⟩ ls h (lv_sub hl [0, 1, 2, 3, 4, 5, 6, 7, 8, 10, 11] rfl)
                    · have h := ite_p cc h
                      refine lv_iconst (v := (2 : Int32)) hx hb dL_sound_481 (by decide) ?_
                      refine lv_iload hx hb dL_sound_482 (lv_at hl 9 rfl) ?_
                      refine lv_imul hx hb dL_sound_484 ?_
                      refine lv_iload_n hx hb dL_sound_485 rfl (lv_at hl 3 rfl) ?_
                      refine lv_icmp_lt (tgt := 558) hx hb dL_sound_486 (by decide) (fun cc => ?_) (fun cc => ?_)
                      · have h := ite_p cc h
                        exact hk28  (cu + 1) (su + 6) ⟨by omega, by omega⟩ H locs ls h hP hD hS (lv_sub hl [] rfl)
                      · have h := ite_n cc h
                        exact Jj89  (cu + 1) (su + 6) ⟨by omega, by omega⟩ ls h (lv_sub hl [0, 1, 2, 3, 4, 5, 6, 7, 8, 10, 11] rfl)
                  refine lv_icmp_eq (tgt := 470) hx hb dL_sound_455 (by decide) (fun cc => ?_) (fun cc => ?_)
                  · have h := ite_p cc h
                    exact Jj86  cu su ⟨by omega, by omega⟩ H locs ls h hP hD hS (lv_sub hl [0, 1, 2, 3, 4, 5, 6, 7, 8, 10, 11, 12] rfl)
                  · have h := ite_n cc h
                    refine lv_aload_n hx hb dL_sound_458 rfl (lv_at hl 0 rfl) ?_
                    refine lv_iload hx hb dL_sound_459 (lv_at hl 8 rfl) ?_
                    refine lv_iconst (v := (3 : Int32)) hx hb dL_sound_461 (by decide) ?_
                    obtain ⟨x103, e104, h⟩ := bd_some h
                    refine lcW (Re := []) (S := S) (rs := (x103, S)) (c2 := (cu + 1)) (s2 := (su + 6)) hG hGX hN hP hD hS hA (fun h1 h2 => vx_runSX (As := [.ref (a o), .int v8_62, .int (3 : Int32)]) (rest := []) ⟨hx, hb, hml, hown, hts⟩ (qL_entrant l hl9 D cy tt a o S v8_62 (3 : Int32) (H).size x103 e104) (vx_cwSW 3 hts gL_sound_L_entrant rfl rfl rfl (by decide +kernel) ⟨Nat.le_of_ble_eq_true rfl, Nat.le_of_ble_eq_true rfl⟩) ⟨h1, h2⟩ rfl rfl hl.1 rfl (lv_room (Nat.le_of_ble_eq_true rfl)) dL_sound_462 ⟨show cu + 1 ≤ 674 by omega, show su + 6 ≤ 8088 by omega⟩) rfl rfl (fun H locs hP hD hS => ?_)
                    refine lv_iload hx hb dL_sound_465 (lv_at hl 9 rfl) ?_
                    refine lv_icmp_gt (tgt := 558) hx hb dL_sound_467 (by decide) (fun cc => ?_) (fun cc => ?_)
                    · have h := ite_p cc h
                      exact hk28  (cu + 1) (su + 6) ⟨by omega, by omega⟩ H locs ls h hP hD hS (lv_sub hl [] rfl)
                    · have h := ite_n cc h
                      exact Jj86  (cu + 1) (su + 6) ⟨by omega, by omega⟩ H locs ls h hP hD hS (lv_sub hl [0, 1, 2, 3, 4, 5, 6, 7, 8, 10, 11, 12] rfl)
            refine lv_if_ne (tgt := 440) hx hb dL_sound_383 (by decide) (fun cc => ?_) (fun cc => ?_)
            · have h := ite_n cc h
              exact Jj85  cu su ⟨by omega, by omega⟩ H locs ls h hP hD hS (lv_sub hl [1, 2, 3, 4, 5, 6, 7, 8, 9, 10, 11, 12, 0] rfl)
            · have h := ite_p cc h
              refine lv_aload_n hx hb dL_sound_386 rfl (lv_at hl 1 rfl) ?_
              refine lv_iload hx hb dL_sound_387 (lv_at hl 9 rfl) ?_
              refine lv_iconst (v := (1 : Int32)) hx hb dL_sound_389 (by decide) ?_
              obtain ⟨x105, e106, h⟩ := bd_some h
              refine lcW (Re := []) (S := S) (rs := (x105, S)) (c2 := (cu + 1)) (s2 := (su + 6)) hG hGX hN hP hD hS hA (fun h1 h2 => vx_runSX (As := [.ref (a o), .int v8_62, .int (1 : Int32)]) (rest := []) ⟨hx, hb, hml, hown, hts⟩ (qL_entrant l hl9 D cy tt a o S v8_62 (1 : Int32) (H).size x105 e106) (vx_cwSW 3 hts gL_sound_L_entrant rfl rfl rfl (by decide +kernel) ⟨Nat.le_of_ble_eq_true rfl, Nat.le_of_ble_eq_true rfl⟩) ⟨h1, h2⟩ rfl rfl hl.1 rfl (lv_room (Nat.le_of_ble_eq_true rfl)) dL_sound_390 ⟨show cu + 1 ≤ 674 by omega, show su + 6 ≤ 8088 by omega⟩) rfl rfl (fun H locs hP hD hS => ?_)
              refine lv_iconst (v := (-1 : Int32)) hx hb dL_sound_393 (by decide) ?_
              refine lv_icmp_ne (tgt := 558) hx hb dL_sound_394 (by decide) (fun cc => ?_) (fun cc => ?_)
              · have h := ite_n cc h
                exact hk28  (cu + 1) (su + 6) ⟨by omega, by omega⟩ H locs ls h hP hD hS (lv_sub hl [] rfl)
              · have h := ite_p cc h
                refine lv_aload_n hx hb dL_sound_397 rfl (lv_at hl 1 rfl) ?_
                refine lv_iload hx hb dL_sound_398 (lv_at hl 9 rfl) ?_
                refine lv_iconst (v := (2 : Int32)) hx hb dL_sound_400 (by decide) ?_
                obtain ⟨x107, e108, h⟩ := bd_some h
                refine lcW (Re := []) (S := S) (rs := (x107, S)) (c2 := (cu + 2)) (s2 := (su + 12)) hG hGX hN hP hD hS hA (fun h1 h2 => vx_runSX (As := [.ref (a o), .int v8_62, .int (2 : Int32)]) (rest := []) ⟨hx, hb, hml, hown, hts⟩ (qL_entrant l hl9 D cy tt a o S v8_62 (2 : Int32) (H).size x107 e108) (vx_cwSW 3 hts gL_sound_L_entrant rfl rfl rfl (by decide +kernel) ⟨Nat.le_of_ble_eq_true rfl, Nat.le_of_ble_eq_true rfl⟩) ⟨h1, h2⟩ rfl rfl hl.1 rfl (lv_room (Nat.le_of_ble_eq_true rfl)) dL_sound_401 ⟨show (cu + 1) + 1 ≤ 674 by omega, show (su + 6) + 6 ≤ 8088 by omega⟩) rfl rfl (fun H locs hP hD hS => ?_)
                refine lv_iconst (v := (-1 : Int32)) hx hb dL_sound_404 (by decide) ?_
                refine lv_icmp_ne (tgt := 558) hx hb dL_sound_405 (by decide) (fun cc => ?_) (fun cc => ?_)
                · have h := ite_n cc h
                  exact hk28  (cu + 2) (su + 12) ⟨by omega, by omega⟩ H locs ls h hP hD hS (lv_sub hl [] rfl)
                · have h := ite_p cc h
                  refine lv_iload hx hb dL_sound_408 (lv_at hl 12 rfl) ?_
                  refine lv_iconst (v := (-1 : Int32)) hx hb dL_sound_410 (by decide) ?_
                  refine lv_icmp_ne (tgt := 558) hx hb dL_sound_411 (by decide) (fun cc => ?_) (fun cc => ?_)
                  · have h := ite_n cc h
                    exact hk28  (cu + 2) (su + 12) ⟨by omega, by omega⟩ H locs ls h hP hD hS (lv_sub hl [] rfl)
                  · have h := ite_p cc h
                    refine lv_aload_n hx hb dL_sound_414 rfl (lv_at hl 1 rfl) ?_
                    refine lv_iload hx hb dL_sound_415 (lv_at hl 9 rfl) ?_
                    refine lv_iconst (v := (5 : Int32)) hx hb dL_sound_417 (by decide) ?_
                    obtain ⟨x109, e110, h⟩ := bd_some h
                    refine lcW (Re := []) (S := S) (rs := (x109, S)) (c2 := (cu + 3)) (s2 := (su + 18)) hG hGX hN hP hD hS hA (fun h1 h2 => vx_runSX (As := [.ref (a o), .int v8_62, .int (5 : Int32)]) (rest := []) ⟨hx, hb, hml, hown, hts⟩ (qL_entrant l hl9 D cy tt a o S v8_62 (5 : Int32) (H).size x109 e110) (vx_cwSW 3 hts gL_sound_L_entrant rfl rfl rfl (by decide +kernel) ⟨Nat.le_of_ble_eq_true rfl, Nat.le_of_ble_eq_true rfl⟩) ⟨h1, h2⟩ rfl rfl hl.1 rfl (lv_room (Nat.le_of_ble_eq_true rfl)) dL_sound_418 ⟨show (cu + 2) + 1 ≤ 674 by omega, show (su + 12) + 6 ≤ 8088 by omega⟩) rfl rfl (fun H locs hP hD hS => ?_)
                    refine lv_if_ne (tgt := 558) hx hb dL_sound_421 (by decide) (fun cc => ?_) (fun cc => ?_)
                    · have h := ite_n cc h
                      exact hk28  (cu + 3) (su + 18) ⟨by omega, by omega⟩ H locs ls h hP hD hS (lv_sub hl [] rfl)
                    · have h := ite_p cc h
                      refine lv_iload hx hb dL_sound_424 (lv_at hl 11 rfl) ?_
                      refine lv_if_gt (tgt := 558) hx hb dL_sound_426 (by decide) (fun cc => ?_) (fun cc => ?_)
                      · have h := ite_p cc h
                        exact hk28  (cu + 3) (su + 18) ⟨by omega, by omega⟩ H locs ls h hP hD hS (lv_sub hl [] rfl)
                      · have h := ite_n cc h
                        refine lv_aload_n hx hb dL_sound_429 rfl (lv_at hl 1 rfl) ?_
                        refine lv_iload hx hb dL_sound_430 (lv_at hl 9 rfl) ?_
                        refine lv_bipush (v := (6 : Int32)) hx hb dL_sound_432 (by decide) ?_
                        obtain ⟨x111, e112, h⟩ := bd_some h
                        refine lcW (Re := []) (S := S) (rs := (x111, S)) (c2 := (cu + 4)) (s2 := (su + 24)) hG hGX hN hP hD hS hA (fun h1 h2 => vx_runSX (As := [.ref (a o), .int v8_62, .int (6 : Int32)]) (rest := []) ⟨hx, hb, hml, hown, hts⟩ (qL_entrant l hl9 D cy tt a o S v8_62 (6 : Int32) (H).size x111 e112) (vx_cwSW 3 hts gL_sound_L_entrant rfl rfl rfl (by decide +kernel) ⟨Nat.le_of_ble_eq_true rfl, Nat.le_of_ble_eq_true rfl⟩) ⟨h1, h2⟩ rfl rfl hl.1 rfl (lv_room (Nat.le_of_ble_eq_true rfl)) dL_sound_434 ⟨show (cu + 3) + 1 ≤ 674 by omega, show (su + 18) + 6 ≤ 8088 by omega⟩) rfl rfl (fun H locs hP hD hS => ?_)
                        refine lv_if_ne (tgt := 558) hx hb dL_sound_437 (by decide) (fun cc => ?_) (fun cc => ?_)
                        · have h := ite_n cc h
                          exact hk28  (cu + 4) (su + 24) ⟨by omega, by omega⟩ H locs ls h hP hD hS (lv_sub hl [] rfl)
                        · have h := ite_p cc h
                          exact Jj85  (cu + 4) (su + 24) ⟨by omega, by omega⟩ H locs ls h hP hD hS (lv_sub hl [1, 2, 3, 4, 5, 6, 7, 8, 9, 10, 11, 12, 0] rfl)
          refine lv_icmp_ne (tgt := 378) hx hb dL_sound_371 (by decide) (fun cc => ?_) (fun cc => ?_)
          · have h := ite_n cc h
            refine lv_iconst (v := (0 : Int32)) hx hb dL_sound_378 (by decide) ?_
            exact Jj84 (0 : Int32) (cu + 1) (su + 6) ⟨by omega, by omega⟩ ls h (lv_sub hl [1, 2, 3, 4, 5, 6, 7, 8, 9, 10, 11, 0] rfl)
          · have h := ite_p cc h
            refine lv_iconst (v := (1 : Int32)) hx hb dL_sound_374 (by decide) ?_
            refine lv_goto (tgt := 379) hx hb dL_sound_375 (by decide) ?_
            exact Jj84 (1 : Int32) (cu + 1) (su + 6) ⟨by omega, by omega⟩ ls h (lv_sub hl [1, 2, 3, 4, 5, 6, 7, 8, 9, 10, 11, 0] rfl)
    refine L134 x1 x3 x5 x7 v6_19 _ Jj21 _ Jj20 _ ?_ 13 (0 : Int32) (0 : Int32) (0 : Int32) cu su ⟨by omega, by omega⟩ H locs ls h hP hD hS (lv_sub hl [1, 2, 3, 4, 5, 6, 7, 8, 0] rfl)
    intro v5_32 v7_33 cu su hcu H locs ls h hP hD hS hl
    refine lv_iload hx hb dL_sound_566 (lv_at hl 3 rfl) ?_
    refine lv_aload_n hx hb dL_sound_568 rfl (lv_at hl 0 rfl) ?_
    refine lv_bipush (v := (7 : Int32)) hx hb dL_sound_569 (by decide) ?_
    obtain ⟨x34, e35, h⟩ := bd_some h
    refine lcW (Re := []) (S := S) (rs := (x34, S)) (c2 := (cu + 1)) (s2 := (su + 6)) hG hGX hN hP hD hS hA (fun h1 h2 => vx_runSX (As := [.ref (a o), .int (7 : Int32)]) (rest := [.int v5_32]) ⟨hx, hb, hml, hown, hts⟩ (qL_info l hl9 D cy tt a o S (7 : Int32) (H).size x34 e35) (vx_cwSW 2 hts gL_sound_L_info rfl rfl rfl (by decide +kernel) ⟨Nat.le_of_ble_eq_true rfl, Nat.le_of_ble_eq_true rfl⟩) ⟨h1, h2⟩ rfl rfl hl.1 rfl (lv_room (Nat.le_of_ble_eq_true rfl)) dL_sound_571 ⟨show cu + 1 ≤ 674 by omega, show su + 6 ≤ 8088 by omega⟩) rfl rfl (fun H locs hP hD hS => ?_)
    obtain ⟨j37, hj37, h⟩ := jn_elim h
    have Jj37 : ∀ (x36 : Int32) (cu su : Nat) (hcu : cu + (0) ≤ 674 ∧ su + 12 * (0) ≤ 8088) (H : Heap) (locs : List Loc) (ls : Array Slot), j37 x36 = some rs → va_P D vwCl (wX11 cy a o S) H → va_D (va_A (wX11 cy a o S) s.heap.size) (wX11 cy a o S) → va_S (va_A (wX11 cy a o S) s.heap.size) s.heap H locs → lv_has ls 14 [] → W p l e (headSpec wsL_sound ({ frames := 11, cells := 674, slots := 8088, locals := 210 } : Room)).room s m ([.ref (a o)] : List Value).toArray below meth c H locs cu su (vx_MQ below (va_Qi (fun r (u : SX11) => (r, u) = (rs, S)) (fun u t => mB D s.heap.size (wX11 cy a o S) (wX11 cy a o u) t) (va_A (wX11 cy a o S) s.heap.size)) (fun _ _ _ => False) ([.ref (a o)] : List Value).toArray s 674 8088 (va_A (wX11 cy a o S) s.heap.size)) (F0 m 690 ls [.int x36]) := by
      intro x36 cu su hcu H locs ls h hP hD hS hl
      rw [hj37] at h
      obtain ⟨g38, h⟩ := gd_some h
      refine vx_ret (W.widen (k := 674) (n := 8088) (by omega) (by omega) ?_)
      exact W.zret (v := x36) hx hb hr (zN g38) (fun t ht hW => ⟨⟨x36, S, rfl, (congrArg (fun z => (z, S)) (some_in h)), by rw [ht]; exact cutP hP (pmA [] (wX11 cy a o S)), cutD hD (pmA [] (wX11 cy a o S))⟩, hS.F ht⟩) hS.2.2 dL_sound_690
    obtain ⟨j39, hj39, h⟩ := jn_elim h
    have Jj39 : ∀ (cu su : Nat) (hcu : cu + (0) ≤ 674 ∧ su + 12 * (0) ≤ 8088) (H : Heap) (locs : List Loc) (ls : Array Slot), j39 () = some rs → va_P D vwCl (wX11 cy a o S) H → va_D (va_A (wX11 cy a o S) s.heap.size) (wX11 cy a o S) → va_S (va_A (wX11 cy a o S) s.heap.size) s.heap H locs → lv_has ls 14 [] → W p l e (headSpec wsL_sound ({ frames := 11, cells := 674, slots := 8088, locals := 210 } : Room)).room s m ([.ref (a o)] : List Value).toArray below meth c H locs cu su (vx_MQ below (va_Qi (fun r (u : SX11) => (r, u) = (rs, S)) (fun u t => mB D s.heap.size (wX11 cy a o S) (wX11 cy a o u) t) (va_A (wX11 cy a o S) s.heap.size)) (fun _ _ _ => False) ([.ref (a o)] : List Value).toArray s 674 8088 (va_A (wX11 cy a o S) s.heap.size)) (F0 m 689 ls []) := by
      intro cu su hcu H locs ls h hP hD hS hl
      rw [hj39] at h
      refine lv_iconst (v := (0 : Int32)) hx hb dL_sound_689 (by decide) ?_
      exact Jj37 (0 : Int32) cu su ⟨by omega, by omega⟩ H locs ls h hP hD hS (lv_sub hl [] rfl)
    refine lv_icmp_ne (tgt := 689) hx hb dL_sound_574 (by decide) (fun cc => ?_) (fun cc => ?_)
    · have h := ite_n cc h
      exact Jj39  (cu + 1) (su + 6) ⟨by omega, by omega⟩ H locs ls h hP hD hS (lv_sub hl [] rfl)
    · have h := ite_p cc h
      refine lv_iload hx hb dL_sound_577 (lv_at hl 4 rfl) ?_
      refine lv_aload_n hx hb dL_sound_579 rfl (lv_at hl 0 rfl) ?_
      refine lv_bipush (v := (10 : Int32)) hx hb dL_sound_580 (by decide) ?_
      obtain ⟨x40, e41, h⟩ := bd_some h
      refine lcW (Re := []) (S := S) (rs := (x40, S)) (c2 := (cu + 2)) (s2 := (su + 12)) hG hGX hN hP hD hS hA (fun h1 h2 => vx_runSX (As := [.ref (a o), .int (10 : Int32)]) (rest := [.int v7_33]) ⟨hx, hb, hml, hown, hts⟩ (qL_info l hl9 D cy tt a o S (10 : Int32) (H).size x40 e41) (vx_cwSW 2 hts gL_sound_L_info rfl rfl rfl (by decide +kernel) ⟨Nat.le_of_ble_eq_true rfl, Nat.le_of_ble_eq_true rfl⟩) ⟨h1, h2⟩ rfl rfl hl.1 rfl (lv_room (Nat.le_of_ble_eq_true rfl)) dL_sound_582 ⟨show (cu + 1) + 1 ≤ 674 by omega, show (su + 6) + 6 ≤ 8088 by omega⟩) rfl rfl (fun H locs hP hD hS => ?_)
      refine lv_icmp_ne (tgt := 689) hx hb dL_sound_585 (by decide) (fun cc => ?_) (fun cc => ?_)
      · have h := ite_n cc h
        exact Jj39  (cu + 2) (su + 12) ⟨by omega, by omega⟩ H locs ls h hP hD hS (lv_sub hl [] rfl)
      · have h := ite_p cc h
        refine lv_aload_n hx hb dL_sound_588 rfl (lv_at hl 0 rfl) ?_
        refine lv_iload hx hb dL_sound_589 (lv_at hl 2 rfl) ?_
        obtain ⟨x42, e43, h⟩ := bd_some h
        refine pcV (As := [.int x7]) (rest := []) (q0 := 0) (ci := 11) (qX11_stage l D cy a o (gX11_now S) x7 x42 e43) ⟨hx, hb, hml, hown, hts⟩ (cwV 1 hts gL_sound_X11_stage rfl rfl rfl (by decide +kernel) ⟨Nat.le_of_ble_eq_true rfl, Nat.le_of_ble_eq_true rfl⟩) hG (P_now (cutP hP (pmA [] (wX11 cy a o S)))) rfl rfl rfl hl.1 rfl (Nat.le_of_ble_eq_true rfl) dL_sound_591 ⟨show (cu + 2) ≤ 674 by omega, show (su + 12) ≤ 8088 by omega⟩ ?_
        refine lv_iconst (v := (-1 : Int32)) hx hb dL_sound_594 (by decide) ?_
        refine lv_icmp_ne (tgt := 689) hx hb dL_sound_595 (by decide) (fun cc => ?_) (fun cc => ?_)
        · have h := ite_n cc h
          exact Jj39  (cu + 2) (su + 12) ⟨by omega, by omega⟩ H locs ls h hP hD hS (lv_sub hl [] rfl)
        · have h := ite_p cc h
          refine lv_iload_n hx hb dL_sound_598 rfl (lv_at hl 1 rfl) ?_
          refine lv_iconst (v := (2 : Int32)) hx hb dL_sound_599 (by decide) ?_
          obtain ⟨j44, hj44, h⟩ := jn_elim h
          have Jj44 : ∀ (cu su : Nat) (hcu : cu + (1) ≤ 674 ∧ su + 12 * (1) ≤ 8088) (H : Heap) (locs : List Loc) (ls : Array Slot), j44 () = some rs → va_P D vwCl (wX11 cy a o S) H → va_D (va_A (wX11 cy a o S) s.heap.size) (wX11 cy a o S) → va_S (va_A (wX11 cy a o S) s.heap.size) s.heap H locs → lv_has ls 14 [(0, .ref (a o)), (1, .int x1), (4, .int x7)] → W p l e (headSpec wsL_sound ({ frames := 11, cells := 674, slots := 8088, locals := 210 } : Room)).room s m ([.ref (a o)] : List Value).toArray below meth c H locs cu su (vx_MQ below (va_Qi (fun r (u : SX11) => (r, u) = (rs, S)) (fun u t => mB D s.heap.size (wX11 cy a o S) (wX11 cy a o u) t) (va_A (wX11 cy a o S) s.heap.size)) (fun _ _ _ => False) ([.ref (a o)] : List Value).toArray s 674 8088 (va_A (wX11 cy a o S) s.heap.size)) (F0 m 668 ls []) := by
            intro cu su hcu H locs ls h hP hD hS hl
            rw [hj44] at h
            refine lv_iload_n hx hb dL_sound_668 rfl (lv_at hl 1 rfl) ?_
            obtain ⟨j45, hj45, h⟩ := jn_elim h
            have Jj45 : ∀ (cu su : Nat) (hcu : cu + (0) ≤ 674 ∧ su + 12 * (0) ≤ 8088) (H : Heap) (locs : List Loc) (ls : Array Slot), j45 () = some rs → va_P D vwCl (wX11 cy a o S) H → va_D (va_A (wX11 cy a o S) s.heap.size) (wX11 cy a o S) → va_S (va_A (wX11 cy a o S) s.heap.size) s.heap H locs → lv_has ls 14 [] → W p l e (headSpec wsL_sound ({ frames := 11, cells := 674, slots := 8088, locals := 210 } : Room)).room s m ([.ref (a o)] : List Value).toArray below meth c H locs cu su (vx_MQ below (va_Qi (fun r (u : SX11) => (r, u) = (rs, S)) (fun u t => mB D s.heap.size (wX11 cy a o S) (wX11 cy a o u) t) (va_A (wX11 cy a o S) s.heap.size)) (fun _ _ _ => False) ([.ref (a o)] : List Value).toArray s 674 8088 (va_A (wX11 cy a o S) s.heap.size)) (F0 m 685 ls []) := by
              intro cu su hcu H locs ls h hP hD hS hl
              rw [hj45] at h
              refine lv_iconst (v := (1 : Int32)) hx hb dL_sound_685 (by decide) ?_
              refine lv_goto (tgt := 690) hx hb dL_sound_686 (by decide) ?_
              exact Jj37 (1 : Int32) cu su ⟨by omega, by omega⟩ H locs ls h hP hD hS (lv_sub hl [] rfl)
            refine lv_if_gt (tgt := 685) hx hb dL_sound_669 (by decide) (fun cc => ?_) (fun cc => ?_)
            · have h := ite_p cc h
              exact Jj45  cu su ⟨by omega, by omega⟩ H locs ls h hP hD hS (lv_sub hl [] rfl)
            · have h := ite_n cc h
              refine lv_iload hx hb dL_sound_672 (lv_at hl 2 rfl) ?_
              refine lv_if_ne (tgt := 689) hx hb dL_sound_674 (by decide) (fun cc => ?_) (fun cc => ?_)
              · have h := ite_n cc h
                exact Jj39  cu su ⟨by omega, by omega⟩ H locs ls h hP hD hS (lv_sub hl [] rfl)
              · have h := ite_p cc h
                refine lv_aload_n hx hb dL_sound_677 rfl (lv_at hl 0 rfl) ?_
                refine lv_iconst (v := (4 : Int32)) hx hb dL_sound_678 (by decide) ?_
                obtain ⟨x46, e47, h⟩ := bd_some h
                refine lcW (Re := []) (S := S) (rs := (x46, S)) (c2 := (cu + 1)) (s2 := (su + 6)) hG hGX hN hP hD hS hA (fun h1 h2 => vx_runSX (As := [.ref (a o), .int (4 : Int32)]) (rest := []) ⟨hx, hb, hml, hown, hts⟩ (qL_info l hl9 D cy tt a o S (4 : Int32) (H).size x46 e47) (vx_cwSW 2 hts gL_sound_L_info rfl rfl rfl (by decide +kernel) ⟨Nat.le_of_ble_eq_true rfl, Nat.le_of_ble_eq_true rfl⟩) ⟨h1, h2⟩ rfl rfl hl.1 rfl (lv_room (Nat.le_of_ble_eq_true rfl)) dL_sound_679 ⟨show cu + 1 ≤ 674 by omega, show su + 6 ≤ 8088 by omega⟩) rfl rfl (fun H locs hP hD hS => ?_)
                refine lv_if_ne (tgt := 689) hx hb dL_sound_682 (by decide) (fun cc => ?_) (fun cc => ?_)
                · have h := ite_n cc h
                  exact Jj39  (cu + 1) (su + 6) ⟨by omega, by omega⟩ H locs ls h hP hD hS (lv_sub hl [] rfl)
                · have h := ite_p cc h
                  exact Jj45  (cu + 1) (su + 6) ⟨by omega, by omega⟩ H locs ls h hP hD hS (lv_sub hl [] rfl)
          refine lv_icmp_ne (tgt := 645) hx hb dL_sound_600 (by decide) (fun cc => ?_) (fun cc => ?_)
          · have h := ite_n cc h
            refine lv_iload hx hb dL_sound_645 (lv_at hl 4 rfl) ?_
            refine lv_if_ne (tgt := 689) hx hb dL_sound_647 (by decide) (fun cc => ?_) (fun cc => ?_)
            · have h := ite_n cc h
              exact Jj39  (cu + 2) (su + 12) ⟨by omega, by omega⟩ H locs ls h hP hD hS (lv_sub hl [] rfl)
            · have h := ite_p cc h
              refine lv_aload_n hx hb dL_sound_650 rfl (lv_at hl 0 rfl) ?_
              refine lv_bipush (v := (11 : Int32)) hx hb dL_sound_651 (by decide) ?_
              obtain ⟨x48, e49, h⟩ := bd_some h
              refine lcW (Re := []) (S := S) (rs := (x48, S)) (c2 := (cu + 3)) (s2 := (su + 18)) hG hGX hN hP hD hS hA (fun h1 h2 => vx_runSX (As := [.ref (a o), .int (11 : Int32)]) (rest := []) ⟨hx, hb, hml, hown, hts⟩ (qL_info l hl9 D cy tt a o S (11 : Int32) (H).size x48 e49) (vx_cwSW 2 hts gL_sound_L_info rfl rfl rfl (by decide +kernel) ⟨Nat.le_of_ble_eq_true rfl, Nat.le_of_ble_eq_true rfl⟩) ⟨h1, h2⟩ rfl rfl hl.1 rfl (lv_room (Nat.le_of_ble_eq_true rfl)) dL_sound_653 ⟨show (cu + 2) + 1 ≤ 674 by omega, show (su + 12) + 6 ≤ 8088 by omega⟩) rfl rfl (fun H locs hP hD hS => ?_)
              refine lv_if_ne (tgt := 689) hx hb dL_sound_656 (by decide) (fun cc => ?_) (fun cc => ?_)
              · have h := ite_n cc h
                exact Jj39  (cu + 3) (su + 18) ⟨by omega, by omega⟩ H locs ls h hP hD hS (lv_sub hl [] rfl)
              · have h := ite_p cc h
                refine lv_aload_n hx hb dL_sound_659 rfl (lv_at hl 0 rfl) ?_
                refine lv_bipush (v := (12 : Int32)) hx hb dL_sound_660 (by decide) ?_
                obtain ⟨x50, e51, h⟩ := bd_some h
                refine lcW (Re := []) (S := S) (rs := (x50, S)) (c2 := (cu + 4)) (s2 := (su + 24)) hG hGX hN hP hD hS hA (fun h1 h2 => vx_runSX (As := [.ref (a o), .int (12 : Int32)]) (rest := []) ⟨hx, hb, hml, hown, hts⟩ (qL_info l hl9 D cy tt a o S (12 : Int32) (H).size x50 e51) (vx_cwSW 2 hts gL_sound_L_info rfl rfl rfl (by decide +kernel) ⟨Nat.le_of_ble_eq_true rfl, Nat.le_of_ble_eq_true rfl⟩) ⟨h1, h2⟩ rfl rfl hl.1 rfl (lv_room (Nat.le_of_ble_eq_true rfl)) dL_sound_662 ⟨show (cu + 3) + 1 ≤ 674 by omega, show (su + 18) + 6 ≤ 8088 by omega⟩) rfl rfl (fun H locs hP hD hS => ?_)
                refine lv_if_ne (tgt := 689) hx hb dL_sound_665 (by decide) (fun cc => ?_) (fun cc => ?_)
                · have h := ite_n cc h
                  exact Jj39  (cu + 4) (su + 24) ⟨by omega, by omega⟩ H locs ls h hP hD hS (lv_sub hl [] rfl)
                · have h := ite_p cc h
                  exact Jj44  (cu + 4) (su + 24) ⟨by omega, by omega⟩ H locs ls h hP hD hS (lv_sub hl [0, 1, 2] rfl)
          · have h := ite_p cc h
            refine lv_iload hx hb dL_sound_603 (lv_at hl 4 rfl) ?_
            refine lv_aload_n hx hb dL_sound_605 rfl (lv_at hl 0 rfl) ?_
            refine lv_bipush (v := (11 : Int32)) hx hb dL_sound_606 (by decide) ?_
            obtain ⟨x52, e53, h⟩ := bd_some h
            refine lcW (Re := []) (S := S) (rs := (x52, S)) (c2 := (cu + 3)) (s2 := (su + 18)) hG hGX hN hP hD hS hA (fun h1 h2 => vx_runSX (As := [.ref (a o), .int (11 : Int32)]) (rest := [.int v7_33]) ⟨hx, hb, hml, hown, hts⟩ (qL_info l hl9 D cy tt a o S (11 : Int32) (H).size x52 e53) (vx_cwSW 2 hts gL_sound_L_info rfl rfl rfl (by decide +kernel) ⟨Nat.le_of_ble_eq_true rfl, Nat.le_of_ble_eq_true rfl⟩) ⟨h1, h2⟩ rfl rfl hl.1 rfl (lv_room (Nat.le_of_ble_eq_true rfl)) dL_sound_608 ⟨show (cu + 2) + 1 ≤ 674 by omega, show (su + 12) + 6 ≤ 8088 by omega⟩) rfl rfl (fun H locs hP hD hS => ?_)
            refine lv_icmp_le (tgt := 689) hx hb dL_sound_611 (by decide) (fun cc => ?_) (fun cc => ?_)
            · have h := ite_p cc h
              exact Jj39  (cu + 3) (su + 18) ⟨by omega, by omega⟩ H locs ls h hP hD hS (lv_sub hl [] rfl)
            · have h := ite_n cc h
              refine lv_aload_n hx hb dL_sound_614 rfl (lv_at hl 0 rfl) ?_
              refine lv_bipush (v := (11 : Int32)) hx hb dL_sound_615 (by decide) ?_
              obtain ⟨x54, e55, h⟩ := bd_some h
              refine lcW (Re := []) (S := S) (rs := (x54, S)) (c2 := (cu + 4)) (s2 := (su + 24)) hG hGX hN hP hD hS hA (fun h1 h2 => vx_runSX (As := [.ref (a o), .int (11 : Int32)]) (rest := []) ⟨hx, hb, hml, hown, hts⟩ (qL_info l hl9 D cy tt a o S (11 : Int32) (H).size x54 e55) (vx_cwSW 2 hts gL_sound_L_info rfl rfl rfl (by decide +kernel) ⟨Nat.le_of_ble_eq_true rfl, Nat.le_of_ble_eq_true rfl⟩) ⟨h1, h2⟩ rfl rfl hl.1 rfl (lv_room (Nat.le_of_ble_eq_true rfl)) dL_sound_617 ⟨show (cu + 3) + 1 ≤ 674 by omega, show (su + 18) + 6 ≤ 8088 by omega⟩) rfl rfl (fun H locs hP hD hS => ?_)
              refine lv_if_le (tgt := 689) hx hb dL_sound_620 (by decide) (fun cc => ?_) (fun cc => ?_)
              · have h := ite_p cc h
                exact Jj39  (cu + 4) (su + 24) ⟨by omega, by omega⟩ H locs ls h hP hD hS (lv_sub hl [] rfl)
              · have h := ite_n cc h
                refine lv_aload_n hx hb dL_sound_623 rfl (lv_at hl 0 rfl) ?_
                refine lv_bipush (v := (12 : Int32)) hx hb dL_sound_624 (by decide) ?_
                obtain ⟨x56, e57, h⟩ := bd_some h
                refine lcW (Re := []) (S := S) (rs := (x56, S)) (c2 := (cu + 5)) (s2 := (su + 30)) hG hGX hN hP hD hS hA (fun h1 h2 => vx_runSX (As := [.ref (a o), .int (12 : Int32)]) (rest := []) ⟨hx, hb, hml, hown, hts⟩ (qL_info l hl9 D cy tt a o S (12 : Int32) (H).size x56 e57) (vx_cwSW 2 hts gL_sound_L_info rfl rfl rfl (by decide +kernel) ⟨Nat.le_of_ble_eq_true rfl, Nat.le_of_ble_eq_true rfl⟩) ⟨h1, h2⟩ rfl rfl hl.1 rfl (lv_room (Nat.le_of_ble_eq_true rfl)) dL_sound_626 ⟨show (cu + 4) + 1 ≤ 674 by omega, show (su + 24) + 6 ≤ 8088 by omega⟩) rfl rfl (fun H locs hP hD hS => ?_)
                refine lv_if_le (tgt := 689) hx hb dL_sound_629 (by decide) (fun cc => ?_) (fun cc => ?_)
                · have h := ite_p cc h
                  exact Jj39  (cu + 5) (su + 30) ⟨by omega, by omega⟩ H locs ls h hP hD hS (lv_sub hl [] rfl)
                · have h := ite_n cc h
                  refine lv_aload_n hx hb dL_sound_632 rfl (lv_at hl 0 rfl) ?_
                  refine lv_bipush (v := (12 : Int32)) hx hb dL_sound_633 (by decide) ?_
                  obtain ⟨x58, e59, h⟩ := bd_some h
                  refine lcW (Re := []) (S := S) (rs := (x58, S)) (c2 := (cu + 6)) (s2 := (su + 36)) hG hGX hN hP hD hS hA (fun h1 h2 => vx_runSX (As := [.ref (a o), .int (12 : Int32)]) (rest := []) ⟨hx, hb, hml, hown, hts⟩ (qL_info l hl9 D cy tt a o S (12 : Int32) (H).size x58 e59) (vx_cwSW 2 hts gL_sound_L_info rfl rfl rfl (by decide +kernel) ⟨Nat.le_of_ble_eq_true rfl, Nat.le_of_ble_eq_true rfl⟩) ⟨h1, h2⟩ rfl rfl hl.1 rfl (lv_room (Nat.le_of_ble_eq_true rfl)) dL_sound_635 ⟨show (cu + 5) + 1 ≤ 674 by omega, show (su + 30) + 6 ≤ 8088 by omega⟩) rfl rfl (fun H locs hP hD hS => ?_)
                  refine lv_iconst (v := (4 : Int32)) hx hb dL_sound_638 (by decide) ?_
                  refine lv_icmp_ge (tgt := 689) hx hb dL_sound_639 (by decide) (fun cc => ?_) (fun cc => ?_)
                  · have h := ite_p cc h
                    exact Jj39  (cu + 6) (su + 36) ⟨by omega, by omega⟩ H locs ls h hP hD hS (lv_sub hl [] rfl)
                  · have h := ite_n cc h
                    refine lv_goto (tgt := 668) hx hb dL_sound_642 (by decide) ?_
                    exact Jj44  (cu + 6) (su + 36) ⟨by omega, by omega⟩ H locs ls h hP hD hS (lv_sub hl [0, 1, 2] rfl)
  exact start 0 0 ⟨by omega, by omega⟩
