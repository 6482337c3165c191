set_option maxHeartbeats 8000000 in
set_option maxRecDepth 100000 in
theorem qL_closes (l : Launch) (hl9 : l.stackTraces = false) (D : va_G) (cy : Nat → ClassId) (tt : Nat → Nat) (a : Nat → Nat) (o : Nat) (S : SX11) (sz : Nat) (rs : Int32 × SX11) (h : DL_closes S = some rs) : vx_Met l yL_closes wsL_closes ({ frames := 11, cells := 1123, slots := 13476, locals := 248 } : Room) (lP D cy tt sz [.ref (a o)] (wX11 cy a o S)) (va_Qi (fun r (u : SX11) => (r, u) = rs) (fun u t => mB D sz (wX11 cy a o S) (wX11 cy a o u) t) (va_A (wX11 cy a o S) sz)) (fun _ _ _ => False) 1123 13476 (va_A (wX11 cy a o S) sz) := by
  refine vx_ofW (cc := cL_closes) (maxL := 16) (ret := (some .boolean)) (by decide) rfl ?_
  intro p e s m args below meth c s₁ B hml htab hv
  obtain ⟨rfl, hsz, hP, hG, hD0, hGX, hN⟩ := hv
  have hx := B.exec
  have hb := B.bytes
  have hr := B.returns
  have hts := atoms_spec (ws := wsL_closes) B.pre
  have hown : s.vm.findClass RL = some m.cls := findClass_of_methodNamed B.named
  have hlocks := B.notSynchronized
  have hK := hG.1
  subst hsz
  have hD := hD0.self (sz := s.heap.size)
  have hA : ∀ q : Nat, s.heap.size ≤ q → (va_A (wX11 cy a o S) s.heap.size) q := fun q h => Or.inr h
  have hS : va_S (va_A (wX11 cy a o S) s.heap.size) s.heap s.heap [] := va_S.rf
  have hl := lv_entry ([.ref (a o)]) (n := 16) (Nat.le_of_ble_eq_true rfl)
  rw [lg_entry_eq]
  generalize (lg_sl ([.ref (a o)]) ++ List.replicate (16 - (lg_sl ([.ref (a o)])).length) Slot.unset).toArray = ls at hl ⊢
  have hl : lv_has ls 16 [(0, .ref (a o))] := hl
  rw [DL_closes] at h
  have start : ∀ (cu su : Nat) (hcu : cu + (1123) ≤ 1123 ∧ su + 12 * (1123) ≤ 13476), W p l e (headSpec wsL_closes ({ frames := 11, cells := 1123, slots := 13476, locals := 248 } : Room)).room s m ([.ref (a o)] : List Value).toArray below meth c s.heap [] cu su (vx_MQ below (va_Qi (fun r (u : SX11) => (r, u) = rs) (fun u t => mB D s.heap.size (wX11 cy a o S) (wX11 cy a o u) t) (va_A (wX11 cy a o S) s.heap.size)) (fun _ _ _ => False) ([.ref (a o)] : List Value).toArray s 1123 13476 (va_A (wX11 cy a o S) s.heap.size)) (F0 m 0 ls []) := by
    intro cu su hcu
    refine lv_aload_n hx hb dL_closes_0 rfl (lv_at hl 0 rfl) ?_
    refine lv_iconst (v := (3 : Int32)) hx hb dL_closes_1 (by decide) ?_
    obtain ⟨x1, e2, h⟩ := bd_some h
    refine lcW (Re := []) (S := S) (rs := (x1, S)) (c2 := (cu + 1)) (s2 := (su + 6)) hG hGX hN hP hD hS hA (fun h1 h2 => vx_runSX (As := [.ref (a o), .int (3 : Int32)]) (rest := []) ⟨hx, hb, hml, hown, hts⟩ (qL_info l hl9 D cy tt a o S (3 : Int32) (s.heap).size x1 e2) (vx_cwSW 2 hts gL_closes_L_info rfl rfl rfl (by decide +kernel) ⟨Nat.le_of_ble_eq_true rfl, Nat.le_of_ble_eq_true rfl⟩) ⟨h1, h2⟩ rfl rfl hl.1 rfl (lv_room (Nat.le_of_ble_eq_true rfl)) dL_closes_2 ⟨show cu + 1 ≤ 1123 by omega, show su + 6 ≤ 13476 by omega⟩) rfl rfl (fun H locs hP hD hS => ?_)
    refine lv_istore_n (lv' := [(1, .int x1), (0, .ref (a o))]) hx hb dL_closes_5 rfl hl (by decide) rfl (fun ls hl => ?_)
    refine lv_aload_n hx hb dL_closes_6 rfl (lv_at hl 1 rfl) ?_
    refine lv_iconst (v := (4 : Int32)) hx hb dL_closes_7 (by decide) ?_
    obtain ⟨x3, e4, h⟩ := bd_some h
    refine lcW (Re := []) (S := S) (rs := (x3, S)) (c2 := (cu + 2)) (s2 := (su + 12)) hG hGX hN hP hD hS hA (fun h1 h2 => vx_runSX (As := [.ref (a o), .int (4 : Int32)]) (rest := []) ⟨hx, hb, hml, hown, hts⟩ (qL_info l hl9 D cy tt a o S (4 : Int32) (H).size x3 e4) (vx_cwSW 2 hts gL_closes_L_info rfl rfl rfl (by decide +kernel) ⟨Nat.le_of_ble_eq_true rfl, Nat.le_of_ble_eq_true rfl⟩) ⟨h1, h2⟩ rfl rfl hl.1 rfl (lv_room (Nat.le_of_ble_eq_true rfl)) dL_closes_8 ⟨show (cu + 1) + 1 ≤ 1123 by omega, show (su + 6) + 6 ≤ 13476 by omega⟩) rfl rfl (fun H locs hP hD hS => ?_)
    refine lv_istore_n (lv' := [(2, .int x3), (1, .int x1), (0, .ref (a o))]) hx hb dL_closes_11 rfl hl (by decide) rfl (fun ls hl => ?_)
    refine lv_aload_n hx hb dL_closes_12 rfl (lv_at hl 2 rfl) ?_
    refine lv_bipush (v := (8 : Int32)) hx hb dL_closes_13 (by decide) ?_
    obtain ⟨x5, e6, h⟩ := bd_some h
    refine lcW (Re := []) (S := S) (rs := (x5, S)) (c2 := (cu + 3)) (s2 := (su + 18)) hG hGX hN hP hD hS hA (fun h1 h2 => vx_runSX (As := [.ref (a o), .int (8 : Int32)]) (rest := []) ⟨hx, hb, hml, hown, hts⟩ (qL_info l hl9 D cy tt a o S (8 : Int32) (H).size x5 e6) (vx_cwSW 2 hts gL_closes_L_info rfl rfl rfl (by decide +kernel) ⟨Nat.le_of_ble_eq_true rfl, Nat.le_of_ble_eq_true rfl⟩) ⟨h1, h2⟩ rfl rfl hl.1 rfl (lv_room (Nat.le_of_ble_eq_true rfl)) dL_closes_15 ⟨show (cu + 2) + 1 ≤ 1123 by omega, show (su + 12) + 6 ≤ 13476 by omega⟩) rfl rfl (fun H locs hP hD hS => ?_)
    refine lv_istore_n (lv' := [(3, .int x5), (2, .int x3), (1, .int x1), (0, .ref (a o))]) hx hb dL_closes_18 rfl hl (by decide) rfl (fun ls hl => ?_)
    refine lv_bipush (v := (12 : Int32)) hx hb dL_closes_19 (by decide) ?_
    refine va_newa (atype := .int) (ty := .int) (a0 := (12, .inl (fun _ => 0))) (N' := 12) hx hb (hts (.arrayClass .int) (by decide +kernel)) rfl hK hP hD hS hA (fun cA => rfl) (by decide) (by decide) (by decide) (show (cu + 3) + 1 ≤ 1123 by omega) (show (su + 18) + 12 ≤ 13476 by omega) dL_closes_21 (fun q4 cA H hK1 hP hD hS => ?_)
    have e9 : cA = cy 0 := by
      have h0 : s.vm.findClass ("[" ++ FieldType.int.toString) = some (cy 0) := (hK.2 0 _ rfl).2
      have h1 : s.vm.findClass ("[" ++ FieldType.int.toString) = some cA := (hK1.2 3 _ rfl).2
      exact Option.some.inj (h1.symm.trans h0)
    subst e9
    have pm9 : (((wX11 cy a o S) : va_W) ++ [(q4, (.inl (cy 0, 12, .inl (fun _ => (0 : Int32))) : va_E))]).Perm (([(q4, .inl (cy 0, 12, .inl (fun _ => (0 : Int32))))] ++ wX11 cy a o S) : va_W) := List.perm_append_comm (l₁ := ((wX11 cy a o S) : va_W)) (l₂ := [(q4, (.inl (cy 0, 12, .inl (fun _ => (0 : Int32))) : va_E))])
    have hP : va_P D vwCl ([(q4, .inl (cy 0, 12, .inl (fun _ => (0 : Int32))))] ++ wX11 cy a o S) H := P_mem hP (fun q hq => pm9.mem_iff.mpr hq)
    have hD : va_D (va_A (wX11 cy a o S) s.heap.size) ([(q4, .inl (cy 0, 12, .inl (fun _ => (0 : Int32))))] ++ wX11 cy a o S) := D_perm hD pm9
    refine lv_astore (lv' := [(4, .ref q4), (3, .int x5), (2, .int x3), (1, .int x1), (0, .ref (a o))]) hx hb dL_closes_23 hl (by decide) rfl (fun ls hl => ?_)
    refine lv_iconst (v := (3 : Int32)) hx hb dL_closes_25 (by decide) ?_
    refine va_newa (atype := .int) (ty := .int) (a0 := (3, .inl (fun _ => 0))) (N' := 3) hx hb (hts (.arrayClass .int) (by decide +kernel)) rfl hK hP hD hS hA (fun cA => rfl) (by decide) (by decide) (by decide) (show (cu + 4) + 1 ≤ 1123 by omega) (show (su + 30) + 3 ≤ 13476 by omega) dL_closes_26 (fun q5 cA H hK1 hP hD hS => ?_)
    have e9 : cA = cy 0 := by
      have h0 : s.vm.findClass ("[" ++ FieldType.int.toString) = some (cy 0) := (hK.2 0 _ rfl).2
      have h1 : s.vm.findClass ("[" ++ FieldType.int.toString) = some cA := (hK1.2 3 _ rfl).2
      exact Option.some.inj (h1.symm.trans h0)
    subst e9
    have pm9 : ((([(q4, .inl (cy 0, 12, .inl (fun _ => (0 : Int32))))] ++ wX11 cy a o S) : va_W) ++ [(q5, (.inl (cy 0, 3, .inl (fun _ => (0 : Int32))) : va_E))]).Perm (([(q5, .inl (cy 0, 3, .inl (fun _ => (0 : Int32)))), (q4, .inl (cy 0, 12, .inl (fun _ => (0 : Int32))))] ++ wX11 cy a o S) : va_W) := List.perm_append_comm (l₁ := (([(q4, .inl (cy 0, 12, .inl (fun _ => (0 : Int32))))] ++ wX11 cy a o S) : va_W)) (l₂ := [(q5, (.inl (cy 0, 3, .inl (fun _ => (0 : Int32))) : va_E))])
    have hP : va_P D vwCl ([(q5, .inl (cy 0, 3, .inl (fun _ => (0 : Int32)))), (q4, .inl (cy 0, 12, .inl (fun _ => (0 : Int32))))] ++ wX11 cy a o S) H := P_mem hP (fun q hq => pm9.mem_iff.mpr hq)
    have hD : va_D (va_A (wX11 cy a o S) s.heap.size) ([(q5, .inl (cy 0, 3, .inl (fun _ => (0 : Int32)))), (q4, .inl (cy 0, 12, .inl (fun _ => (0 : Int32))))] ++ wX11 cy a o S) := D_perm hD pm9
    refine lv_astore (lv' := [(5, .ref q5), (4, .ref q4), (3, .int x5), (2, .int x3), (1, .int x1), (0, .ref (a o))]) hx hb dL_closes_28 hl (by decide) rfl (fun ls hl => ?_)
    refine lv_iload_n hx hb dL_closes_30 rfl (lv_at hl 4 rfl) ?_
    refine lv_iconst (v := (1 : Int32)) hx hb dL_closes_31 (by decide) ?_
    obtain ⟨j8, hj8, h⟩ := jn_elim h
    have Jj8 : ∀ (x7 : Int32) (cu su : Nat) (hcu : cu + (1118) ≤ 1123 ∧ su + 12 * (1118) ≤ 13476) (ls : Array Slot), j8 x7 = some rs → lv_has ls 16 [(0, .ref (a o)), (1, .int x1), (2, .int x3), (3, .int x5), (4, .ref q4), (5, .ref q5)] → W p l e (headSpec wsL_closes ({ frames := 11, cells := 1123, slots := 13476, locals := 248 } : Room)).room s m ([.ref (a o)] : List Value).toArray below meth c H locs cu su (vx_MQ below (va_Qi (fun r (u : SX11) => (r, u) = rs) (fun u t => mB D s.heap.size (wX11 cy a o S) (wX11 cy a o u) t) (va_A (wX11 cy a o S) s.heap.size)) (fun _ _ _ => False) ([.ref (a o)] : List Value).toArray s 1123 13476 (va_A (wX11 cy a o S) s.heap.size)) (F0 m 40 ls [.int x7]) := by
      intro x7 cu su hcu ls h hl
      rw [hj8] at h
      refine lv_istore (lv' := [(6, .int x7), (0, .ref (a o)), (1, .int x1), (2, .int x3), (3, .int x5), (4, .ref q4), (5, .ref q5)]) hx hb dL_closes_40 hl (by decide) rfl (fun ls hl => ?_)
      refine lv_iconst (v := (0 : Int32)) hx hb dL_closes_42 (by decide) ?_
      refine lv_istore (lv' := [(7, .int (0 : Int32)), (6, .int x7), (0, .ref (a o)), (1, .int x1), (2, .int x3), (3, .int x5), (4, .ref q4), (5, .ref q5)]) hx hb dL_closes_43 hl (by decide) rfl (fun ls hl => ?_)
      have L241 : ∀ (c1_9 : Int32) (c2_10 : Int32) (c3_11 : Int32) (c6_12 : Int32) (k16 : SX11 → (Nat → Int32) → (Nat → Int32) → Option (Int32 × SX11)) (hk16 : ∀ (S_17 : SX11) (F4_18 : Nat → Int32) (F5_19 : Nat → Int32) (cu su : Nat) (hcu : cu + (1114) ≤ 1123 ∧ su + 12 * (1114) ≤ 13476) (H : Heap) (locs : List Loc) (ls : Array Slot), k16 S_17 F4_18 F5_19 = some rs → va_P D vwCl ([(q5, .inl (cy 0, 3, .inl F5_19)), (q4, .inl (cy 0, 12, .inl F4_18))] ++ wX11 cy a o S_17) H → va_D (va_A (wX11 cy a o S) s.heap.size) ([(q5, .inl (cy 0, 3, .inl F5_19)), (q4, .inl (cy 0, 12, .inl F4_18))] ++ wX11 cy a o S_17) → va_S (va_A (wX11 cy a o S) s.heap.size) s.heap H locs → lv_has ls 16 [(0, .ref (a o)), (1, .int c1_9), (2, .int c2_10), (3, .int c3_11), (4, .ref q4), (5, .ref q5), (6, .int c6_12)] → W p l e (headSpec wsL_closes ({ frames := 11, cells := 1123, slots := 13476, locals := 248 } : Room)).room s m ([.ref (a o)] : List Value).toArray below meth c H locs cu su (vx_MQ below (va_Qi (fun r (u : SX11) => (r, u) = rs) (fun u t => mB D s.heap.size (wX11 cy a o S) (wX11 cy a o u) t) (va_A (wX11 cy a o S) s.heap.size)) (fun _ _ _ => False) ([.ref (a o)] : List Value).toArray s 1123 13476 (va_A (wX11 cy a o S) s.heap.size)) (F0 m 68 ls [])) (f45 : Nat) (v7_235 : Int32) (S_13 : SX11) (F4_14 : Nat → Int32) (F5_15 : Nat → Int32) (cu su : Nat) (hcu : cu + (f45 * 1 + 1114) ≤ 1123 ∧ su + 12 * (f45 * 1 + 1114) ≤ 13476) (H : Heap) (locs : List Loc) (ls : Array Slot), DL_closes_L45 c1_9 c2_10 c3_11 c6_12 k16 f45 v7_235 S_13 F4_14 F5_15 = some rs → va_P D vwCl ([(q5, .inl (cy 0, 3, .inl F5_15)), (q4, .inl (cy 0, 12, .inl F4_14))] ++ wX11 cy a o S_13) H → va_D (va_A (wX11 cy a o S) s.heap.size) ([(q5, .inl (cy 0, 3, .inl F5_15)), (q4, .inl (cy 0, 12, .inl F4_14))] ++ wX11 cy a o S_13) → va_S (va_A (wX11 cy a o S) s.heap.size) s.heap H locs → lv_has ls 16 [(0, .ref (a o)), (1, .int c1_9), (2, .int c2_10), (3, .int c3_11), (4, .ref q4), (5, .ref q5), (6, .int c6_12), (7, .int v7_235)] → W p l e (headSpec wsL_closes ({ frames := 11, cells := 1123, slots := 13476, locals := 248 } : Room)).room s m ([.ref (a o)] : List Value).toArray below meth c H locs cu su (vx_MQ below (va_Qi (fun r (u : SX11) => (r, u) = rs) (fun u t => mB D s.heap.size (wX11 cy a o S) (wX11 cy a o u) t) (va_A (wX11 cy a o S) s.heap.size)) (fun _ _ _ => False) ([.ref (a o)] : List Value).toArray s 1123 13476 (va_A (wX11 cy a o S) s.heap.size)) (F0 m 45 ls []) := by
        intro c1_9 c2_10 c3_11 c6_12 k16 hk16 f45
        induction f45 with
        | zero =>
          intro v7_235 S_13 F4_14 F5_15 cu su hcu H locs ls h hP hD hS hl
          rw [DL_closes_L45] at h
          cases h
        | succ f45 ih45 =>
          intro v7_235 S_13 F4_14 F5_15 cu su hcu H locs ls h hP hD hS hl
          rw [DL_closes_L45] at h
          refine lv_iload hx hb dL_closes_45 (lv_at hl 7 rfl) ?_
          refine lv_iconst (v := (3 : Int32)) hx hb dL_closes_47 (by decide) ?_
          refine lv_icmp_ge (tgt := 68) hx hb dL_closes_48 (by decide) (fun cc => ?_) (fun cc => ?_)
          · have h := ite_p cc h
            exact hk16 S_13 F4_14 F5_15 cu su ⟨by omega, by omega⟩ H locs ls h hP hD hS (lv_sub hl [0, 1, 2, 3, 4, 5, 6] rfl)
          · have h := ite_n cc h
            refine lv_aload hx hb dL_closes_51 (lv_at hl 5 rfl) ?_
            refine lv_iload hx hb dL_closes_53 (lv_at hl 7 rfl) ?_
            refine lv_aload_n hx hb dL_closes_55 rfl (lv_at hl 0 rfl) ?_
            refine lv_iload hx hb dL_closes_56 (lv_at hl 7 rfl) ?_
            obtain ⟨x236, e237, h⟩ := bd_some h
            refine lcW (Re := [(q5, .inl (cy 0, 3, .inl F5_15)), (q4, .inl (cy 0, 12, .inl F4_14))]) (S := S_13) (rs := x236) (c2 := (cu + 1)) (s2 := (su + 6)) hG hGX hN hP hD hS hA (fun h1 h2 => vx_runSX (As := [.ref (a o), .int v7_235]) (rest := [.int v7_235, .ref q5]) ⟨hx, hb, hml, hown, hts⟩ (qL_wouldBe l hl9 D cy tt a o S_13 v7_235 (H).size x236 e237) (vx_cwSW 2 hts gL_closes_L_wouldBe rfl rfl rfl (by decide +kernel) ⟨Nat.le_of_ble_eq_true rfl, Nat.le_of_ble_eq_true rfl⟩) ⟨h1, h2⟩ rfl rfl hl.1 rfl (lv_room (Nat.le_of_ble_eq_true rfl)) dL_closes_58 ⟨show cu + 1 ≤ 1123 by omega, show su + 6 ≤ 13476 by omega⟩) rfl rfl (fun H locs hP hD hS => ?_)
            obtain ⟨g238, h⟩ := gd_some h
            refine r_ast (f := F5_15) (f' := (upd F5_15 ((v7_235).toNatClampNeg) x236.1)) (n := 3) (ws' := ([(q5, .inl (cy 0, 3, .inl (upd F5_15 ((v7_235).toNatClampNeg) x236.1))), (q4, .inl (cy 0, 12, .inl F4_14))] ++ wX11 cy a o x236.2)) hx hb hK hP hD hS 0 0 rfl rfl (gIn_in g238) rfl rfl dL_closes_61 (fun H locs hP hD hS => ?_)
            obtain ⟨F5_239, eF240, h⟩ := lt_elim h
            have hP : va_P D vwCl ([(q5, .inl (cy 0, 3, .inl F5_239)), (q4, .inl (cy 0, 12, .inl F4_14))] ++ wX11 cy a o x236.2) H := by rw [eF240]; exact hP
            have hD : va_D (va_A (wX11 cy a o S) s.heap.size) ([(q5, .inl (cy 0, 3, .inl F5_239)), (q4, .inl (cy 0, 12, .inl F4_14))] ++ wX11 cy a o x236.2) := by rw [eF240]; exact hD
            refine lv_iinc (v := (v7_235 + (1 : Int32))) (lv' := [(7, .int (v7_235 + (1 : Int32))), (0, .ref (a o)), (1, .int c1_9), (2, .int c2_10), (3, .int c3_11), (4, .ref q4), (5, .ref q5), (6, .int c6_12)]) hx hb dL_closes_62 hl (k := 7) rfl (by rfl) (by decide) rfl (fun ls hl => ?_)
            refine lv_goto (tgt := 45) hx hb dL_closes_65 (by decide) ?_
            exact ih45 (v7_235 + (1 : Int32)) x236.2 F4_14 F5_239 (cu + 1) (su + 6) ⟨by omega, by omega⟩ H locs ls h hP hD hS (lv_sub hl [1, 2, 3, 4, 5, 6, 7, 0] rfl)
      refine L241 x1 x3 x5 x7 _ ?_ 4 (0 : Int32) S (fun _ => (0 : Int32)) (fun _ => (0 : Int32)) cu su ⟨by omega, by omega⟩ H locs ls h hP hD hS (lv_sub hl [2, 3, 4, 5, 6, 7, 1, 0] rfl)
      intro S_20 F4_21 F5_22 cu su hcu H locs ls h hP hD hS hl
      refine lv_iconst (v := (0 : Int32)) hx hb dL_closes_68 (by decide) ?_
      refine lv_istore (lv' := [(7, .int (0 : Int32)), (0, .ref (a o)), (1, .int x1), (2, .int x3), (3, .int x5), (4, .ref q4), (5, .ref q5), (6, .int x7)]) hx hb dL_closes_69 hl (by decide) rfl (fun ls hl => ?_)
      have L234 : ∀ (c1_23 : Int32) (c2_24 : Int32) (c3_25 : Int32) (k29 : Int32 → SX11 → (Nat → Int32) → (Nat → Int32) → Option (Int32 × SX11)) (hk29 : ∀ (v6_30 : Int32) (S_31 : SX11) (F4_32 : Nat → Int32) (F5_33 : Nat → Int32) (cu su : Nat) (hcu : cu + (1049) ≤ 1123 ∧ su + 12 * (1049) ≤ 13476) (H : Heap) (locs : List Loc) (ls : Array Slot), k29 v6_30 S_31 F4_32 F5_33 = some rs → va_P D vwCl ([(q5, .inl (cy 0, 3, .inl F5_33)), (q4, .inl (cy 0, 12, .inl F4_32))] ++ wX11 cy a o S_31) H → va_D (va_A (wX11 cy a o S) s.heap.size) ([(q5, .inl (cy 0, 3, .inl F5_33)), (q4, .inl (cy 0, 12, .inl F4_32))] ++ wX11 cy a o S_31) → va_S (va_A (wX11 cy a o S) s.heap.size) s.heap H locs → lv_has ls 16 [(0, .ref (a o)), (1, .int c1_23), (2, .int c2_24), (3, .int c3_25), (4, .ref q4), (5, .ref q5), (6, .int v6_30)] → W p l e (headSpec wsL_closes ({ frames := 11, cells := 1123, slots := 13476, locals := 248 } : Room)).room s m ([.ref (a o)] : List Value).toArray below meth c H locs cu su (vx_MQ below (va_Qi (fun r (u : SX11) => (r, u) = rs) (fun u t => mB D s.heap.size (wX11 cy a o S) (wX11 cy a o u) t) (va_A (wX11 cy a o S) s.heap.size)) (fun _ _ _ => False) ([.ref (a o)] : List Value).toArray s 1123 13476 (va_A (wX11 cy a o S) s.heap.size)) (F0 m 147 ls [])) (f71 : Nat) (v6_201 : Int32) (v7_202 : Int32) (S_26 : SX11) (F4_27 : Nat → Int32) (F5_28 : Nat → Int32) (cu su : Nat) (hcu : cu + (f71 * 5 + 1049) ≤ 1123 ∧ su + 12 * (f71 * 5 + 1049) ≤ 13476) (H : Heap) (locs : List Loc) (ls : Array Slot), DL_closes_L71 c1_23 c2_24 c3_25 k29 f71 v6_201 v7_202 S_26 F4_27 F5_28 = some rs → va_P D vwCl ([(q5, .inl (cy 0, 3, .inl F5_28)), (q4, .inl (cy 0, 12, .inl F4_27))] ++ wX11 cy a o S_26) H → va_D (va_A (wX11 cy a o S) s.heap.size) ([(q5, .inl (cy 0, 3, .inl F5_28)), (q4, .inl (cy 0, 12, .inl F4_27))] ++ wX11 cy a o S_26) → va_S (va_A (wX11 cy a o S) s.heap.size) s.heap H locs → lv_has ls 16 [(0, .ref (a o)), (1, .int c1_23), (2, .int c2_24), (3, .int c3_25), (4, .ref q4), (5, .ref q5), (6, .int v6_201), (7, .int v7_202)] → W p l e (headSpec wsL_closes ({ frames := 11, cells := 1123, slots := 13476, locals := 248 } : Room)).room s m ([.ref (a o)] : List Value).toArray below meth c H locs cu su (vx_MQ below (va_Qi (fun r (u : SX11) => (r, u) = rs) (fun u t => mB D s.heap.size (wX11 cy a o S) (wX11 cy a o u) t) (va_A (wX11 cy a o S) s.heap.size)) (fun _ _ _ => False) ([.ref (a o)] : List Value).toArray s 1123 13476 (va_A (wX11 cy a o S) s.heap.size)) (F0 m 71 ls []) := by
        intro c1_23 c2_24 c3_25 k29 hk29 f71
        induction f71 with
        | zero =>
          intro v6_201 v7_202 S_26 F4_27 F5_28 cu su hcu H locs ls h hP hD hS hl
          rw [DL_closes_L71] at h
          cases h
        | succ f71 ih71 =>
          intro v6_201 v7_202 S_26 F4_27 F5_28 cu su hcu H locs ls h hP hD hS hl
          rw [DL_closes_L71] at h
          refine lv_iload hx hb dL_closes_71 (lv_at hl 7 rfl) ?_
          refine lv_aload_n hx hb dL_closes_73 rfl (lv_at hl 0 rfl) ?_
          refine lv_bipush (v := (6 : Int32)) hx hb dL_closes_74 (by decide) ?_
          obtain ⟨x203, e204, h⟩ := bd_some h
          refine lcW (Re := [(q5, .inl (cy 0, 3, .inl F5_28)), (q4, .inl (cy 0, 12, .inl F4_27))]) (S := S_26) (rs := (x203, S_26)) (c2 := (cu + 1)) (s2 := (su + 6)) hG hGX hN hP hD hS hA (fun h1 h2 => vx_runSX (As := [.ref (a o), .int (6 : Int32)]) (rest := [.int v7_202]) ⟨hx, hb, hml, hown, hts⟩ (qL_info l hl9 D cy tt a o S_26 (6 : Int32) (H).size x203 e204) (vx_cwSW 2 hts gL_closes_L_info rfl rfl rfl (by decide +kernel) ⟨Nat.le_of_ble_eq_true rfl, Nat.le_of_ble_eq_true rfl⟩) ⟨h1, h2⟩ rfl rfl hl.1 rfl (lv_room (Nat.le_of_ble_eq_true rfl)) dL_closes_76 ⟨show cu + 1 ≤ 1123 by omega, show su + 6 ≤ 13476 by omega⟩) rfl rfl (fun H locs hP hD hS => ?_)
          refine lv_icmp_ge (tgt := 147) hx hb dL_closes_79 (by decide) (fun cc => ?_) (fun cc => ?_)
          · have h := ite_p cc h
            exact hk29 v6_201 S_26 F4_27 F5_28 (cu + 1) (su + 6) ⟨by omega, by omega⟩ H locs ls h hP hD hS (lv_sub hl [0, 1, 2, 3, 4, 5, 6] rfl)
          · have h := ite_n cc h
            refine lv_aload hx hb dL_closes_82 (lv_at hl 4 rfl) ?_
            refine lv_iload hx hb dL_closes_84 (lv_at hl 7 rfl) ?_
            refine lv_aload_n hx hb dL_closes_86 rfl (lv_at hl 0 rfl) ?_
            refine lv_iload hx hb dL_closes_87 (lv_at hl 7 rfl) ?_
            refine lv_iconst (v := (1 : Int32)) hx hb dL_closes_89 (by decide) ?_
            obtain ⟨x205, e206, h⟩ := bd_some h
            refine lcW (Re := [(q5, .inl (cy 0, 3, .inl F5_28)), (q4, .inl (cy 0, 12, .inl F4_27))]) (S := S_26) (rs := (x205, S_26)) (c2 := (cu + 2)) (s2 := (su + 12)) hG hGX hN hP hD hS hA (fun h1 h2 => vx_runSX (As := [.ref (a o), .int v7_202, .int (1 : Int32)]) (rest := [.int v7_202, .ref q4]) ⟨hx, hb, hml, hown, hts⟩ (qL_entrant l hl9 D cy tt a o S_26 v7_202 (1 : Int32) (H).size x205 e206) (vx_cwSW 3 hts gL_closes_L_entrant rfl rfl rfl (by decide +kernel) ⟨Nat.le_of_ble_eq_true rfl, Nat.le_of_ble_eq_true rfl⟩) ⟨h1, h2⟩ rfl rfl hl.1 rfl (lv_room (Nat.le_of_ble_eq_true rfl)) dL_closes_90 ⟨show (cu + 1) + 1 ≤ 1123 by omega, show (su + 6) + 6 ≤ 13476 by omega⟩) rfl rfl (fun H locs hP hD hS => ?_)
            obtain ⟨j211, hj211, h⟩ := jn_elim h
            have Jj211 : ∀ (x207 : Int32) (S_208 : SX11) (F4_209 : Nat → Int32) (F5_210 : Nat → Int32) (cu su : Nat) (hcu : cu + (f71 * 5 + 1051) ≤ 1123 ∧ su + 12 * (f71 * 5 + 1051) ≤ 13476) (H : Heap) (locs : List Loc) (ls : Array Slot), j211 x207 S_208 F4_209 F5_210 = some rs → va_P D vwCl ([(q5, .inl (cy 0, 3, .inl F5_210)), (q4, .inl (cy 0, 12, .inl F4_209))] ++ wX11 cy a o S_208) H → va_D (va_A (wX11 cy a o S) s.heap.size) ([(q5, .inl (cy 0, 3, .inl F5_210)), (q4, .inl (cy 0, 12, .inl F4_209))] ++ wX11 cy a o S_208) → va_S (va_A (wX11 cy a o S) s.heap.size) s.heap H locs → lv_has ls 16 [(0, .ref (a o)), (1, .int c1_23), (2, .int c2_24), (3, .int c3_25), (4, .ref q4), (5, .ref q5), (6, .int v6_201), (7, .int v7_202)] → W p l e (headSpec wsL_closes ({ frames := 11, cells := 1123, slots := 13476, locals := 248 } : Room)).room s m ([.ref (a o)] : List Value).toArray below meth c H locs cu su (vx_MQ below (va_Qi (fun r (u : SX11) => (r, u) = rs) (fun u t => mB D s.heap.size (wX11 cy a o S) (wX11 cy a o u) t) (va_A (wX11 cy a o S) s.heap.size)) (fun _ _ _ => False) ([.ref (a o)] : List Value).toArray s 1123 13476 (va_A (wX11 cy a o S) s.heap.size)) (F0 m 107 ls [.int x207, .int v7_202, .ref q4]) := by
              intro x207 S_208 F4_209 F5_210 cu su hcu H locs ls h hP hD hS hl
              rw [hj211] at h
              obtain ⟨g212, h⟩ := gd_some h
              refine r_ast (f := F4_209) (f' := (upd F4_209 ((v7_202).toNatClampNeg) x207)) (n := 12) (ws' := ([(q5, .inl (cy 0, 3, .inl F5_210)), (q4, .inl (cy 0, 12, .inl (upd F4_209 ((v7_202).toNatClampNeg) x207)))] ++ wX11 cy a o S_208)) hx hb hK hP hD hS 1 0 rfl rfl (gIn_in g212) rfl rfl dL_closes_107 (fun H locs hP hD hS => ?_)
              obtain ⟨F4_213, eF214, h⟩ := lt_elim h
              have hP : va_P D vwCl ([(q5, .inl (cy 0, 3, .inl F5_210)), (q4, .inl (cy 0, 12, .inl F4_213))] ++ wX11 cy a o S_208) H := by rw [eF214]; exact hP
              have hD : va_D (va_A (wX11 cy a o S) s.heap.size) ([(q5, .inl (cy 0, 3, .inl F5_210)), (q4, .inl (cy 0, 12, .inl F4_213))] ++ wX11 cy a o S_208) := by rw [eF214]; exact hD
              refine lv_iload hx hb dL_closes_108 (lv_at hl 6 rfl) ?_
              obtain ⟨j219, hj219, h⟩ := jn_elim h
              have Jj219 : ∀ (x215 : Int32) (S_216 : SX11) (F4_217 : Nat → Int32) (F5_218 : Nat → Int32) (cu su : Nat) (hcu : cu + (f71 * 5 + 1049) ≤ 1123 ∧ su + 12 * (f71 * 5 + 1049) ≤ 13476) (H : Heap) (locs : List Loc) (ls : Array Slot), j219 x215 S_216 F4_217 F5_218 = some rs → va_P D vwCl ([(q5, .inl (cy 0, 3, .inl F5_218)), (q4, .inl (cy 0, 12, .inl F4_217))] ++ wX11 cy a o S_216) H → va_D (va_A (wX11 cy a o S) s.heap.size) ([(q5, .inl (cy 0, 3, .inl F5_218)), (q4, .inl (cy 0, 12, .inl F4_217))] ++ wX11 cy a o S_216) → va_S (va_A (wX11 cy a o S) s.heap.size) s.heap H locs → lv_has ls 16 [(0, .ref (a o)), (1, .int c1_23), (2, .int c2_24), (3, .int c3_25), (4, .ref q4), (5, .ref q5), (7, .int v7_202)] → W p l e (headSpec wsL_closes ({ frames := 11, cells := 1123, slots := 13476, locals := 248 } : Room)).room s m ([.ref (a o)] : List Value).toArray below meth c H locs cu su (vx_MQ below (va_Qi (fun r (u : SX11) => (r, u) = rs) (fun u t => mB D s.heap.size (wX11 cy a o S) (wX11 cy a o u) t) (va_A (wX11 cy a o S) s.heap.size)) (fun _ _ _ => False) ([.ref (a o)] : List Value).toArray s 1123 13476 (va_A (wX11 cy a o S) s.heap.size)) (F0 m 139 ls [.int x215]) := by
                intro x215 S_216 F4_217 F5_218 cu su hcu H locs ls h hP hD hS hl
                rw [hj219] at h
                refine lv_istore (lv' := [(6, .int x215), (0, .ref (a o)), (1, .int c1_23), (2, .int c2_24), (3, .int c3_25), (4, .ref q4), (5, .ref q5), (7, .int v7_202)]) hx hb dL_closes_139 hl (by decide) rfl (fun ls hl => ?_)
                refine lv_iinc (v := (v7_202 + (1 : Int32))) (lv' := [(7, .int (v7_202 + (1 : Int32))), (6, .int x215), (0, .ref (a o)), (1, .int c1_23), (2, .int c2_24), (3, .int c3_25), (4, .ref q4), (5, .ref q5)]) hx hb dL_closes_141 hl (k := 7) rfl (by rfl) (by decide) rfl (fun ls hl => ?_)
                refine lv_goto (tgt := 71) hx hb dL_closes_144 (by decide) ?_
                exact ih71 x215 (v7_202 + (1 : Int32)) S_216 F4_217 F5_218 cu su ⟨by omega, by omega⟩ H locs ls h hP hD hS (lv_sub hl [2, 3, 4, 5, 6, 7, 1, 0] rfl)
              obtain ⟨j223, hj223, h⟩ := jn_elim h
              have Jj223 : ∀ (S_220 : SX11) (F4_221 : Nat → Int32) (F5_222 : Nat → Int32) (cu su : Nat) (hcu : cu + (f71 * 5 + 1049) ≤ 1123 ∧ su + 12 * (f71 * 5 + 1049) ≤ 13476) (H : Heap) (locs : List Loc) (ls : Array Slot), j223 S_220 F4_221 F5_222 = some rs → va_P D vwCl ([(q5, .inl (cy 0, 3, .inl F5_222)), (q4, .inl (cy 0, 12, .inl F4_221))] ++ wX11 cy a o S_220) H → va_D (va_A (wX11 cy a o S) s.heap.size) ([(q5, .inl (cy 0, 3, .inl F5_222)), (q4, .inl (cy 0, 12, .inl F4_221))] ++ wX11 cy a o S_220) → va_S (va_A (wX11 cy a o S) s.heap.size) s.heap H locs → lv_has ls 16 [(0, .ref (a o)), (1, .int c1_23), (2, .int c2_24), (3, .int c3_25), (4, .ref q4), (5, .ref q5), (7, .int v7_202)] → W p l e (headSpec wsL_closes ({ frames := 11, cells := 1123, slots := 13476, locals := 248 } : Room)).room s m ([.ref (a o)] : List Value).toArray below meth c H locs cu su (vx_MQ below (va_Qi (fun r (u : SX11) => (r, u) = rs) (fun u t => mB D s.heap.size (wX11 cy a o S) (wX11 cy a o u) t) (va_A (wX11 cy a o S) s.heap.size)) (fun _ _ _ => False) ([.ref (a o)] : List Value).toArray s 1123 13476 (va_A (wX11 cy a o S) s.heap.size)) (F0 m 138 ls []) := by
                intro S_220 F4_221 F5_222 cu su hcu H locs ls h hP hD hS hl
                rw [hj223] at h
                refine lv_iconst (v := (0 : Int32)) hx hb dL_closes_138 (by decide) ?_
                exact Jj219 (0 : Int32) S_220 F4_221 F5_222 cu su ⟨by omega, by omega⟩ H locs ls h hP hD hS (lv_sub hl [0, 1, 2, 3, 4, 5, 6] rfl)
              refine lv_if_eq (tgt := 138) hx hb dL_closes_110 (by decide) (fun cc => ?_) (fun cc => ?_)
              · have h := ite_p cc h
                exact Jj223 S_208 F4_213 F5_210 cu su ⟨by omega, by omega⟩ H locs ls h hP hD hS (lv_sub hl [0, 1, 2, 3, 4, 5, 7] rfl)
              · have h := ite_n cc h
                refine lv_aload_n hx hb dL_closes_113 rfl (lv_at hl 0 rfl) ?_
                refine lv_iload hx hb dL_closes_114 (lv_at hl 7 rfl) ?_
                refine lv_iconst (v := (1 : Int32)) hx hb dL_closes_116 (by decide) ?_
                obtain ⟨x224, e225, h⟩ := bd_some h
                refine lcW (Re := [(q5, .inl (cy 0, 3, .inl F5_210)), (q4, .inl (cy 0, 12, .inl F4_213))]) (S := S_208) (rs := (x224, S_208)) (c2 := (cu + 1)) (s2 := (su + 6)) hG hGX hN hP hD hS hA (fun h1 h2 => vx_runSX (As := [.ref (a o), .int v7_202, .int (1 : Int32)]) (rest := []) ⟨hx, hb, hml, hown, hts⟩ (qL_entrant l hl9 D cy tt a o S_208 v7_202 (1 : Int32) (H).size x224 e225) (vx_cwSW 3 hts gL_closes_L_entrant rfl rfl rfl (by decide +kernel) ⟨Nat.le_of_ble_eq_true rfl, Nat.le_of_ble_eq_true rfl⟩) ⟨h1, h2⟩ rfl rfl hl.1 rfl (lv_room (Nat.le_of_ble_eq_true rfl)) dL_closes_117 ⟨show cu + 1 ≤ 1123 by omega, show su + 6 ≤ 13476 by omega⟩) rfl rfl (fun H locs hP hD hS => ?_)
                obtain ⟨j229, hj229, h⟩ := jn_elim h
                have Jj229 : ∀ (S_226 : SX11) (F4_227 : Nat → Int32) (F5_228 : Nat → Int32) (cu su : Nat) (hcu : cu + (f71 * 5 + 1049) ≤ 1123 ∧ su + 12 * (f71 * 5 + 1049) ≤ 13476) (H : Heap) (locs : List Loc) (ls : Array Slot), j229 S_226 F4_227 F5_228 = some rs → va_P D vwCl ([(q5, .inl (cy 0, 3, .inl F5_228)), (q4, .inl (cy 0, 12, .inl F4_227))] ++ wX11 cy a o S_226) H → va_D (va_A (wX11 cy a o S) s.heap.size) ([(q5, .inl (cy 0, 3, .inl F5_228)), (q4, .inl (cy 0, 12, .inl F4_227))] ++ wX11 cy a o S_226) → va_S (va_A (wX11 cy a o S) s.heap.size) s.heap H locs → lv_has ls 16 [(0, .ref (a o)), (1, .int c1_23), (2, .int c2_24), (3, .int c3_25), (4, .ref q4), (5, .ref q5), (7, .int v7_202)] → W p l e (headSpec wsL_closes ({ frames := 11, cells := 1123, slots := 13476, locals := 248 } : Room)).room s m ([.ref (a o)] : List Value).toArray below meth c H locs cu su (vx_MQ below (va_Qi (fun r (u : SX11) => (r, u) = rs) (fun u t => mB D s.heap.size (wX11 cy a o S) (wX11 cy a o u) t) (va_A (wX11 cy a o S) s.heap.size)) (fun _ _ _ => False) ([.ref (a o)] : List Value).toArray s 1123 13476 (va_A (wX11 cy a o S) s.heap.size)) (F0 m 134 ls []) := by
                  intro S_226 F4_227 F5_228 cu su hcu H locs ls h hP hD hS hl
                  rw [hj229] at h
                  refine lv_iconst (v := (1 : Int32)) hx hb dL_closes_134 (by decide) ?_
                  refine lv_goto (tgt := 139) hx hb dL_closes_135 (by decide) ?_
                  exact Jj219 (1 : Int32) S_226 F4_227 F5_228 cu su ⟨by omega, by omega⟩ H locs ls h hP hD hS (lv_sub hl [0, 1, 2, 3, 4, 5, 6] rfl)
                refine lv_if_lt (tgt := 134) hx hb dL_closes_120 (by decide) (fun cc => ?_) (fun cc => ?_)
                · have h := ite_p cc h
                  exact Jj229 S_208 F4_213 F5_210 (cu + 1) (su + 6) ⟨by omega, by omega⟩ H locs ls h hP hD hS (lv_sub hl [0, 1, 2, 3, 4, 5, 7] rfl)
                · have h := ite_n cc h
                  refine lv_aload_n hx hb dL_closes_123 rfl (lv_at hl 0 rfl) ?_
                  refine lv_iload hx hb dL_closes_124 (lv_at hl 7 rfl) ?_
                  refine lv_iconst (v := (5 : Int32)) hx hb dL_closes_126 (by decide) ?_
                  obtain ⟨x230, e231, h⟩ := bd_some h
                  refine lcW (Re := [(q5, .inl (cy 0, 3, .inl F5_210)), (q4, .inl (cy 0, 12, .inl F4_213))]) (S := S_208) (rs := (x230, S_208)) (c2 := (cu + 2)) (s2 := (su + 12)) hG hGX hN hP hD hS hA (fun h1 h2 => vx_runSX (As := [.ref (a o), .int v7_202, .int (5 : Int32)]) (rest := []) ⟨hx, hb, hml, hown, hts⟩ (qL_entrant l hl9 D cy tt a o S_208 v7_202 (5 : Int32) (H).size x230 e231) (vx_cwSW 3 hts gL_closes_L_entrant rfl rfl rfl (by decide +kernel) ⟨Nat.le_of_ble_eq_true rfl, Nat.le_of_ble_eq_true rfl⟩) ⟨h1, h2⟩ rfl rfl hl.1 rfl (lv_room (Nat.le_of_ble_eq_true rfl)) dL_closes_127 ⟨show (cu + 1) + 1 ≤ 1123 by omega, show (su + 6) + 6 ≤ 13476 by omega⟩) rfl rfl (fun H locs hP hD hS => ?_)
                  refine lv_iconst (v := (1 : Int32)) hx hb dL_closes_130 (by decide) ?_
                  refine lv_icmp_ne (tgt := 138) hx hb dL_closes_131 (by decide) (fun cc => ?_) (fun cc => ?_)
                  · have h := ite_n cc h
                    exact Jj223 S_208 F4_213 F5_210 (cu + 2) (su + 12) ⟨by omega, by omega⟩ H locs ls h hP hD hS (lv_sub hl [0, 1, 2, 3, 4, 5, 7] rfl)
                  · have h := ite_p cc h
                    exact Jj229 S_208 F4_213 F5_210 (cu + 2) (su + 12) ⟨by omega, by omega⟩ H locs ls h hP hD hS (lv_sub hl [0, 1, 2, 3, 4, 5, 7] rfl)
            refine lv_if_ge (tgt := 100) hx hb dL_closes_93 (by decide) (fun cc => ?_) (fun cc => ?_)
            · have h := ite_p cc h
              refine lv_aload_n hx hb dL_closes_100 rfl (lv_at hl 0 rfl) ?_
              refine lv_iload hx hb dL_closes_101 (lv_at hl 7 rfl) ?_
              refine lv_iconst (v := (4 : Int32)) hx hb dL_closes_103 (by decide) ?_
              obtain ⟨x232, e233, h⟩ := bd_some h
              refine lcW (Re := [(q5, .inl (cy 0, 3, .inl F5_28)), (q4, .inl (cy 0, 12, .inl F4_27))]) (S := S_26) (rs := (x232, S_26)) (c2 := (cu + 3)) (s2 := (su + 18)) hG hGX hN hP hD hS hA (fun h1 h2 => vx_runSX (As := [.ref (a o), .int v7_202, .int (4 : Int32)]) (rest := [.int v7_202, .ref q4]) ⟨hx, hb, hml, hown, hts⟩ (qL_entrant l hl9 D cy tt a o S_26 v7_202 (4 : Int32) (H).size x232 e233) (vx_cwSW 3 hts gL_closes_L_entrant rfl rfl rfl (by decide +kernel) ⟨Nat.le_of_ble_eq_true rfl, Nat.le_of_ble_eq_true rfl⟩) ⟨h1, h2⟩ rfl rfl hl.1 rfl (lv_room (Nat.le_of_ble_eq_true rfl)) dL_closes_104 ⟨show (cu + 2) + 1 ≤ 1123 by omega, show (su + 12) + 6 ≤ 13476 by omega⟩) rfl rfl (fun H locs hP hD hS => ?_)
              exact Jj211 x232 S_26 F4_27 F5_28 (cu + 3) (su + 18) ⟨by omega, by omega⟩ H locs ls h hP hD hS (lv_sub hl [0, 1, 2, 3, 4, 5, 6, 7] rfl)
            · have h := ite_n cc h
              refine lv_iconst (v := (-1 : Int32)) hx hb dL_closes_96 (by decide) ?_
              refine lv_goto (tgt := 107) hx hb dL_closes_97 (by decide) ?_
              exact Jj211 (-1 : Int32) S_26 F4_27 F5_28 (cu + 2) (su + 12) ⟨by omega, by omega⟩ H locs ls h hP hD hS (lv_sub hl [0, 1, 2, 3, 4, 5, 6, 7] rfl)
      refine L234 x1 x3 x5 _ ?_ 13 x7 (0 : Int32) S_20 F4_21 F5_22 cu su ⟨by omega, by omega⟩ H locs ls h hP hD hS (lv_sub hl [1, 2, 3, 4, 5, 6, 7, 0] rfl)
      intro v6_34 S_35 F4_36 F5_37 cu su hcu H locs ls h hP hD hS hl
      refine lv_iload_n hx hb dL_closes_147 rfl (lv_at hl 1 rfl) ?_
      refine lv_iconst (v := (1 : Int32)) hx hb dL_closes_148 (by decide) ?_
      obtain ⟨j42, hj42, h⟩ := jn_elim h
      have Jj42 : ∀ (x38 : Int32) (S_39 : SX11) (F4_40 : Nat → Int32) (F5_41 : Nat → Int32) (cu su : Nat) (hcu : cu + (1048) ≤ 1123 ∧ su + 12 * (1048) ≤ 13476) (H : Heap) (locs : List Loc) (ls : Array Slot), j42 x38 S_39 F4_40 F5_41 = some rs → va_P D vwCl ([(q5, .inl (cy 0, 3, .inl F5_41)), (q4, .inl (cy 0, 12, .inl F4_40))] ++ wX11 cy a o S_39) H → va_D (va_A (wX11 cy a o S) s.heap.size) ([(q5, .inl (cy 0, 3, .inl F5_41)), (q4, .inl (cy 0, 12, .inl F4_40))] ++ wX11 cy a o S_39) → va_S (va_A (wX11 cy a o S) s.heap.size) s.heap H locs → lv_has ls 16 [(0, .ref (a o)), (1, .int x1), (2, .int x3), (3, .int x5), (4, .ref q4), (5, .ref q5), (6, .int v6_34)] → W p l e (headSpec wsL_closes ({ frames := 11, cells := 1123, slots := 13476, locals := 248 } : Room)).room s m ([.ref (a o)] : List Value).toArray below meth c H locs cu su (vx_MQ below (va_Qi (fun r (u : SX11) => (r, u) = rs) (fun u t => mB D s.heap.size (wX11 cy a o S) (wX11 cy a o u) t) (va_A (wX11 cy a o S) s.heap.size)) (fun _ _ _ => False) ([.ref (a o)] : List Value).toArray s 1123 13476 (va_A (wX11 cy a o S) s.heap.size)) (F0 m 167 ls [.int x38]) := by
        intro x38 S_39 F4_40 F5_41 cu su hcu H locs ls h hP hD hS hl
        rw [hj42] at h
        refine lv_istore (lv' := [(7, .int x38), (0, .ref (a o)), (1, .int x1), (2, .int x3), (3, .int x5), (4, .ref q4), (5, .ref q5), (6, .int v6_34)]) hx hb dL_closes_167 hl (by decide) rfl (fun ls hl => ?_)
        refine lv_aload_n hx hb dL_closes_169 rfl (lv_at hl 1 rfl) ?_
        refine lv_bipush (v := (7 : Int32)) hx hb dL_closes_170 (by decide) ?_
        obtain ⟨x43, e44, h⟩ := bd_some h
        refine lcW (Re := [(q5, .inl (cy 0, 3, .inl F5_41)), (q4, .inl (cy 0, 12, .inl F4_40))]) (S := S_39) (rs := (x43, S_39)) (c2 := (cu + 1)) (s2 := (su + 6)) hG hGX hN hP hD hS hA (fun h1 h2 => vx_runSX (As := [.ref (a o), .int (7 : Int32)]) (rest := []) ⟨hx, hb, hml, hown, hts⟩ (qL_info l hl9 D cy tt a o S_39 (7 : Int32) (H).size x43 e44) (vx_cwSW 2 hts gL_closes_L_info rfl rfl rfl (by decide +kernel) ⟨Nat.le_of_ble_eq_true rfl, Nat.le_of_ble_eq_true rfl⟩) ⟨h1, h2⟩ rfl rfl hl.1 rfl (lv_room (Nat.le_of_ble_eq_true rfl)) dL_closes_172 ⟨show cu + 1 ≤ 1123 by omega, show su + 6 ≤ 13476 by omega⟩) rfl rfl (fun H locs hP hD hS => ?_)
        refine lv_istore (lv' := [(8, .int x43), (7, .int x38), (0, .ref (a o)), (1, .int x1), (2, .int x3), (3, .int x5), (4, .ref q4), (5, .ref q5), (6, .int v6_34)]) hx hb dL_closes_175 hl (by decide) rfl (fun ls hl => ?_)
        refine lv_aload_n hx hb dL_closes_177 rfl (lv_at hl 2 rfl) ?_
        refine lv_bipush (v := (10 : Int32)) hx hb dL_closes_178 (by decide) ?_
        obtain ⟨x45, e46, h⟩ := bd_some h
        refine lcW (Re := [(q5, .inl (cy 0, 3, .inl F5_41)), (q4, .inl (cy 0, 12, .inl F4_40))]) (S := S_39) (rs := (x45, S_39)) (c2 := (cu + 2)) (s2 := (su + 12)) hG hGX hN hP hD hS hA (fun h1 h2 => vx_runSX (As := [.ref (a o), .int (10 : Int32)]) (rest := []) ⟨hx, hb, hml, hown, hts⟩ (qL_info l hl9 D cy tt a o S_39 (10 : Int32) (H).size x45 e46) (vx_cwSW 2 hts gL_closes_L_info rfl rfl rfl (by decide +kernel) ⟨Nat.le_of_ble_eq_true rfl, Nat.le_of_ble_eq_true rfl⟩) ⟨h1, h2⟩ rfl rfl hl.1 rfl (lv_room (Nat.le_of_ble_eq_true rfl)) dL_closes_180 ⟨show (cu + 1) + 1 ≤ 1123 by omega, show (su + 6) + 6 ≤ 13476 by omega⟩) rfl rfl (fun H locs hP hD hS => ?_)
        refine lv_istore (lv' := [(9, .int x45), (8, .int x43), (7, .int x38), (0, .ref (a o)), (1, .int x1), (2, .int x3), (3, .int x5), (4, .ref q4), (5, .ref q5), (6, .int v6_34)]) hx hb dL_closes_183 hl (by decide) rfl (fun ls hl => ?_)
        refine lv_aload_n hx hb dL_closes_185 rfl (lv_at hl 3 rfl) ?_
        obtain ⟨x47, e48, h⟩ := bd_some h
        refine pcVl (As := []) (rest := []) (q0 := 0) (ci := 11) (qX11_checksum l D cy a o S_39  x47 e48) ⟨hx, hb, hml, hown, hts⟩ (cwV 0 hts gL_closes_X11_checksum rfl rfl rfl (by decide +kernel) ⟨Nat.le_of_ble_eq_true rfl, Nat.le_of_ble_eq_true rfl⟩) hG (cutP hP (pmA [(q5, .inl (cy 0, 3, .inl F5_41)), (q4, .inl (cy 0, 12, .inl F4_40))] (wX11 cy a o S_39))) rfl rfl rfl hl.1 rfl (Nat.le_of_ble_eq_true rfl) dL_closes_186 ⟨show (cu + 2) ≤ 1123 by omega, show (su + 12) ≤ 13476 by omega⟩ ?_
        refine lv_lstore (lv' := [(10, .long x47), (9, .int x45), (8, .int x43), (7, .int x38), (0, .ref (a o)), (1, .int x1), (2, .int x3), (3, .int x5), (4, .ref q4), (5, .ref q5), (6, .int v6_34)]) hx hb dL_closes_189 hl (by decide) rfl (fun ls hl => ?_)
        refine lv_aload_n hx hb dL_closes_191 rfl (lv_at hl 4 rfl) ?_
        obtain ⟨x49, e50, h⟩ := bd_some h
        refine lcW (Re := [(q5, .inl (cy 0, 3, .inl F5_41)), (q4, .inl (cy 0, 12, .inl F4_40))]) (S := S_39) (rs := x49) (c2 := (cu + 3)) (s2 := (su + 18)) hG hGX hN hP hD hS hA (fun h1 h2 => vx_runSX (As := [.ref (a o)]) (rest := []) ⟨hx, hb, hml, hown, hts⟩ (qL_close l hl9 D cy tt a o S_39  (H).size x49 e50) (vx_cwSW 1 hts gL_closes_L_close rfl rfl rfl (by decide +kernel) ⟨Nat.le_of_ble_eq_true rfl, Nat.le_of_ble_eq_true rfl⟩) ⟨h1, h2⟩ rfl rfl hl.1 rfl (lv_room (Nat.le_of_ble_eq_true rfl)) dL_closes_192 ⟨show (cu + 2) + 1 ≤ 1123 by omega, show (su + 12) + 6 ≤ 13476 by omega⟩) rfl rfl (fun H locs hP hD hS => ?_)
        refine lv_istore (lv' := [(12, .int x49.1), (10, .long x47), (9, .int x45), (8, .int x43), (7, .int x38), (0, .ref (a o)), (1, .int x1), (2, .int x3), (3, .int x5), (4, .ref q4), (5, .ref q5), (6, .int v6_34)]) hx hb dL_closes_195 hl (by decide) rfl (fun ls hl => ?_)
        refine lv_iload_n hx hb dL_closes_197 rfl (lv_at hl 6 rfl) ?_
        refine lv_iconst (v := (1 : Int32)) hx hb dL_closes_198 (by decide) ?_
        obtain ⟨j51, hj51, h⟩ := jn_elim h
        have Jj51 : ∀ (cu su : Nat) (hcu : cu + (0) ≤ 1123 ∧ su + 12 * (0) ≤ 13476) (ls : Array Slot), j51 () = some rs → lv_has ls 16 [] → W p l e (headSpec wsL_closes ({ frames := 11, cells := 1123, slots := 13476, locals := 248 } : Room)).room s m ([.ref (a o)] : List Value).toArray below meth c H locs cu su (vx_MQ below (va_Qi (fun r (u : SX11) => (r, u) = rs) (fun u t => mB D s.heap.size (wX11 cy a o S) (wX11 cy a o u) t) (va_A (wX11 cy a o S) s.heap.size)) (fun _ _ _ => False) ([.ref (a o)] : List Value).toArray s 1123 13476 (va_A (wX11 cy a o S) s.heap.size)) (F0 m 237 ls []) := by
          intro cu su hcu ls h hl
          rw [hj51] at h
          refine lv_iconst (v := (0 : Int32)) hx hb dL_closes_237 (by decide) ?_
          refine vx_ret (W.widen (k := 1123) (n := 13476) (by omega) (by omega) ?_)
          exact W.zret (v := (0 : Int32)) hx hb hr rfl (fun t ht hW => ⟨⟨(0 : Int32), x49.2, rfl, (some_in h), by rw [ht]; exact cutP hP (pmA [(q5, .inl (cy 0, 3, .inl F5_41)), (q4, .inl (cy 0, 12, .inl F4_40))] (wX11 cy a o x49.2)), cutD hD (pmA [(q5, .inl (cy 0, 3, .inl F5_41)), (q4, .inl (cy 0, 12, .inl F4_40))] (wX11 cy a o x49.2))⟩, hS.F ht⟩) hS.2.2 dL_closes_238
        obtain ⟨j52, hj52, h⟩ := jn_elim h
        have Jj52 : ∀ (cu su : Nat) (hcu : cu + (1045) ≤ 1123 ∧ su + 12 * (1045) ≤ 13476) (ls : Array Slot), j52 () = some rs → lv_has ls 16 [(0, .ref (a o)), (1, .int x1), (2, .int x3), (3, .int x5), (4, .ref q4), (5, .ref q5), (6, .int v6_34), (7, .int x38), (8, .int x43), (9, .int x45), (10, .long x47), (12, .int x49.1)] → W p l e (headSpec wsL_closes ({ frames := 11, cells := 1123, slots := 13476, locals := 248 } : Room)).room s m ([.ref (a o)] : List Value).toArray below meth c H locs cu su (vx_MQ below (va_Qi (fun r (u : SX11) => (r, u) = rs) (fun u t => mB D s.heap.size (wX11 cy a o S) (wX11 cy a o u) t) (va_A (wX11 cy a o S) s.heap.size)) (fun _ _ _ => False) ([.ref (a o)] : List Value).toArray s 1123 13476 (va_A (wX11 cy a o S) s.heap.size)) (F0 m 220 ls []) := by
          intro cu su hcu ls h hl
          rw [hj52] at h
          refine lv_iload hx hb dL_closes_220 (lv_at hl 6 rfl) ?_
          refine lv_aload hx hb dL_closes_222 (lv_at hl 5 rfl) ?_
          refine lv_iconst (v := (0 : Int32)) hx hb dL_closes_224 (by decide) ?_
          refine r_ald (f := F5_41) (n := 3) (v := (F5_41 0)) hx hb hK hP 0 0 rfl rfl (vp_in_nI (n := 0) (N := 3) (by decide) (by decide)) (congrArg F5_41 (nI_clamp (n := 0) (by decide))) dL_closes_225 ?_
          obtain ⟨j54, hj54, h⟩ := jn_elim h
          have Jj54 : ∀ (x53 : Int32) (cu su : Nat) (hcu : cu + (1045) ≤ 1123 ∧ su + 12 * (1045) ≤ 13476) (ls : Array Slot), j54 x53 = some rs → lv_has ls 16 [(0, .ref (a o)), (1, .int x1), (2, .int x3), (3, .int x5), (4, .ref q4), (5, .ref q5), (7, .int x38), (8, .int x43), (9, .int x45), (10, .long x47), (12, .int x49.1)] → W p l e (headSpec wsL_closes ({ frames := 11, cells := 1123, slots := 13476, locals := 248 } : Room)).room s m ([.ref (a o)] : List Value).toArray below meth c H locs cu su (vx_MQ below (va_Qi (fun r (u : SX11) => (r, u) = rs) (fun u t => mB D s.heap.size (wX11 cy a o S) (wX11 cy a o u) t) (va_A (wX11 cy a o S) s.heap.size)) (fun _ _ _ => False) ([.ref (a o)] : List Value).toArray s 1123 13476 (va_A (wX11 cy a o S) s.heap.size)) (F0 m 234 ls [.int x53, .int v6_34]) := by
            intro x53 cu su hcu ls h hl
            rw [hj54] at h
            refine lv_icmp_eq (tgt := 239) hx hb dL_closes_234 (by decide) (fun cc => ?_) (fun cc => ?_)
            · have h := ite_p cc h
              refine lv_iload hx hb dL_closes_239 (lv_at hl 10 rfl) ?_
              refine lv_sipush (v := (-902 : Int32)) hx hb dL_closes_241 (by decide) ?_
              refine lv_icmp_ne (tgt := 263) hx hb dL_closes_244 (by decide) (fun cc => ?_) (fun cc => ?_)
              · have h := ite_n cc h
                refine lv_iload_n hx hb dL_closes_263 rfl (lv_at hl 1 rfl) ?_
                refine lv_iconst (v := (1 : Int32)) hx hb dL_closes_264 (by decide) ?_
                obtain ⟨j58, hj58, h⟩ := jn_elim h
                have Jj58 : ∀ (S_55 : SX11) (F4_56 : Nat → Int32) (F5_57 : Nat → Int32) (cu su : Nat) (hcu : cu + (5) ≤ 1123 ∧ su + 12 * (5) ≤ 13476) (H : Heap) (locs : List Loc) (ls : Array Slot), j58 S_55 F4_56 F5_57 = some rs → va_P D vwCl ([(q5, .inl (cy 0, 3, .inl F5_57)), (q4, .inl (cy 0, 12, .inl F4_56))] ++ wX11 cy a o S_55) H → va_D (va_A (wX11 cy a o S) s.heap.size) ([(q5, .inl (cy 0, 3, .inl F5_57)), (q4, .inl (cy 0, 12, .inl F4_56))] ++ wX11 cy a o S_55) → va_S (va_A (wX11 cy a o S) s.heap.size) s.heap H locs → lv_has ls 16 [(0, .ref (a o)), (1, .int x1), (8, .int x43), (9, .int x45), (12, .int x49.1)] → W p l e (headSpec wsL_closes ({ frames := 11, cells := 1123, slots := 13476, locals := 248 } : Room)).room s m ([.ref (a o)] : List Value).toArray below meth c H locs cu su (vx_MQ below (va_Qi (fun r (u : SX11) => (r, u) = rs) (fun u t => mB D s.heap.size (wX11 cy a o S) (wX11 cy a o u) t) (va_A (wX11 cy a o S) s.heap.size)) (fun _ _ _ => False) ([.ref (a o)] : List Value).toArray s 1123 13476 (va_A (wX11 cy a o S) s.heap.size)) (F0 m 510 ls []) := by
                  intro S_55 F4_56 F5_57 cu su hcu H locs ls h hP hD hS hl
                  rw [hj58] at h
                  refine lv_aload_n hx hb dL_closes_510 rfl (lv_at hl 0 rfl) ?_
                  obtain ⟨x59, e60, h⟩ := bd_some h
                  refine lcW (Re := [(q5, .inl (cy 0, 3, .inl F5_57)), (q4, .inl (cy 0, 12, .inl F4_56))]) (S := S_55) (rs := x59) (c2 := (cu + 1)) (s2 := (su + 6)) hG hGX hN hP hD hS hA (fun h1 h2 => vx_runSX (As := [.ref (a o)]) (rest := []) ⟨hx, hb, hml, hown, hts⟩ (qL_undo l hl9 D cy tt a o S_55  (H).size x59 e60) (vx_cwSW 1 hts gL_closes_L_undo rfl rfl rfl (by decide +kernel) ⟨Nat.le_of_ble_eq_true rfl, Nat.le_of_ble_eq_true rfl⟩) ⟨h1, h2⟩ rfl rfl hl.1 rfl (lv_room (Nat.le_of_ble_eq_true rfl)) dL_closes_511 ⟨show cu + 1 ≤ 1123 by omega, show su + 6 ≤ 13476 by omega⟩) rfl rfl (fun H locs hP hD hS => ?_)
                  obtain ⟨j65, hj65, h⟩ := jn_elim h
                  have Jj65 : ∀ (x61 : Int32) (S_62 : SX11) (F4_63 : Nat → Int32) (F5_64 : Nat → Int32) (cu su : Nat) (hcu : cu + (0) ≤ 1123 ∧ su + 12 * (0) ≤ 13476) (H : Heap) (locs : List Loc) (ls : Array Slot), j65 x61 S_62 F4_63 F5_64 = some rs → va_P D vwCl ([(q5, .inl (cy 0, 3, .inl F5_64)), (q4, .inl (cy 0, 12, .inl F4_63))] ++ wX11 cy a o S_62) H → va_D (va_A (wX11 cy a o S) s.heap.size) ([(q5, .inl (cy 0, 3, .inl F5_64)), (q4, .inl (cy 0, 12, .inl F4_63))] ++ wX11 cy a o S_62) → va_S (va_A (wX11 cy a o S) s.heap.size) s.heap H locs → lv_has ls 16 [] → W p l e (headSpec wsL_closes ({ frames := 11, cells := 1123, slots := 13476, locals := 248 } : Room)).room s m ([.ref (a o)] : List Value).toArray below meth c H locs cu su (vx_MQ below (va_Qi (fun r (u : SX11) => (r, u) = rs) (fun u t => mB D s.heap.size (wX11 cy a o S) (wX11 cy a o u) t) (va_A (wX11 cy a o S) s.heap.size)) (fun _ _ _ => False) ([.ref (a o)] : List Value).toArray s 1123 13476 (va_A (wX11 cy a o S) s.heap.size)) (F0 m 562 ls [.int x61]) := by
                    intro x61 S_62 F4_63 F5_64 cu su hcu H locs ls h hP hD hS hl
                    rw [hj65] at h
                    obtain ⟨g66, h⟩ := gd_some h
                    refine vx_ret (W.widen (k := 1123) (n := 13476) (by omega) (by omega) ?_)
                    exact W.zret (v := x61) hx hb hr (zN g66) (fun t ht hW => ⟨⟨x61, S_62, rfl, (some_in h), by rw [ht]; exact cutP hP (pmA [(q5, .inl (cy 0, 3, .inl F5_64)), (q4, .inl (cy 0, 12, .inl F4_63))] (wX11 cy a o S_62)), cutD hD (pmA [(q5, .inl (cy 0, 3, .inl F5_64)), (q4, .inl (cy 0, 12, .inl F4_63))] (wX11 cy a o S_62))⟩, hS.F ht⟩) hS.2.2 dL_closes_562
                  obtain ⟨j70, hj70, h⟩ := jn_elim h
                  have Jj70 : ∀ (S_67 : SX11) (F4_68 : Nat → Int32) (F5_69 : Nat → Int32) (cu su : Nat) (hcu : cu + (0) ≤ 1123 ∧ su + 12 * (0) ≤ 13476) (H : Heap) (locs : List Loc) (ls : Array Slot), j70 S_67 F4_68 F5_69 = some rs → va_P D vwCl ([(q5, .inl (cy 0, 3, .inl F5_69)), (q4, .inl (cy 0, 12, .inl F4_68))] ++ wX11 cy a o S_67) H → va_D (va_A (wX11 cy a o S) s.heap.size) ([(q5, .inl (cy 0, 3, .inl F5_69)), (q4, .inl (cy 0, 12, .inl F4_68))] ++ wX11 cy a o S_67) → va_S (va_A (wX11 cy a o S) s.heap.size) s.heap H locs → lv_has ls 16 [] → W p l e (headSpec wsL_closes ({ frames := 11, cells := 1123, slots := 13476, locals := 248 } : Room)).room s m ([.ref (a o)] : List Value).toArray below meth c H locs cu su (vx_MQ below (va_Qi (fun r (u : SX11) => (r, u) = rs) (fun u t => mB D s.heap.size (wX11 cy a o S) (wX11 cy a o u) t) (va_A (wX11 cy a o S) s.heap.size)) (fun _ _ _ => False) ([.ref (a o)] : List Value).toArray s 1123 13476 (va_A (wX11 cy a o S) s.heap.size)) (F0 m 561 ls []) := by
                    intro S_67 F4_68 F5_69 cu su hcu H locs ls h hP hD hS hl
                    rw [hj70] at h
                    refine lv_iconst (v := (0 : Int32)) hx hb dL_closes_561 (by decide) ?_
                    exact Jj65 (0 : Int32) S_67 F4_68 F5_69 cu su ⟨by omega, by omega⟩ H locs ls h hP hD hS (lv_sub hl [] rfl)
                  refine lv_if_lt (tgt := 561) hx hb dL_closes_514 (by decide) (fun cc => ?_) (fun cc => ?_)
                  · have h := ite_p cc h
                    exact Jj70 x59.2 F4_56 F5_57 (cu + 1) (su + 6) ⟨by omega, by omega⟩ H locs ls h hP hD hS (lv_sub hl [] rfl)
                  · have h := ite_n cc h
                    refine lv_aload_n hx hb dL_closes_517 rfl (lv_at hl 0 rfl) ?_
                    refine lv_iconst (v := (3 : Int32)) hx hb dL_closes_518 (by decide) ?_
                    obtain ⟨x71, e72, h⟩ := bd_some h
                    refine lcW (Re := [(q5, .inl (cy 0, 3, .inl F5_57)), (q4, .inl (cy 0, 12, .inl F4_56))]) (S := x59.2) (rs := (x71, x59.2)) (c2 := (cu + 2)) (s2 := (su + 12)) hG hGX hN hP hD hS hA (fun h1 h2 => vx_runSX (As := [.ref (a o), .int (3 : Int32)]) (rest := []) ⟨hx, hb, hml, hown, hts⟩ (qL_info l hl9 D cy tt a o x59.2 (3 : Int32) (H).size x71 e72) (vx_cwSW 2 hts gL_closes_L_info rfl rfl rfl (by decide +kernel) ⟨Nat.le_of_ble_eq_true rfl, Nat.le_of_ble_eq_true rfl⟩) ⟨h1, h2⟩ rfl rfl hl.1 rfl (lv_room (Nat.le_of_ble_eq_true rfl)) dL_closes_519 ⟨show (cu + 1) + 1 ≤ 1123 by omega, show (su + 6) + 6 ≤ 13476 by omega⟩) rfl rfl (fun H locs hP hD hS => ?_)
                    refine lv_iload_n hx hb dL_closes_522 rfl (lv_at hl 1 rfl) ?_
                    refine lv_icmp_ne (tgt := 561) hx hb dL_closes_523 (by decide) (fun cc => ?_) (fun cc => ?_)
                    · have h := ite_n cc h
                      exact Jj70 x59.2 F4_56 F5_57 (cu + 2) (su + 12) ⟨by omega, by omega⟩ H locs ls h hP hD hS (lv_sub hl [] rfl)
                    · have h := ite_p cc h
                      refine lv_aload_n hx hb dL_closes_526 rfl (lv_at hl 0 rfl) ?_
                      refine lv_bipush (v := (7 : Int32)) hx hb dL_closes_527 (by decide) ?_
                      obtain ⟨x73, e74, h⟩ := bd_some h
                      refine lcW (Re := [(q5, .inl (cy 0, 3, .inl F5_57)), (q4, .inl (cy 0, 12, .inl F4_56))]) (S := x59.2) (rs := (x73, x59.2)) (c2 := (cu + 3)) (s2 := (su + 18)) hG hGX hN hP hD hS hA (fun h1 h2 => vx_runSX (As := [.ref (a o), .int (7 : Int32)]) (rest := []) ⟨hx, hb, hml, hown, hts⟩ (qL_info l hl9 D cy tt a o x59.2 (7 : Int32) (H).size x73 e74) (vx_cwSW 2 hts gL_closes_L_info rfl rfl rfl (by decide +kernel) ⟨Nat.le_of_ble_eq_true rfl, Nat.le_of_ble_eq_true rfl⟩) ⟨h1, h2⟩ rfl rfl hl.1 rfl (lv_room (Nat.le_of_ble_eq_true rfl)) dL_closes_529 ⟨show (cu + 2) + 1 ≤ 1123 by omega, show (su + 12) + 6 ≤ 13476 by omega⟩) rfl rfl (fun H locs hP hD hS => ?_)
                      refine lv_iload hx hb dL_closes_532 (lv_at hl 2 rfl) ?_
                      refine lv_icmp_ne (tgt := 561) hx hb dL_closes_534 (by decide) (fun cc => ?_) (fun cc => ?_)
                      · have h := ite_n cc h
                        exact Jj70 x59.2 F4_56 F5_57 (cu + 3) (su + 18) ⟨by omega, by omega⟩ H locs ls h hP hD hS (lv_sub hl [] rfl)
                      · have h := ite_p cc h
                        refine lv_aload_n hx hb dL_closes_537 rfl (lv_at hl 0 rfl) ?_
                        refine lv_bipush (v := (10 : Int32)) hx hb dL_closes_538 (by decide) ?_
                        obtain ⟨x75, e76, h⟩ := bd_some h
                        refine lcW (Re := [(q5, .inl (cy 0, 3, .inl F5_57)), (q4, .inl (cy 0, 12, .inl F4_56))]) (S := x59.2) (rs := (x75, x59.2)) (c2 := (cu + 4)) (s2 := (su + 24)) hG hGX hN hP hD hS hA (fun h1 h2 => vx_runSX (As := [.ref (a o), .int (10 : Int32)]) (rest := []) ⟨hx, hb, hml, hown, hts⟩ (qL_info l hl9 D cy tt a o x59.2 (10 : Int32) (H).size x75 e76) (vx_cwSW 2 hts gL_closes_L_info rfl rfl rfl (by decide +kernel) ⟨Nat.le_of_ble_eq_true rfl, Nat.le_of_ble_eq_true rfl⟩) ⟨h1, h2⟩ rfl rfl hl.1 rfl (lv_room (Nat.le_of_ble_eq_true rfl)) dL_closes_540 ⟨show (cu + 3) + 1 ≤ 1123 by omega, show (su + 18) + 6 ≤ 13476 by omega⟩) rfl rfl (fun H locs hP hD hS => ?_)
                        refine lv_iload hx hb dL_closes_543 (lv_at hl 3 rfl) ?_
                        refine lv_icmp_ne (tgt := 561) hx hb dL_closes_545 (by decide) (fun cc => ?_) (fun cc => ?_)
                        · have h := ite_n cc h
                          exact Jj70 x59.2 F4_56 F5_57 (cu + 4) (su + 24) ⟨by omega, by omega⟩ H locs ls h hP hD hS (lv_sub hl [] rfl)
                        · have h := ite_p cc h
                          refine lv_aload_n hx hb dL_closes_548 rfl (lv_at hl 0 rfl) ?_
                          obtain ⟨x77, e78, h⟩ := bd_some h
                          refine lcW (Re := [(q5, .inl (cy 0, 3, .inl F5_57)), (q4, .inl (cy 0, 12, .inl F4_56))]) (S := x59.2) (rs := x77) (c2 := (cu + 5)) (s2 := (su + 30)) hG hGX hN hP hD hS hA (fun h1 h2 => vx_runSX (As := [.ref (a o)]) (rest := []) ⟨hx, hb, hml, hown, hts⟩ (qL_close l hl9 D cy tt a o x59.2  (H).size x77 e78) (vx_cwSW 1 hts gL_closes_L_close rfl rfl rfl (by decide +kernel) ⟨Nat.le_of_ble_eq_true rfl, Nat.le_of_ble_eq_true rfl⟩) ⟨h1, h2⟩ rfl rfl hl.1 rfl (lv_room (Nat.le_of_ble_eq_true rfl)) dL_closes_549 ⟨show (cu + 4) + 1 ≤ 1123 by omega, show (su + 24) + 6 ≤ 13476 by omega⟩) rfl rfl (fun H locs hP hD hS => ?_)
                          refine lv_iload hx hb dL_closes_552 (lv_at hl 4 rfl) ?_
                          refine lv_icmp_ne (tgt := 561) hx hb dL_closes_554 (by decide) (fun cc => ?_) (fun cc => ?_)
                          · have h := ite_n cc h
                            exact Jj70 x77.2 F4_56 F5_57 (cu + 5) (su + 30) ⟨by omega, by omega⟩ H locs ls h hP hD hS (lv_sub hl [] rfl)
                          · have h := ite_p cc h
                            refine lv_iconst (v := (1 : Int32)) hx hb dL_closes_557 (by decide) ?_
                            refine lv_goto (tgt := 562) hx hb dL_closes_558 (by decide) ?_
                            exact Jj65 (1 : Int32) x77.2 F4_56 F5_57 (cu + 5) (su + 30) ⟨by omega, by omega⟩ H locs ls h hP hD hS (lv_sub hl [] rfl)
                refine lv_icmp_ne (tgt := 476) hx hb dL_closes_265 (by decide) (fun cc => ?_) (fun cc => ?_)
                · have h := ite_n cc h
                  refine lv_iload hx hb dL_closes_476 (lv_at hl 10 rfl) ?_
                  refine lv_iconst (v := (2 : Int32)) hx hb dL_closes_478 (by decide) ?_
                  refine lv_icmp_eq (tgt := 510) hx hb dL_closes_479 (by decide) (fun cc => ?_) (fun cc => ?_)
                  · have h := ite_p cc h
                    exact Jj58 x49.2 F4_40 F5_41 cu su ⟨by omega, by omega⟩ H locs ls h hP hD hS (lv_sub hl [0, 1, 7, 8, 10] rfl)
                  · have h := ite_n cc h
                    refine lv_aload_n hx hb dL_closes_482 rfl (lv_at hl 0 rfl) ?_
                    refine lv_iconst (v := (4 : Int32)) hx hb dL_closes_483 (by decide) ?_
                    obtain ⟨x79, e80, h⟩ := bd_some h
                    refine lcW (Re := [(q5, .inl (cy 0, 3, .inl F5_41)), (q4, .inl (cy 0, 12, .inl F4_40))]) (S := x49.2) (rs := (x79, x49.2)) (c2 := (cu + 1)) (s2 := (su + 6)) hG hGX hN hP hD hS hA (fun h1 h2 => vx_runSX (As := [.ref (a o), .int (4 : Int32)]) (rest := []) ⟨hx, hb, hml, hown, hts⟩ (qL_info l hl9 D cy tt a o x49.2 (4 : Int32) (H).size x79 e80) (vx_cwSW 2 hts gL_closes_L_info rfl rfl rfl (by decide +kernel) ⟨Nat.le_of_ble_eq_true rfl, Nat.le_of_ble_eq_true rfl⟩) ⟨h1, h2⟩ rfl rfl hl.1 rfl (lv_room (Nat.le_of_ble_eq_true rfl)) dL_closes_484 ⟨show cu + 1 ≤ 1123 by omega, show su + 6 ≤ 13476 by omega⟩) rfl rfl (fun H locs hP hD hS => ?_)
                    refine lv_iload_n hx hb dL_closes_487 rfl (lv_at hl 2 rfl) ?_
                    refine lv_icmp_ne (tgt := 510) hx hb dL_closes_488 (by decide) (fun cc => ?_) (fun cc => ?_)
                    · have h := ite_n cc h
                      exact Jj58 x49.2 F4_40 F5_41 (cu + 1) (su + 6) ⟨by omega, by omega⟩ H locs ls h hP hD hS (lv_sub hl [0, 1, 7, 8, 10] rfl)
                    · have h := ite_p cc h
                      refine lv_aload_n hx hb dL_closes_491 rfl (lv_at hl 0 rfl) ?_
                      refine lv_bipush (v := (7 : Int32)) hx hb dL_closes_492 (by decide) ?_
                      obtain ⟨x81, e82, h⟩ := bd_some h
                      refine lcW (Re := [(q5, .inl (cy 0, 3, .inl F5_41)), (q4, .inl (cy 0, 12, .inl F4_40))]) (S := x49.2) (rs := (x81, x49.2)) (c2 := (cu + 2)) (s2 := (su + 12)) hG hGX hN hP hD hS hA (fun h1 h2 => vx_runSX (As := [.ref (a o), .int (7 : Int32)]) (rest := []) ⟨hx, hb, hml, hown, hts⟩ (qL_info l hl9 D cy tt a o x49.2 (7 : Int32) (H).size x81 e82) (vx_cwSW 2 hts gL_closes_L_info rfl rfl rfl (by decide +kernel) ⟨Nat.le_of_ble_eq_true rfl, Nat.le_of_ble_eq_true rfl⟩) ⟨h1, h2⟩ rfl rfl hl.1 rfl (lv_room (Nat.le_of_ble_eq_true rfl)) dL_closes_494 ⟨show (cu + 1) + 1 ≤ 1123 by omega, show (su + 6) + 6 ≤ 13476 by omega⟩) rfl rfl (fun H locs hP hD hS => ?_)
                      refine lv_iload hx hb dL_closes_497 (lv_at hl 7 rfl) ?_
                      refine lv_iload hx hb dL_closes_499 (lv_at hl 8 rfl) ?_
                      refine lv_isub hx hb dL_closes_501 ?_
                      refine lv_iload hx hb dL_closes_502 (lv_at hl 6 rfl) ?_
                      refine lv_iadd hx hb dL_closes_504 ?_
                      refine lv_icmp_eq (tgt := 510) hx hb dL_closes_505 (by decide) (fun cc => ?_) (fun cc => ?_)
                      · have h := ite_p cc h
                        exact Jj58 x49.2 F4_40 F5_41 (cu + 2) (su + 12) ⟨by omega, by omega⟩ H locs ls h hP hD hS (lv_sub hl [0, 1, 7, 8, 10] rfl)
                      · have h := ite_n cc h
                        refine lv_iconst (v := (0 : Int32)) hx hb dL_closes_508 (by decide) ?_
                        refine vx_ret (W.widen (k := 1123) (n := 13476) (by omega) (by omega) ?_)
                        exact W.zret (v := (0 : Int32)) hx hb hr rfl (fun t ht hW => ⟨⟨(0 : Int32), x49.2, rfl, (some_in h), by rw [ht]; exact cutP hP (pmA [(q5, .inl (cy 0, 3, .inl F5_41)), (q4, .inl (cy 0, 12, .inl F4_40))] (wX11 cy a o x49.2)), cutD hD (pmA [(q5, .inl (cy 0, 3, .inl F5_41)), (q4, .inl (cy 0, 12, .inl F4_40))] (wX11 cy a o x49.2))⟩, hS.F ht⟩) hS.2.2 dL_closes_509
                · have h := ite_p cc h
                  refine lv_aload hx hb dL_closes_268 (lv_at hl 5 rfl) ?_
                  refine lv_iconst (v := (0 : Int32)) hx hb dL_closes_270 (by decide) ?_
                  refine r_ald (f := F5_41) (n := 3) (v := (F5_41 0)) hx hb hK hP 0 0 rfl rfl (vp_in_nI (n := 0) (N := 3) (by decide) (by decide)) (congrArg F5_41 (nI_clamp (n := 0) (by decide))) dL_closes_271 ?_
                  refine lv_aload hx hb dL_closes_272 (lv_at hl 5 rfl) ?_
                  refine lv_iconst (v := (1 : Int32)) hx hb dL_closes_274 (by decide) ?_
                  refine r_ald (f := F5_41) (n := 3) (v := (F5_41 1)) hx hb hK hP 0 0 rfl rfl (vp_in_nI (n := 1) (N := 3) (by decide) (by decide)) (congrArg F5_41 (nI_clamp (n := 1) (by decide))) dL_closes_275 ?_
                  refine lv_iadd hx hb dL_closes_276 ?_
                  refine lv_aload hx hb dL_closes_277 (lv_at hl 5 rfl) ?_
                  refine lv_iconst (v := (2 : Int32)) hx hb dL_closes_279 (by decide) ?_
                  refine r_ald (f := F5_41) (n := 3) (v := (F5_41 2)) hx hb hK hP 0 0 rfl rfl (vp_in_nI (n := 2) (N := 3) (by decide) (by decide)) (congrArg F5_41 (nI_clamp (n := 2) (by decide))) dL_closes_280 ?_
                  refine lv_iadd hx hb dL_closes_281 ?_
                  refine lv_iload_n hx hb dL_closes_282 rfl (lv_at hl 3 rfl) ?_
                  obtain ⟨j83, hj83, h⟩ := jn_elim h
                  have Jj83 : ∀ (cu su : Nat) (hcu : cu + (0) ≤ 1123 ∧ su + 12 * (0) ≤ 13476) (ls : Array Slot), j83 () = some rs → lv_has ls 16 [] → W p l e (headSpec wsL_closes ({ frames := 11, cells := 1123, slots := 13476, locals := 248 } : Room)).room s m ([.ref (a o)] : List Value).toArray below meth c H locs cu su (vx_MQ below (va_Qi (fun r (u : SX11) => (r, u) = rs) (fun u t => mB D s.heap.size (wX11 cy a o S) (wX11 cy a o u) t) (va_A (wX11 cy a o S) s.heap.size)) (fun _ _ _ => False) ([.ref (a o)] : List Value).toArray s 1123 13476 (va_A (wX11 cy a o S) s.heap.size)) (F0 m 302 ls []) := by
                    intro cu su hcu ls h hl
                    rw [hj83] at h
                    refine lv_iconst (v := (0 : Int32)) hx hb dL_closes_302 (by decide) ?_
                    refine vx_ret (W.widen (k := 1123) (n := 13476) (by omega) (by omega) ?_)
                    exact W.zret (v := (0 : Int32)) hx hb hr rfl (fun t ht hW => ⟨⟨(0 : Int32), x49.2, rfl, (some_in h), by rw [ht]; exact cutP hP (pmA [(q5, .inl (cy 0, 3, .inl F5_41)), (q4, .inl (cy 0, 12, .inl F4_40))] (wX11 cy a o x49.2)), cutD hD (pmA [(q5, .inl (cy 0, 3, .inl F5_41)), (q4, .inl (cy 0, 12, .inl F4_40))] (wX11 cy a o x49.2))⟩, hS.F ht⟩) hS.2.2 dL_closes_303
                  refine lv_icmp_ne (tgt := 302) hx hb dL_closes_283 (by decide) (fun cc => ?_) (fun cc => ?_)
                  · have h := ite_n cc h
                    exact Jj83  cu su ⟨by omega, by omega⟩ ls h (lv_sub hl [] rfl)
                  · have h := ite_p cc h
                    refine lv_aload hx hb dL_closes_286 (lv_at hl 5 rfl) ?_
                    refine lv_iconst (v := (1 : Int32)) hx hb dL_closes_288 (by decide) ?_
                    refine r_ald (f := F5_41) (n := 3) (v := (F5_41 1)) hx hb hK hP 0 0 rfl rfl (vp_in_nI (n := 1) (N := 3) (by decide) (by decide)) (congrArg F5_41 (nI_clamp (n := 1) (by decide))) dL_closes_289 ?_
                    obtain ⟨j84, hj84, h⟩ := jn_elim h
                    have Jj84 : ∀ (cu su : Nat) (hcu : cu + (1045) ≤ 1123 ∧ su + 12 * (1045) ≤ 13476) (ls : Array Slot), j84 () = some rs → lv_has ls 16 [(0, .ref (a o)), (1, .int x1), (2, .int x3), (4, .ref q4), (8, .int x43), (9, .int x45), (12, .int x49.1)] → W p l e (headSpec wsL_closes ({ frames := 11, cells := 1123, slots := 13476, locals := 248 } : Room)).room s m ([.ref (a o)] : List Value).toArray below meth c H locs cu su (vx_MQ below (va_Qi (fun r (u : SX11) => (r, u) = rs) (fun u t => mB D s.heap.size (wX11 cy a o S) (wX11 cy a o u) t) (va_A (wX11 cy a o S) s.heap.size)) (fun _ _ _ => False) ([.ref (a o)] : List Value).toArray s 1123 13476 (va_A (wX11 cy a o S) s.heap.size)) (F0 m 304 ls []) := by
                      intro cu su hcu ls h hl
                      rw [hj84] at h
                      refine lv_iconst (v := (0 : Int32)) hx hb dL_closes_304 (by decide) ?_
                      refine lv_istore (lv' := [(13, .int (0 : Int32)), (0, .ref (a o)), (1, .int x1), (2, .int x3), (4, .ref q4), (8, .int x43), (9, .int x45), (12, .int x49.1)]) hx hb dL_closes_305 hl (by decide) rfl (fun ls hl => ?_)
                      have L189 : ∀ (c1_85 : Int32) (c2_86 : Int32) (c8_87 : Int32) (c9_88 : Int32) (c12_89 : Int32) (k93 : SX11 → (Nat → Int32) → (Nat → Int32) → Option (Int32 × SX11)) (hk93 : ∀ (S_94 : SX11) (F4_95 : Nat → Int32) (F5_96 : Nat → Int32) (cu su : Nat) (hcu : cu + (0) ≤ 1123 ∧ su + 12 * (0) ≤ 13476) (H : Heap) (locs : List Loc) (ls : Array Slot), k93 S_94 F4_95 F5_96 = some rs → va_P D vwCl ([(q5, .inl (cy 0, 3, .inl F5_96)), (q4, .inl (cy 0, 12, .inl F4_95))] ++ wX11 cy a o S_94) H → va_D (va_A (wX11 cy a o S) s.heap.size) ([(q5, .inl (cy 0, 3, .inl F5_96)), (q4, .inl (cy 0, 12, .inl F4_95))] ++ wX11 cy a o S_94) → va_S (va_A (wX11 cy a o S) s.heap.size) s.heap H locs → lv_has ls 16 [] → W p l e (headSpec wsL_closes ({ frames := 11, cells := 1123, slots := 13476, locals := 248 } : Room)).room s m ([.ref (a o)] : List Value).toArray below meth c H locs cu su (vx_MQ below (va_Qi (fun r (u : SX11) => (r, u) = rs) (fun u t => mB D s.heap.size (wX11 cy a o S) (wX11 cy a o u) t) (va_A (wX11 cy a o S) s.heap.size)) (fun _ _ _ => False) ([.ref (a o)] : List Value).toArray s 1123 13476 (va_A (wX11 cy a o S) s.heap.size)) (F0 m 333 ls [])) (k100 : SX11 → (Nat → Int32) → (Nat → Int32) → Option (Int32 × SX11)) (hk100 : ∀ (S_101 : SX11) (F4_102 : Nat → Int32) (F5_103 : Nat → Int32) (cu su : Nat) (hcu : cu + (0) ≤ 1123 ∧ su + 12 * (0) ≤ 13476) (H : Heap) (locs : List Loc) (ls : Array Slot), k100 S_101 F4_102 F5_103 = some rs → va_P D vwCl ([(q5, .inl (cy 0, 3, .inl F5_103)), (q4, .inl (cy 0, 12, .inl F4_102))] ++ wX11 cy a o S_101) H → va_D (va_A (wX11 cy a o S) s.heap.size) ([(q5, .inl (cy 0, 3, .inl F5_103)), (q4, .inl (cy 0, 12, .inl F4_102))] ++ wX11 cy a o S_101) → va_S (va_A (wX11 cy a o S) s.heap.size) s.heap H locs → lv_has ls 16 [] → W p l e (headSpec wsL_closes ({ frames := 11, cells := 1123, slots := 13476, locals := 248 } : Room)).room s m ([.ref (a o)] : List Value).toArray below meth c H locs cu su (vx_MQ below (va_Qi (fun r (u : SX11) => (r, u) = rs) (fun u t => mB D s.heap.size (wX11 cy a o S) (wX11 cy a o u) t) (va_A (wX11 cy a o S) s.heap.size)) (fun _ _ _ => False) ([.ref (a o)] : List Value).toArray s 1123 13476 (va_A (wX11 cy a o S) s.heap.size)) (F0 m 420 ls [])) (k107 : SX11 → (Nat → Int32) → (Nat → Int32) → Option (Int32 × SX11)) (hk107 : ∀ (S_108 : SX11) (F4_109 : Nat → Int32) (F5_110 : Nat → Int32) (cu su : Nat) (hcu : cu + (0) ≤ 1123 ∧ su + 12 * (0) ≤ 13476) (H : Heap) (locs : List Loc) (ls : Array Slot), k107 S_108 F4_109 F5_110 = some rs → va_P D vwCl ([(q5, .inl (cy 0, 3, .inl F5_110)), (q4, .inl (cy 0, 12, .inl F4_109))] ++ wX11 cy a o S_108) H → va_D (va_A (wX11 cy a o S) s.heap.size) ([(q5, .inl (cy 0, 3, .inl F5_110)), (q4, .inl (cy 0, 12, .inl F4_109))] ++ wX11 cy a o S_108) → va_S (va_A (wX11 cy a o S) s.heap.size) s.heap H locs → lv_has ls 16 [] → W p l e (headSpec wsL_closes ({ frames := 11, cells := 1123, slots := 13476, locals := 248 } : Room)).room s m ([.ref (a o)] : List Value).toArray below meth c H locs cu su (vx_MQ below (va_Qi (fun r (u : SX11) => (r, u) = rs) (fun u t => mB D s.heap.size (wX11 cy a o S) (wX11 cy a o u) t) (va_A (wX11 cy a o S) s.heap.size)) (fun _ _ _ => False) ([.ref (a o)] : List Value).toArray s 1123 13476 (va_A (wX11 cy a o S) s.heap.size)) (F0 m 459 ls [])) (k114 : SX11 → (Nat → Int32) → (Nat → Int32) → Option (Int32 × SX11)) (hk114 : ∀ (S_115 : SX11) (F4_116 : Nat → Int32) (F5_117 : Nat → Int32) (cu su : Nat) (hcu : cu + (5) ≤ 1123 ∧ su + 12 * (5) ≤ 13476) (H : Heap) (locs : List Loc) (ls : Array Slot), k114 S_115 F4_116 F5_117 = some rs → va_P D vwCl ([(q5, .inl (cy 0, 3, .inl F5_117)), (q4, .inl (cy 0, 12, .inl F4_116))] ++ wX11 cy a o S_115) H → va_D (va_A (wX11 cy a o S) s.heap.size) ([(q5, .inl (cy 0, 3, .inl F5_117)), (q4, .inl (cy 0, 12, .inl F4_116))] ++ wX11 cy a o S_115) → va_S (va_A (wX11 cy a o S) s.heap.size) s.heap H locs → lv_has ls 16 [(0, .ref (a o)), (1, .int c1_85), (8, .int c8_87), (9, .int c9_88), (12, .int c12_89)] → W p l e (headSpec wsL_closes ({ frames := 11, cells := 1123, slots := 13476, locals := 248 } : Room)).room s m ([.ref (a o)] : List Value).toArray below meth c H locs cu su (vx_MQ below (va_Qi (fun r (u : SX11) => (r, u) = rs) (fun u t => mB D s.heap.size (wX11 cy a o S) (wX11 cy a o u) t) (va_A (wX11 cy a o S) s.heap.size)) (fun _ _ _ => False) ([.ref (a o)] : List Value).toArray s 1123 13476 (va_A (wX11 cy a o S) s.heap.size)) (F0 m 473 ls [])) (f307 : Nat) (v13_121 : Int32) (S_90 : SX11) (F4_91 : Nat → Int32) (F5_92 : Nat → Int32) (cu su : Nat) (hcu : cu + (f307 * 80 + 5) ≤ 1123 ∧ su + 12 * (f307 * 80 + 5) ≤ 13476) (H : Heap) (locs : List Loc) (ls : Array Slot), DL_closes_L307 c1_85 c2_86 c8_87 c9_88 c12_89 k93 k100 k107 k114 f307 v13_121 S_90 F4_91 F5_92 = some rs → va_P D vwCl ([(q5, .inl (cy 0, 3, .inl F5_92)), (q4, .inl (cy 0, 12, .inl F4_91))] ++ wX11 cy a o S_90) H → va_D (va_A (wX11 cy a o S) s.heap.size) ([(q5, .inl (cy 0, 3, .inl F5_92)), (q4, .inl (cy 0, 12, .inl F4_91))] ++ wX11 cy a o S_90) → va_S (va_A (wX11 cy a o S) s.heap.size) s.heap H locs → lv_has ls 16 [(0, .ref (a o)), (1, .int c1_85), (2, .int c2_86), (4, .ref q4), (8, .int c8_87), (9, .int c9_88), (12, .int c12_89), (13, .int v13_121)] → W p l e (headSpec wsL_closes ({ frames := 11, cells := 1123, slots := 13476, locals := 248 } : Room)).room s m ([.ref (a o)] : List Value).toArray below meth c H locs cu su (vx_MQ below (va_Qi (fun r (u : SX11) => (r, u) = rs) (fun u t => mB D s.heap.size (wX11 cy a o S) (wX11 cy a o u) t) (va_A (wX11 cy a o S) s.heap.size)) (fun _ _ _ => False) ([.ref (a o)] : List Value).toArray s 1123 13476 (va_A (wX11 cy a o S) s.heap.size)) (F0 m 307 ls []) := by
                        intro c1_85 c2_86 c8_87 c9_88 c12_89 k93 hk93 k100 hk100 k107 hk107 k114 hk114 f307
                        induction f307 with
                        | zero =>
                          intro v13_121 S_90 F4_91 F5_92 cu su hcu H locs ls h hP hD hS hl
                          rw [DL_closes_L307] at h
                          cases h
                        | succ f307 ih307 =>
                          intro v13_121 S_90 F4_91 F5_92 cu su hcu H locs ls h hP hD hS hl
                          rw [DL_closes_L307] at h
                          refine lv_iload hx hb dL_closes_307 (lv_at hl 7 rfl) ?_
                          refine lv_aload_n hx hb dL_closes_309 rfl (lv_at hl 0 rfl) ?_
                          refine lv_bipush (v := (6 : Int32)) hx hb dL_closes_310 (by decide) ?_
                          obtain ⟨x122, e123, h⟩ := bd_some h
                          refine lcW (Re := [(q5, .inl (cy 0, 3, .inl F5_92)), (q4, .inl (cy 0, 12, .inl F4_91))]) (S := S_90) (rs := (x122, S_90)) (c2 := (cu + 1)) (s2 := (su + 6)) hG hGX hN hP hD hS hA (fun h1 h2 => vx_runSX (As := [.ref (a o), .int (6 : Int32)]) (rest := [.int v13_121]) ⟨hx, hb, hml, hown, hts⟩ (qL_info l hl9 D cy tt a o S_90 (6 : Int32) (H).size x122 e123) (vx_cwSW 2 hts gL_closes_L_info rfl rfl rfl (by decide +kernel) ⟨Nat.le_of_ble_eq_true rfl, Nat.le_of_ble_eq_true rfl⟩) ⟨h1, h2⟩ rfl rfl hl.1 rfl (lv_room (Nat.le_of_ble_eq_true rfl)) dL_closes_312 ⟨show cu + 1 ≤ 1123 by omega, show su + 6 ≤ 13476 by omega⟩) rfl rfl (fun H locs hP hD hS => ?_)
                          refine lv_icmp_ge (tgt := 473) hx hb dL_closes_315 (by decide) (fun cc => ?_) (fun cc => ?_)
                          · have h := ite_p cc h
                            exact hk114 S_90 F4_91 F5_92 (cu + 1) (su + 6) ⟨by omega, by omega⟩ H locs ls h hP hD hS (lv_sub hl [0, 1, 4, 5, 6] rfl)
                          · have h := ite_n cc h
                            refine lv_aload_n hx hb dL_closes_318 rfl (lv_at hl 0 rfl) ?_
                            refine lv_iload hx hb dL_closes_319 (lv_at hl 7 rfl) ?_
                            refine lv_iload_n hx hb dL_closes_321 rfl (lv_at hl 2 rfl) ?_
                            obtain ⟨x124, e125, h⟩ := bd_some h
                            refine lcW (Re := [(q5, .inl (cy 0, 3, .inl F5_92)), (q4, .inl (cy 0, 12, .inl F4_91))]) (S := S_90) (rs := (x124, S_90)) (c2 := (cu + 2)) (s2 := (su + 12)) hG hGX hN hP hD hS hA (fun h1 h2 => vx_runSX (As := [.ref (a o), .int v13_121, .int c2_86]) (rest := []) ⟨hx, hb, hml, hown, hts⟩ (qL_history l hl9 D cy tt a o S_90 v13_121 c2_86 (H).size x124 e125) (vx_cwSW 3 hts gL_closes_L_history rfl rfl rfl (by decide +kernel) ⟨Nat.le_of_ble_eq_true rfl, Nat.le_of_ble_eq_true rfl⟩) ⟨h1, h2⟩ rfl rfl hl.1 rfl (lv_room (Nat.le_of_ble_eq_true rfl)) dL_closes_322 ⟨show (cu + 1) + 1 ≤ 1123 by omega, show (su + 6) + 6 ≤ 13476 by omega⟩) rfl rfl (fun H locs hP hD hS => ?_)
                            refine lv_aload hx hb dL_closes_325 (lv_at hl 3 rfl) ?_
                            refine lv_iload hx hb dL_closes_327 (lv_at hl 7 rfl) ?_
                            obtain ⟨g126, h⟩ := gd_some h
                            refine r_ald (f := F4_91) (n := 12) (v := (F4_91 ((v13_121).toNatClampNeg))) hx hb hK hP 1 0 rfl rfl (gIn_in g126) rfl dL_closes_329 ?_
                            refine lv_icmp_eq (tgt := 335) hx hb dL_closes_330 (by decide) (fun cc => ?_) (fun cc => ?_)
                            · have h := ite_p cc h
                              refine lv_iconst (v := (0 : Int32)) hx hb dL_closes_335 (by decide) ?_
                              refine lv_istore (lv' := [(14, .int (0 : Int32)), (0, .ref (a o)), (1, .int c1_85), (2, .int c2_86), (4, .ref q4), (8, .int c8_87), (9, .int c9_88), (12, .int c12_89), (13, .int v13_121)]) hx hb dL_closes_336 hl (by decide) rfl (fun ls hl => ?_)
                              obtain ⟨j130, hj130, h⟩ := jn_elim h
                              have Jj130 : ∀ (S_127 : SX11) (F4_128 : Nat → Int32) (F5_129 : Nat → Int32) (cu su : Nat) (hcu : cu + (f307 * 80 + 5) ≤ 1123 ∧ su + 12 * (f307 * 80 + 5) ≤ 13476) (H : Heap) (locs : List Loc) (ls : Array Slot), j130 S_127 F4_128 F5_129 = some rs → va_P D vwCl ([(q5, .inl (cy 0, 3, .inl F5_129)), (q4, .inl (cy 0, 12, .inl F4_128))] ++ wX11 cy a o S_127) H → va_D (va_A (wX11 cy a o S) s.heap.size) ([(q5, .inl (cy 0, 3, .inl F5_129)), (q4, .inl (cy 0, 12, .inl F4_128))] ++ wX11 cy a o S_127) → va_S (va_A (wX11 cy a o S) s.heap.size) s.heap H locs → lv_has ls 16 [(0, .ref (a o)), (1, .int c1_85), (2, .int c2_86), (4, .ref q4), (8, .int c8_87), (9, .int c9_88), (12, .int c12_89), (13, .int v13_121)] → W p l e (headSpec wsL_closes ({ frames := 11, cells := 1123, slots := 13476, locals := 248 } : Room)).room s m ([.ref (a o)] : List Value).toArray below meth c H locs cu su (vx_MQ below (va_Qi (fun r (u : SX11) => (r, u) = rs) (fun u t => mB D s.heap.size (wX11 cy a o S) (wX11 cy a o u) t) (va_A (wX11 cy a o S) s.heap.size)) (fun _ _ _ => False) ([.ref (a o)] : List Value).toArray s 1123 13476 (va_A (wX11 cy a o S) s.heap.size)) (F0 m 467 ls []) := by
                                intro S_127 F4_128 F5_129 cu su hcu H locs ls h hP hD hS hl
                                rw [hj130] at h
                                refine lv_iinc (v := (v13_121 + (1 : Int32))) (lv' := [(13, .int (v13_121 + (1 : Int32))), (0, .ref (a o)), (1, .int c1_85), (2, .int c2_86), (4, .ref q4), (8, .int c8_87), (9, .int c9_88), (12, .int c12_89)]) hx hb dL_closes_467 hl (k := 7) rfl (by rfl) (by decide) rfl (fun ls hl => ?_)
                                refine lv_goto (tgt := 307) hx hb dL_closes_470 (by decide) ?_
                                exact ih307 (v13_121 + (1 : Int32)) S_127 F4_128 F5_129 cu su ⟨by omega, by omega⟩ H locs ls h hP hD hS (lv_sub hl [1, 2, 3, 4, 5, 6, 7, 0] rfl)
                              have L188 : ∀ (c1_131 : Int32) (c2_132 : Int32) (c8_133 : Int32) (c9_134 : Int32) (c12_135 : Int32) (c13_136 : Int32) (k140 : SX11 → (Nat → Int32) → (Nat → Int32) → Option (Int32 × SX11)) (hk140 : ∀ (S_141 : SX11) (F4_142 : Nat → Int32) (F5_143 : Nat → Int32) (cu su : Nat) (hcu : cu + (0) ≤ 1123 ∧ su + 12 * (0) ≤ 13476) (H : Heap) (locs : List Loc) (ls : Array Slot), k140 S_141 F4_142 F5_143 = some rs → va_P D vwCl ([(q5, .inl (cy 0, 3, .inl F5_143)), (q4, .inl (cy 0, 12, .inl F4_142))] ++ wX11 cy a o S_141) H → va_D (va_A (wX11 cy a o S) s.heap.size) ([(q5, .inl (cy 0, 3, .inl F5_143)), (q4, .inl (cy 0, 12, .inl F4_142))] ++ wX11 cy a o S_141) → va_S (va_A (wX11 cy a o S) s.heap.size) s.heap H locs → lv_has ls 16 [] → W p l e (headSpec wsL_closes ({ frames := 11, cells := 1123, slots := 13476, locals := 248 } : Room)).room s m ([.ref (a o)] : List Value).toArray below meth c H locs cu su (vx_MQ below (va_Qi (fun r (u : SX11) => (r, u) = rs) (fun u t => mB D s.heap.size (wX11 cy a o S) (wX11 cy a o u) t) (va_A (wX11 cy a o S) s.heap.size)) (fun _ _ _ => False) ([.ref (a o)] : List Value).toArray s 1123 13476 (va_A (wX11 cy a o S) s.heap.size)) (F0 m 420 ls [])) (k144 : SX11 → (Nat → Int32) → (Nat → Int32) → Option (Int32 × SX11)) (hk144 : ∀ (S_145 : SX11) (F4_146 : Nat → Int32) (F5_147 : Nat → Int32) (cu su : Nat) (hcu : cu + (0) ≤ 1123 ∧ su + 12 * (0) ≤ 13476) (H : Heap) (locs : List Loc) (ls : Array Slot), k144 S_145 F4_146 F5_147 = some rs → va_P D vwCl ([(q5, .inl (cy 0, 3, .inl F5_147)), (q4, .inl (cy 0, 12, .inl F4_146))] ++ wX11 cy a o S_145) H → va_D (va_A (wX11 cy a o S) s.heap.size) ([(q5, .inl (cy 0, 3, .inl F5_147)), (q4, .inl (cy 0, 12, .inl F4_146))] ++ wX11 cy a o S_145) → va_S (va_A (wX11 cy a o S) s.heap.size) s.heap H locs → lv_has ls 16 [] → W p l e (headSpec wsL_closes ({ frames := 11, cells := 1123, slots := 13476, locals := 248 } : Room)).room s m ([.ref (a o)] : List Value).toArray below meth c H locs cu su (vx_MQ below (va_Qi (fun r (u : SX11) => (r, u) = rs) (fun u t => mB D s.heap.size (wX11 cy a o S) (wX11 cy a o u) t) (va_A (wX11 cy a o S) s.heap.size)) (fun _ _ _ => False) ([.ref (a o)] : List Value).toArray s 1123 13476 (va_A (wX11 cy a o S) s.heap.size)) (F0 m 459 ls [])) (k148 : SX11 → (Nat → Int32) → (Nat → Int32) → Option (Int32 × SX11)) (hk148 : ∀ (S_149 : SX11) (F4_150 : Nat → Int32) (F5_151 : Nat → Int32) (cu su : Nat) (hcu : cu + (f307 * 80 + 5) ≤ 1123 ∧ su + 12 * (f307 * 80 + 5) ≤ 13476) (H : Heap) (locs : List Loc) (ls : Array Slot), k148 S_149 F4_150 F5_151 = some rs → va_P D vwCl ([(q5, .inl (cy 0, 3, .inl F5_151)), (q4, .inl (cy 0, 12, .inl F4_150))] ++ wX11 cy a o S_149) H → va_D (va_A (wX11 cy a o S) s.heap.size) ([(q5, .inl (cy 0, 3, .inl F5_151)), (q4, .inl (cy 0, 12, .inl F4_150))] ++ wX11 cy a o S_149) → va_S (va_A (wX11 cy a o S) s.heap.size) s.heap H locs → lv_has ls 16 [(0, .ref (a o)), (1, .int c1_131), (2, .int c2_132), (4, .ref q4), (8, .int c8_133), (9, .int c9_134), (12, .int c12_135), (13, .int c13_136)] → W p l e (headSpec wsL_closes ({ frames := 11, cells := 1123, slots := 13476, locals := 248 } : Room)).room s m ([.ref (a o)] : List Value).toArray below meth c H locs cu su (vx_MQ below (va_Qi (fun r (u : SX11) => (r, u) = rs) (fun u t => mB D s.heap.size (wX11 cy a o S) (wX11 cy a o u) t) (va_A (wX11 cy a o S) s.heap.size)) (fun _ _ _ => False) ([.ref (a o)] : List Value).toArray s 1123 13476 (va_A (wX11 cy a o S) s.heap.size)) (F0 m 467 ls [])) (f338 : Nat) (v14_152 : Int32) (S_137 : SX11) (F4_138 : Nat → Int32) (F5_139 : Nat → Int32) (cu su : Nat) (hcu : cu + (f338 * 6 + f307 * 80 + 5) ≤ 1123 ∧ su + 12 * (f338 * 6 + f307 * 80 + 5) ≤ 13476) (H : Heap) (locs : List Loc) (ls : Array Slot), DL_closes_L338 c1_131 c2_132 c8_133 c9_134 c12_135 c13_136 k140 k144 k148 f338 v14_152 S_137 F4_138 F5_139 = some rs → va_P D vwCl ([(q5, .inl (cy 0, 3, .inl F5_139)), (q4, .inl (cy 0, 12, .inl F4_138))] ++ wX11 cy a o S_137) H → va_D (va_A (wX11 cy a o S) s.heap.size) ([(q5, .inl (cy 0, 3, .inl F5_139)), (q4, .inl (cy 0, 12, .inl F4_138))] ++ wX11 cy a o S_137) → va_S (va_A (wX11 cy a o S) s.heap.size) s.heap H locs → lv_has ls 16 [(0, .ref (a o)), (1, .int c1_131), (2, .int c2_132), (4, .ref q4), (8, .int c8_133), (9, .int c9_134), (12, .int c12_135), (13, .int c13_136), (14, .int v14_152)] → W p l e (headSpec wsL_closes ({ frames := 11, cells := 1123, slots := 13476, locals := 248 } : Room)).room s m ([.ref (a o)] : List Value).toArray below meth c H locs cu su (vx_MQ below (va_Qi (fun r (u : SX11) => (r, u) = rs) (fun u t => mB D s.heap.size (wX11 cy a o S) (wX11 cy a o u) t) (va_A (wX11 cy a o S) s.heap.size)) (fun _ _ _ => False) ([.ref (a o)] : List Value).toArray s 1123 13476 (va_A (wX11 cy a o S) s.heap.size)) (F0 m 338 ls []) := by
                                intro c1_131 c2_132 c8_133 c9_134 c12_135 c13_136 k140 hk140 k144 hk144 k148 hk148 f338
                                induction f338 with
                                | zero =>
                                  intro v14_152 S_137 F4_138 F5_139 cu su hcu H locs ls h hP hD hS hl
                                  rw [DL_closes_L338] at h
                                  cases h
                                | succ f338 ih338 =>
                                  intro v14_152 S_137 F4_138 F5_139 cu su hcu H locs ls h hP hD hS hl
                                  rw [DL_closes_L338] at h
                                  refine lv_iload hx hb dL_closes_338 (lv_at hl 8 rfl) ?_
                                  refine lv_aload_n hx hb dL_closes_340 rfl (lv_at hl 0 rfl) ?_
                                  refine lv_bipush (v := (6 : Int32)) hx hb dL_closes_341 (by decide) ?_
                                  obtain ⟨x153, e154, h⟩ := bd_some h
                                  refine lcW (Re := [(q5, .inl (cy 0, 3, .inl F5_139)), (q4, .inl (cy 0, 12, .inl F4_138))]) (S := S_137) (rs := (x153, S_137)) (c2 := (cu + 1)) (s2 := (su + 6)) hG hGX hN hP hD hS hA (fun h1 h2 => vx_runSX (As := [.ref (a o), .int (6 : Int32)]) (rest := [.int v14_152]) ⟨hx, hb, hml, hown, hts⟩ (qL_info l hl9 D cy tt a o S_137 (6 : Int32) (H).size x153 e154) (vx_cwSW 2 hts gL_closes_L_info rfl rfl rfl (by decide +kernel) ⟨Nat.le_of_ble_eq_true rfl, Nat.le_of_ble_eq_true rfl⟩) ⟨h1, h2⟩ rfl rfl hl.1 rfl (lv_room (Nat.le_of_ble_eq_true rfl)) dL_closes_343 ⟨show cu + 1 ≤ 1123 by omega, show su + 6 ≤ 13476 by omega⟩) rfl rfl (fun H locs hP hD hS => ?_)
                                  refine lv_icmp_ge (tgt := 467) hx hb dL_closes_346 (by decide) (fun cc => ?_) (fun cc => ?_)
                                  · have h := ite_p cc h
                                    exact hk148 S_137 F4_138 F5_139 (cu + 1) (su + 6) ⟨by omega, by omega⟩ H locs ls h hP hD hS (lv_sub hl [0, 1, 2, 3, 4, 5, 6, 7] rfl)
                                  · have h := ite_n cc h
                                    refine lv_aload_n hx hb dL_closes_349 rfl (lv_at hl 0 rfl) ?_
                                    refine lv_iconst (v := (4 : Int32)) hx hb dL_closes_350 (by decide) ?_
                                    obtain ⟨x155, e156, h⟩ := bd_some h
                                    refine lcW (Re := [(q5, .inl (cy 0, 3, .inl F5_139)), (q4, .inl (cy 0, 12, .inl F4_138))]) (S := S_137) (rs := (x155, S_137)) (c2 := (cu + 2)) (s2 := (su + 12)) hG hGX hN hP hD hS hA (fun h1 h2 => vx_runSX (As := [.ref (a o), .int (4 : Int32)]) (rest := []) ⟨hx, hb, hml, hown, hts⟩ (qL_info l hl9 D cy tt a o S_137 (4 : Int32) (H).size x155 e156) (vx_cwSW 2 hts gL_closes_L_info rfl rfl rfl (by decide +kernel) ⟨Nat.le_of_ble_eq_true rfl, Nat.le_of_ble_eq_true rfl⟩) ⟨h1, h2⟩ rfl rfl hl.1 rfl (lv_room (Nat.le_of_ble_eq_true rfl)) dL_closes_351 ⟨show (cu + 1) + 1 ≤ 1123 by omega, show (su + 6) + 6 ≤ 13476 by omega⟩) rfl rfl (fun H locs hP hD hS => ?_)
                                    refine lv_iload_n hx hb dL_closes_354 rfl (lv_at hl 2 rfl) ?_
                                    refine lv_icmp_ne (tgt := 467) hx hb dL_closes_355 (by decide) (fun cc => ?_) (fun cc => ?_)
                                    · have h := ite_n cc h
                                      exact hk148 S_137 F4_138 F5_139 (cu + 2) (su + 12) ⟨by omega, by omega⟩ H locs ls h hP hD hS (lv_sub hl [0, 1, 2, 3, 4, 5, 6, 7] rfl)
                                    · have h := ite_p cc h
                                      refine lv_aload hx hb dL_closes_358 (lv_at hl 3 rfl) ?_
                                      refine lv_iload hx hb dL_closes_360 (lv_at hl 8 rfl) ?_
                                      obtain ⟨g157, h⟩ := gd_some h
                                      refine r_ald (f := F4_138) (n := 12) (v := (F4_138 ((v14_152).toNatClampNeg))) hx hb hK hP 1 0 rfl rfl (gIn_in g157) rfl dL_closes_362 ?_
                                      obtain ⟨j162, hj162, h⟩ := jn_elim h
                                      have Jj162 : ∀ (x158 : Int32) (S_159 : SX11) (F4_160 : Nat → Int32) (F5_161 : Nat → Int32) (cu su : Nat) (hcu : cu + (f338 * 6 + f307 * 80 + 8) ≤ 1123 ∧ su + 12 * (f338 * 6 + f307 * 80 + 8) ≤ 13476) (H : Heap) (locs : List Loc) (ls : Array Slot), j162 x158 S_159 F4_160 F5_161 = some rs → va_P D vwCl ([(q5, .inl (cy 0, 3, .inl F5_161)), (q4, .inl (cy 0, 12, .inl F4_160))] ++ wX11 cy a o S_159) H → va_D (va_A (wX11 cy a o S) s.heap.size) ([(q5, .inl (cy 0, 3, .inl F5_161)), (q4, .inl (cy 0, 12, .inl F4_160))] ++ wX11 cy a o S_159) → va_S (va_A (wX11 cy a o S) s.heap.size) s.heap H locs → lv_has ls 16 [(0, .ref (a o)), (1, .int c1_131), (2, .int c2_132), (4, .ref q4), (8, .int c8_133), (9, .int c9_134), (12, .int c12_135), (13, .int c13_136), (14, .int v14_152)] → W p l e (headSpec wsL_closes ({ frames := 11, cells := 1123, slots := 13476, locals := 248 } : Room)).room s m ([.ref (a o)] : List Value).toArray below meth c H locs cu su (vx_MQ below (va_Qi (fun r (u : SX11) => (r, u) = rs) (fun u t => mB D s.heap.size (wX11 cy a o S) (wX11 cy a o u) t) (va_A (wX11 cy a o S) s.heap.size)) (fun _ _ _ => False) ([.ref (a o)] : List Value).toArray s 1123 13476 (va_A (wX11 cy a o S) s.heap.size)) (F0 m 381 ls [.int x158]) := by
                                        intro x158 S_159 F4_160 F5_161 cu su hcu H locs ls h hP hD hS hl
                                        rw [hj162] at h
                                        refine lv_istore (lv' := [(15, .int x158), (0, .ref (a o)), (1, .int c1_131), (2, .int c2_132), (4, .ref q4), (8, .int c8_133), (9, .int c9_134), (12, .int c12_135), (13, .int c13_136), (14, .int v14_152)]) hx hb dL_closes_381 hl (by decide) rfl (fun ls hl => ?_)
                                        refine lv_aload hx hb dL_closes_383 (lv_at hl 4 rfl) ?_
                                        refine lv_iload hx hb dL_closes_385 (lv_at hl 8 rfl) ?_
                                        obtain ⟨g163, h⟩ := gd_some h
                                        refine r_ald (f := F4_160) (n := 12) (v := (F4_160 ((c13_136).toNatClampNeg))) hx hb hK hP 1 0 rfl rfl (gIn_in g163) rfl dL_closes_387 ?_
                                        obtain ⟨j167, hj167, h⟩ := jn_elim h
                                        have Jj167 : ∀ (S_164 : SX11) (F4_165 : Nat → Int32) (F5_166 : Nat → Int32) (cu su : Nat) (hcu : cu + (f338 * 6 + f307 * 80 + 7) ≤ 1123 ∧ su + 12 * (f338 * 6 + f307 * 80 + 7) ≤ 13476) (H : Heap) (locs : List Loc) (ls : Array Slot), j167 S_164 F4_165 F5_166 = some rs → va_P D vwCl ([(q5, .inl (cy 0, 3, .inl F5_166)), (q4, .inl (cy 0, 12, .inl F4_165))] ++ wX11 cy a o S_164) H → va_D (va_A (wX11 cy a o S) s.heap.size) ([(q5, .inl (cy 0, 3, .inl F5_166)), (q4, .inl (cy 0, 12, .inl F4_165))] ++ wX11 cy a o S_164) → va_S (va_A (wX11 cy a o S) s.heap.size) s.heap H locs → lv_has ls 16 [(0, .ref (a o)), (1, .int c1_131), (2, .int c2_132), (4, .ref q4), (8, .int c8_133), (9, .int c9_134), (12, .int c12_135), (13, .int c13_136), (14, .int v14_152)] → W p l e (headSpec wsL_closes ({ frames := 11, cells := 1123, slots := 13476, locals := 248 } : Room)).room s m ([.ref (a o)] : List Value).toArray below meth c H locs cu su (vx_MQ below (va_Qi (fun r (u : SX11) => (r, u) = rs) (fun u t => mB D s.heap.size (wX11 cy a o S) (wX11 cy a o u) t) (va_A (wX11 cy a o S) s.heap.size)) (fun _ _ _ => False) ([.ref (a o)] : List Value).toArray s 1123 13476 (va_A (wX11 cy a o S) s.heap.size)) (F0 m 422 ls []) := by
                                          intro S_164 F4_165 F5_166 cu su hcu H locs ls h hP hD hS hl
                                          rw [hj167] at h
                                          refine lv_aload_n hx hb dL_closes_422 rfl (lv_at hl 0 rfl) ?_
                                          refine lv_iload hx hb dL_closes_423 (lv_at hl 7 rfl) ?_
                                          refine lv_bipush (v := (6 : Int32)) hx hb dL_closes_425 (by decide) ?_
                                          obtain ⟨x168, e169, h⟩ := bd_some h
                                          refine lcW (Re := [(q5, .inl (cy 0, 3, .inl F5_166)), (q4, .inl (cy 0, 12, .inl F4_165))]) (S := S_164) (rs := (x168, S_164)) (c2 := (cu + 1)) (s2 := (su + 6)) hG hGX hN hP hD hS hA (fun h1 h2 => vx_runSX (As := [.ref (a o), .int c13_136, .int (6 : Int32)]) (rest := []) ⟨hx, hb, hml, hown, hts⟩ (qL_entrant l hl9 D cy tt a o S_164 c13_136 (6 : Int32) (H).size x168 e169) (vx_cwSW 3 hts gL_closes_L_entrant rfl rfl rfl (by decide +kernel) ⟨Nat.le_of_ble_eq_true rfl, Nat.le_of_ble_eq_true rfl⟩) ⟨h1, h2⟩ rfl rfl hl.1 rfl (lv_room (Nat.le_of_ble_eq_true rfl)) dL_closes_427 ⟨show cu + 1 ≤ 1123 by omega, show su + 6 ≤ 13476 by omega⟩) rfl rfl (fun H locs hP hD hS => ?_)
                                          refine lv_iconst (v := (1 : Int32)) hx hb dL_closes_430 (by decide) ?_
                                          obtain ⟨j173, hj173, h⟩ := jn_elim h
                                          have Jj173 : ∀ (S_170 : SX11) (F4_171 : Nat → Int32) (F5_172 : Nat → Int32) (cu su : Nat) (hcu : cu + (f338 * 6 + f307 * 80 + 5) ≤ 1123 ∧ su + 12 * (f338 * 6 + f307 * 80 + 5) ≤ 13476) (H : Heap) (locs : List Loc) (ls : Array Slot), j173 S_170 F4_171 F5_172 = some rs → va_P D vwCl ([(q5, .inl (cy 0, 3, .inl F5_172)), (q4, .inl (cy 0, 12, .inl F4_171))] ++ wX11 cy a o S_170) H → va_D (va_A (wX11 cy a o S) s.heap.size) ([(q5, .inl (cy 0, 3, .inl F5_172)), (q4, .inl (cy 0, 12, .inl F4_171))] ++ wX11 cy a o S_170) → va_S (va_A (wX11 cy a o S) s.heap.size) s.heap H locs → lv_has ls 16 [(0, .ref (a o)), (1, .int c1_131), (2, .int c2_132), (4, .ref q4), (8, .int c8_133), (9, .int c9_134), (12, .int c12_135), (13, .int c13_136), (14, .int v14_152)] → W p l e (headSpec wsL_closes ({ frames := 11, cells := 1123, slots := 13476, locals := 248 } : Room)).room s m ([.ref (a o)] : List Value).toArray below meth c H locs cu su (vx_MQ below (va_Qi (fun r (u : SX11) => (r, u) = rs) (fun u t => mB D s.heap.size (wX11 cy a o S) (wX11 cy a o u) t) (va_A (wX11 cy a o S) s.heap.size)) (fun _ _ _ => False) ([.ref (a o)] : List Value).toArray s 1123 13476 (va_A (wX11 cy a o S) s.heap.size)) (F0 m 461 ls []) := by
                                            intro S_170 F4_171 F5_172 cu su hcu H locs ls h hP hD hS hl
                                            rw [hj173] at h
                                            refine lv_iinc (v := (v14_152 + (1 : Int32))) (lv' := [(14, .int (v14_152 + (1 : Int32))), (0, .ref (a o)), (1, .int c1_131), (2, .int c2_132), (4, .ref q4), (8, .int c8_133), (9, .int c9_134), (12, .int c12_135), (13, .int c13_136)]) hx hb dL_closes_461 hl (k := 8) rfl (by rfl) (by decide) rfl (fun ls hl => ?_)
                                            refine lv_goto (tgt := 338) hx hb dL_closes_464 (by decide) ?_
                                            exact ih338 (v14_152 + (1 : Int32)) S_170 F4_171 F5_172 cu su ⟨by omega, by omega⟩ H locs ls h hP hD hS (lv_sub hl [1, 2, 3, 4, 5, 6, 7, 8, 0] rfl)
                                          refine lv_icmp_ne (tgt := 461) hx hb dL_closes_431 (by decide) (fun cc => ?_) (fun cc => ?_)
                                          · have h := ite_n cc h
                                            exact Jj173 S_164 F4_165 F5_166 (cu + 1) (su + 6) ⟨by omega, by omega⟩ H locs ls h hP hD hS (lv_sub hl [0, 1, 2, 3, 4, 5, 6, 7, 8] rfl)
                                          · have h := ite_p cc h
                                            refine lv_aload_n hx hb dL_closes_434 rfl (lv_at hl 0 rfl) ?_
                                            refine lv_iload hx hb dL_closes_435 (lv_at hl 8 rfl) ?_
                                            refine lv_bipush (v := (6 : Int32)) hx hb dL_closes_437 (by decide) ?_
                                            obtain ⟨x174, e175, h⟩ := bd_some h
                                            refine lcW (Re := [(q5, .inl (cy 0, 3, .inl F5_166)), (q4, .inl (cy 0, 12, .inl F4_165))]) (S := S_164) (rs := (x174, S_164)) (c2 := (cu + 2)) (s2 := (su + 12)) hG hGX hN hP hD hS hA (fun h1 h2 => vx_runSX (As := [.ref (a o), .int v14_152, .int (6 : Int32)]) (rest := []) ⟨hx, hb, hml, hown, hts⟩ (qL_entrant l hl9 D cy tt a o S_164 v14_152 (6 : Int32) (H).size x174 e175) (vx_cwSW 3 hts gL_closes_L_entrant rfl rfl rfl (by decide +kernel) ⟨Nat.le_of_ble_eq_true rfl, Nat.le_of_ble_eq_true rfl⟩) ⟨h1, h2⟩ rfl rfl hl.1 rfl (lv_room (Nat.le_of_ble_eq_true rfl)) dL_closes_439 ⟨show (cu + 1) + 1 ≤ 1123 by omega, show (su + 6) + 6 ≤ 13476 by omega⟩) rfl rfl (fun H locs hP hD hS => ?_)
                                            refine lv_iconst (v := (1 : Int32)) hx hb dL_closes_442 (by decide) ?_
                                            refine lv_icmp_ne (tgt := 461) hx hb dL_closes_443 (by decide) (fun cc => ?_) (fun cc => ?_)
                                            · have h := ite_n cc h
                                              exact Jj173 S_164 F4_165 F5_166 (cu + 2) (su + 12) ⟨by omega, by omega⟩ H locs ls h hP hD hS (lv_sub hl [0, 1, 2, 3, 4, 5, 6, 7, 8] rfl)
                                            · have h := ite_p cc h
                                              refine lv_aload hx hb dL_closes_446 (lv_at hl 3 rfl) ?_
                                              refine lv_iload hx hb dL_closes_448 (lv_at hl 8 rfl) ?_
                                              obtain ⟨g176, h⟩ := gd_some h
                                              refine r_ald (f := F4_165) (n := 12) (v := (F4_165 ((v14_152).toNatClampNeg))) hx hb hK hP 1 0 rfl rfl (gIn_in g176) rfl dL_closes_450 ?_
                                              refine lv_aload hx hb dL_closes_451 (lv_at hl 3 rfl) ?_
                                              refine lv_iload hx hb dL_closes_453 (lv_at hl 7 rfl) ?_
                                              obtain ⟨g177, h⟩ := gd_some h
                                              refine r_ald (f := F4_165) (n := 12) (v := (F4_165 ((c13_136).toNatClampNeg))) hx hb hK hP 1 0 rfl rfl (gIn_in g177) rfl dL_closes_455 ?_
                                              refine lv_icmp_eq (tgt := 461) hx hb dL_closes_456 (by decide) (fun cc => ?_) (fun cc => ?_)
                                              · have h := ite_p cc h
                                                exact Jj173 S_164 F4_165 F5_166 (cu + 2) (su + 12) ⟨by omega, by omega⟩ H locs ls h hP hD hS (lv_sub hl [0, 1, 2, 3, 4, 5, 6, 7, 8] rfl)
                                              · have h := ite_n cc h
                                                exact hk144 S_164 F4_165 F5_166 (cu + 2) (su + 12) ⟨by omega, by omega⟩ H locs ls h hP hD hS (lv_sub hl [] rfl)
                                        refine lv_if_lt (tgt := 422) hx hb dL_closes_388 (by decide) (fun cc => ?_) (fun cc => ?_)
                                        · have h := ite_p cc h
                                          exact Jj167 S_159 F4_160 F5_161 cu su ⟨by omega, by omega⟩ H locs ls h hP hD hS (lv_sub hl [1, 2, 3, 4, 5, 6, 7, 8, 9] rfl)
                                        · have h := ite_n cc h
                                          refine lv_aload_n hx hb dL_closes_391 rfl (lv_at hl 1 rfl) ?_
                                          refine lv_iload hx hb dL_closes_392 (lv_at hl 8 rfl) ?_
                                          refine lv_iconst (v := (0 : Int32)) hx hb dL_closes_394 (by decide) ?_
                                          obtain ⟨x178, e179, h⟩ := bd_some h
                                          refine lcW (Re := [(q5, .inl (cy 0, 3, .inl F5_161)), (q4, .inl (cy 0, 12, .inl F4_160))]) (S := S_159) (rs := (x178, S_159)) (c2 := (cu + 1)) (s2 := (su + 6)) hG hGX hN hP hD hS hA (fun h1 h2 => vx_runSX (As := [.ref (a o), .int c13_136, .int (0 : Int32)]) (rest := []) ⟨hx, hb, hml, hown, hts⟩ (qL_entrant l hl9 D cy tt a o S_159 c13_136 (0 : Int32) (H).size x178 e179) (vx_cwSW 3 hts gL_closes_L_entrant rfl rfl rfl (by decide +kernel) ⟨Nat.le_of_ble_eq_true rfl, Nat.le_of_ble_eq_true rfl⟩) ⟨h1, h2⟩ rfl rfl hl.1 rfl (lv_room (Nat.le_of_ble_eq_true rfl)) dL_closes_395 ⟨show cu + 1 ≤ 1123 by omega, show su + 6 ≤ 13476 by omega⟩) rfl rfl (fun H locs hP hD hS => ?_)
                                          refine lv_iconst (v := (1 : Int32)) hx hb dL_closes_398 (by decide) ?_
                                          refine lv_icmp_ne (tgt := 422) hx hb dL_closes_399 (by decide) (fun cc => ?_) (fun cc => ?_)
                                          · have h := ite_n cc h
                                            exact Jj167 S_159 F4_160 F5_161 (cu + 1) (su + 6) ⟨by omega, by omega⟩ H locs ls h hP hD hS (lv_sub hl [1, 2, 3, 4, 5, 6, 7, 8, 9] rfl)
                                          · have h := ite_p cc h
                                            refine lv_iload hx hb dL_closes_402 (lv_at hl 0 rfl) ?_
                                            refine lv_if_eq (tgt := 422) hx hb dL_closes_404 (by decide) (fun cc => ?_) (fun cc => ?_)
                                            · have h := ite_p cc h
                                              exact Jj167 S_159 F4_160 F5_161 (cu + 1) (su + 6) ⟨by omega, by omega⟩ H locs ls h hP hD hS (lv_sub hl [1, 2, 3, 4, 5, 6, 7, 8, 9] rfl)
                                            · have h := ite_n cc h
                                              refine lv_aload hx hb dL_closes_407 (lv_at hl 4 rfl) ?_
                                              refine lv_iload hx hb dL_closes_409 (lv_at hl 9 rfl) ?_
                                              obtain ⟨g180, h⟩ := gd_some h
                                              refine r_ald (f := F4_160) (n := 12) (v := (F4_160 ((v14_152).toNatClampNeg))) hx hb hK hP 1 0 rfl rfl (gIn_in g180) rfl dL_closes_411 ?_
                                              refine lv_aload hx hb dL_closes_412 (lv_at hl 4 rfl) ?_
                                              refine lv_iload hx hb dL_closes_414 (lv_at hl 8 rfl) ?_
                                              obtain ⟨g181, h⟩ := gd_some h
                                              refine r_ald (f := F4_160) (n := 12) (v := (F4_160 ((c13_136).toNatClampNeg))) hx hb hK hP 1 0 rfl rfl (gIn_in g181) rfl dL_closes_416 ?_
                                              refine lv_icmp_le (tgt := 422) hx hb dL_closes_417 (by decide) (fun cc => ?_) (fun cc => ?_)
                                              · have h := ite_p cc h
                                                exact Jj167 S_159 F4_160 F5_161 (cu + 1) (su + 6) ⟨by omega, by omega⟩ H locs ls h hP hD hS (lv_sub hl [1, 2, 3, 4, 5, 6, 7, 8, 9] rfl)
                                              · have h := ite_n cc h
                                                exact hk140 S_159 F4_160 F5_161 (cu + 1) (su + 6) ⟨by omega, by omega⟩ H locs ls h hP hD hS (lv_sub hl [] rfl)
                                      obtain ⟨j185, hj185, h⟩ := jn_elim h
                                      have Jj185 : ∀ (S_182 : SX11) (F4_183 : Nat → Int32) (F5_184 : Nat → Int32) (cu su : Nat) (hcu : cu + (f338 * 6 + f307 * 80 + 8) ≤ 1123 ∧ su + 12 * (f338 * 6 + f307 * 80 + 8) ≤ 13476) (H : Heap) (locs : List Loc) (ls : Array Slot), j185 S_182 F4_183 F5_184 = some rs → va_P D vwCl ([(q5, .inl (cy 0, 3, .inl F5_184)), (q4, .inl (cy 0, 12, .inl F4_183))] ++ wX11 cy a o S_182) H → va_D (va_A (wX11 cy a o S) s.heap.size) ([(q5, .inl (cy 0, 3, .inl F5_184)), (q4, .inl (cy 0, 12, .inl F4_183))] ++ wX11 cy a o S_182) → va_S (va_A (wX11 cy a o S) s.heap.size) s.heap H locs → lv_has ls 16 [(0, .ref (a o)), (1, .int c1_131), (2, .int c2_132), (4, .ref q4), (8, .int c8_133), (9, .int c9_134), (12, .int c12_135), (13, .int c13_136), (14, .int v14_152)] → W p l e (headSpec wsL_closes ({ frames := 11, cells := 1123, slots := 13476, locals := 248 } : Room)).room s m ([.ref (a o)] : List Value).toArray below meth c H locs cu su (vx_MQ below (va_Qi (fun r (u : SX11) => (r, u) = rs) (fun u t => mB D s.heap.size (wX11 cy a o S) (wX11 cy a o u) t) (va_A (wX11 cy a o S) s.heap.size)) (fun _ _ _ => False) ([.ref (a o)] : List Value).toArray s 1123 13476 (va_A (wX11 cy a o S) s.heap.size)) (F0 m 380 ls []) := by
                                        intro S_182 F4_183 F5_184 cu su hcu H locs ls h hP hD hS hl
                                        rw [hj185] at h
                                        refine lv_iconst (v := (0 : Int32)) hx hb dL_closes_380 (by decide) ?_
                                        exact Jj162 (0 : Int32) S_182 F4_183 F5_184 cu su ⟨by omega, by omega⟩ H locs ls h hP hD hS (lv_sub hl [0, 1, 2, 3, 4, 5, 6, 7, 8] rfl)
                                      refine lv_if_lt (tgt := 380) hx hb dL_closes_363 (by decide) (fun cc => ?_) (fun cc => ?_)
                                      · have h := ite_p cc h
                                        exact Jj185 S_137 F4_138 F5_139 (cu + 2) (su + 12) ⟨by omega, by omega⟩ H locs ls h hP hD hS (lv_sub hl [0, 1, 2, 3, 4, 5, 6, 7, 8] rfl)
                                      · have h := ite_n cc h
                                        refine lv_aload_n hx hb dL_closes_366 rfl (lv_at hl 0 rfl) ?_
                                        refine lv_iload hx hb dL_closes_367 (lv_at hl 8 rfl) ?_
                                        refine lv_iconst (v := (0 : Int32)) hx hb dL_closes_369 (by decide) ?_
                                        obtain ⟨x186, e187, h⟩ := bd_some h
                                        refine lcW (Re := [(q5, .inl (cy 0, 3, .inl F5_139)), (q4, .inl (cy 0, 12, .inl F4_138))]) (S := S_137) (rs := (x186, S_137)) (c2 := (cu + 3)) (s2 := (su + 18)) hG hGX hN hP hD hS hA (fun h1 h2 => vx_runSX (As := [.ref (a o), .int v14_152, .int (0 : Int32)]) (rest := []) ⟨hx, hb, hml, hown, hts⟩ (qL_entrant l hl9 D cy tt a o S_137 v14_152 (0 : Int32) (H).size x186 e187) (vx_cwSW 3 hts gL_closes_L_entrant rfl rfl rfl (by decide +kernel) ⟨Nat.le_of_ble_eq_true rfl, Nat.le_of_ble_eq_true rfl⟩) ⟨h1, h2⟩ rfl rfl hl.1 rfl (lv_room (Nat.le_of_ble_eq_true rfl)) dL_closes_370 ⟨show (cu + 2) + 1 ≤ 1123 by omega, show (su + 12) + 6 ≤ 13476 by omega⟩) rfl rfl (fun H locs hP hD hS => ?_)
                                        refine lv_if_ne (tgt := 380) hx hb dL_closes_373 (by decide) (fun cc => ?_) (fun cc => ?_)
                                        · have h := ite_n cc h
                                          exact Jj185 S_137 F4_138 F5_139 (cu + 3) (su + 18) ⟨by omega, by omega⟩ H locs ls h hP hD hS (lv_sub hl [0, 1, 2, 3, 4, 5, 6, 7, 8] rfl)
                                        · have h := ite_p cc h
                                          refine lv_iconst (v := (1 : Int32)) hx hb dL_closes_376 (by decide) ?_
                                          refine lv_goto (tgt := 381) hx hb dL_closes_377 (by decide) ?_
                                          exact Jj162 (1 : Int32) S_137 F4_138 F5_139 (cu + 3) (su + 18) ⟨by omega, by omega⟩ H locs ls h hP hD hS (lv_sub hl [0, 1, 2, 3, 4, 5, 6, 7, 8] rfl)
                              exact L188 c1_85 c2_86 c8_87 c9_88 c12_89 v13_121 _ hk100 _ hk107 _ Jj130 13 (0 : Int32) S_90 F4_91 F5_92 (cu + 2) (su + 12) ⟨by omega, by omega⟩ H locs ls h hP hD hS (lv_sub hl [1, 2, 3, 4, 5, 6, 7, 8, 0] rfl)
                            · have h := ite_n cc h
                              exact hk93 S_90 F4_91 F5_92 (cu + 2) (su + 12) ⟨by omega, by omega⟩ H locs ls h hP hD hS (lv_sub hl [] rfl)
                      refine L189 x1 x3 x43 x45 x49.1 _ ?_ _ ?_ _ ?_ _ ?_ 13 (0 : Int32) x49.2 F4_40 F5_41 cu su ⟨by omega, by omega⟩ H locs ls h hP hD hS (lv_sub hl [1, 2, 3, 4, 5, 6, 7, 0] rfl)
                      · intro S_97 F4_98 F5_99 cu su hcu H locs ls h hP hD hS hl
                        refine lv_iconst (v := (0 : Int32)) hx hb dL_closes_333 (by decide) ?_
                        refine vx_ret (W.widen (k := 1123) (n := 13476) (by omega) (by omega) ?_)
                        exact W.zret (v := (0 : Int32)) hx hb hr rfl (fun t ht hW => ⟨⟨(0 : Int32), S_97, rfl, (some_in h), by rw [ht]; exact cutP hP (pmA [(q5, .inl (cy 0, 3, .inl F5_99)), (q4, .inl (cy 0, 12, .inl F4_98))] (wX11 cy a o S_97)), cutD hD (pmA [(q5, .inl (cy 0, 3, .inl F5_99)), (q4, .inl (cy 0, 12, .inl F4_98))] (wX11 cy a o S_97))⟩, hS.F ht⟩) hS.2.2 dL_closes_334
                      · intro S_104 F4_105 F5_106 cu su hcu H locs ls h hP hD hS hl
                        refine lv_iconst (v := (0 : Int32)) hx hb dL_closes_420 (by decide) ?_
                        refine vx_ret (W.widen (k := 1123) (n := 13476) (by omega) (by omega) ?_)
                        exact W.zret (v := (0 : Int32)) hx hb hr rfl (fun t ht hW => ⟨⟨(0 : Int32), S_104, rfl, (some_in h), by rw [ht]; exact cutP hP (pmA [(q5, .inl (cy 0, 3, .inl F5_106)), (q4, .inl (cy 0, 12, .inl F4_105))] (wX11 cy a o S_104)), cutD hD (pmA [(q5, .inl (cy 0, 3, .inl F5_106)), (q4, .inl (cy 0, 12, .inl F4_105))] (wX11 cy a o S_104))⟩, hS.F ht⟩) hS.2.2 dL_closes_421
                      · intro S_111 F4_112 F5_113 cu su hcu H locs ls h hP hD hS hl
                        refine lv_iconst (v := (0 : Int32)) hx hb dL_closes_459 (by decide) ?_
                        refine vx_ret (W.widen (k := 1123) (n := 13476) (by omega) (by omega) ?_)
                        exact W.zret (v := (0 : Int32)) hx hb hr rfl (fun t ht hW => ⟨⟨(0 : Int32), S_111, rfl, (some_in h), by rw [ht]; exact cutP hP (pmA [(q5, .inl (cy 0, 3, .inl F5_113)), (q4, .inl (cy 0, 12, .inl F4_112))] (wX11 cy a o S_111)), cutD hD (pmA [(q5, .inl (cy 0, 3, .inl F5_113)), (q4, .inl (cy 0, 12, .inl F4_112))] (wX11 cy a o S_111))⟩, hS.F ht⟩) hS.2.2 dL_closes_460
                      · intro S_118 F4_119 F5_120 cu su hcu H locs ls h hP hD hS hl
                        refine lv_goto (tgt := 510) hx hb dL_closes_473 (by decide) ?_
                        exact Jj58 S_118 F4_119 F5_120 cu su ⟨by omega, by omega⟩ H locs ls h hP hD hS (lv_sub hl [0, 1, 2, 3, 4] rfl)
                    refine lv_if_ne (tgt := 304) hx hb dL_closes_290 (by decide) (fun cc => ?_) (fun cc => ?_)
                    · have h := ite_n cc h
                      exact Jj84  cu su ⟨by omega, by omega⟩ ls h (lv_sub hl [0, 1, 2, 4, 7, 8, 10] rfl)
                    · have h := ite_p cc h
                      refine lv_aload hx hb dL_closes_293 (lv_at hl 5 rfl) ?_
                      refine lv_iconst (v := (0 : Int32)) hx hb dL_closes_295 (by decide) ?_
                      refine r_ald (f := F5_41) (n := 3) (v := (F5_41 0)) hx hb hK hP 0 0 rfl rfl (vp_in_nI (n := 0) (N := 3) (by decide) (by decide)) (congrArg F5_41 (nI_clamp (n := 0) (by decide))) dL_closes_296 ?_
                      refine lv_iload hx hb dL_closes_297 (lv_at hl 6 rfl) ?_
                      refine lv_icmp_le (tgt := 304) hx hb dL_closes_299 (by decide) (fun cc => ?_) (fun cc => ?_)
                      · have h := ite_p cc h
                        exact Jj84  cu su ⟨by omega, by omega⟩ ls h (lv_sub hl [0, 1, 2, 4, 7, 8, 10] rfl)
                      · have h := ite_n cc h
                        exact Jj83  cu su ⟨by omega, by omega⟩ ls h (lv_sub hl [] rfl)
              · have h := ite_p cc h
                refine lv_aload_n hx hb dL_closes_247 rfl (lv_at hl 0 rfl) ?_
                obtain ⟨x190, e191, h⟩ := bd_some h
                refine pcVl (As := []) (rest := []) (q0 := 0) (ci := 11) (qX11_checksum l D cy a o x49.2  x190 e191) ⟨hx, hb, hml, hown, hts⟩ (cwV 0 hts gL_closes_X11_checksum rfl rfl rfl (by decide +kernel) ⟨Nat.le_of_ble_eq_true rfl, Nat.le_of_ble_eq_true rfl⟩) hG (cutP hP (pmA [(q5, .inl (cy 0, 3, .inl F5_41)), (q4, .inl (cy 0, 12, .inl F4_40))] (wX11 cy a o x49.2))) rfl rfl rfl hl.1 rfl (Nat.le_of_ble_eq_true rfl) dL_closes_248 ⟨show cu ≤ 1123 by omega, show su ≤ 13476 by omega⟩ ?_
                refine lv_lload hx hb dL_closes_251 (lv_at hl 9 rfl) ?_
                refine W.lcmp hx hb dL_closes_253 ?_
                obtain ⟨j193, hj193, h⟩ := jn_elim h
                have Jj193 : ∀ (x192 : Int32) (cu su : Nat) (hcu : cu + (0) ≤ 1123 ∧ su + 12 * (0) ≤ 13476) (ls : Array Slot), j193 x192 = some rs → lv_has ls 16 [] → W p l e (headSpec wsL_closes ({ frames := 11, cells := 1123, slots := 13476, locals := 248 } : Room)).room s m ([.ref (a o)] : List Value).toArray below meth c H locs cu su (vx_MQ below (va_Qi (fun r (u : SX11) => (r, u) = rs) (fun u t => mB D s.heap.size (wX11 cy a o S) (wX11 cy a o u) t) (va_A (wX11 cy a o S) s.heap.size)) (fun _ _ _ => False) ([.ref (a o)] : List Value).toArray s 1123 13476 (va_A (wX11 cy a o S) s.heap.size)) (F0 m 262 ls [.int x192]) := by
                  intro x192 cu su hcu ls h hl
                  rw [hj193] at h
                  obtain ⟨g194, h⟩ := gd_some h
                  refine vx_ret (W.widen (k := 1123) (n := 13476) (by omega) (by omega) ?_)
                  exact W.zret (v := x192) hx hb hr (zN g194) (fun t ht hW => ⟨⟨x192, x49.2, rfl, (some_in h), by rw [ht]; exact cutP hP (pmA [(q5, .inl (cy 0, 3, .inl F5_41)), (q4, .inl (cy 0, 12, .inl F4_40))] (wX11 cy a o x49.2)), cutD hD (pmA [(q5, .inl (cy 0, 3, .inl F5_41)), (q4, .inl (cy 0, 12, .inl F4_40))] (wX11 cy a o x49.2))⟩, hS.F ht⟩) hS.2.2 dL_closes_262
                refine lv_if_ne (tgt := 261) hx hb dL_closes_254 (by decide) (fun cc => ?_) (fun cc => ?_)
                · have h := ite_n (fun q => cc ((lg_cmp_eq _ _).mpr q)) h
                  refine lv_iconst (v := (0 : Int32)) hx hb dL_closes_261 (by decide) ?_
                  exact Jj193 (0 : Int32) cu su ⟨by omega, by omega⟩ ls h (lv_sub hl [] rfl)
                · have h := ite_p ((lg_cmp_eq _ _).mp cc) h
                  refine lv_iconst (v := (1 : Int32)) hx hb dL_closes_257 (by decide) ?_
                  refine lv_goto (tgt := 262) hx hb dL_closes_258 (by decide) ?_
                  exact Jj193 (1 : Int32) cu su ⟨by omega, by omega⟩ ls h (lv_sub hl [] rfl)
            · have h := ite_n cc h
              exact Jj51  cu su ⟨by omega, by omega⟩ ls h (lv_sub hl [] rfl)
          refine lv_if_lt (tgt := 233) hx hb dL_closes_226 (by decide) (fun cc => ?_) (fun cc => ?_)
          · have h := ite_p cc h
            refine lv_iconst (v := (0 : Int32)) hx hb dL_closes_233 (by decide) ?_
            exact Jj54 (0 : Int32) cu su ⟨by omega, by omega⟩ ls h (lv_sub hl [0, 1, 2, 3, 4, 5, 7, 8, 9, 10, 11] rfl)
          · have h := ite_n cc h
            refine lv_iconst (v := (1 : Int32)) hx hb dL_closes_229 (by decide) ?_
            refine lv_goto (tgt := 234) hx hb dL_closes_230 (by decide) ?_
            exact Jj54 (1 : Int32) cu su ⟨by omega, by omega⟩ ls h (lv_sub hl [0, 1, 2, 3, 4, 5, 7, 8, 9, 10, 11] rfl)
        refine lv_icmp_ne (tgt := 220) hx hb dL_closes_199 (by decide) (fun cc => ?_) (fun cc => ?_)
        · have h := ite_n cc h
          exact Jj52  (cu + 3) (su + 18) ⟨by omega, by omega⟩ ls h (lv_sub hl [5, 6, 7, 8, 9, 10, 11, 4, 3, 2, 1, 0] rfl)
        · have h := ite_p cc h
          refine lv_iload hx hb dL_closes_202 (lv_at hl 11 rfl) ?_
          refine lv_iload hx hb dL_closes_204 (lv_at hl 0 rfl) ?_
          refine lv_sipush (v := (-902 : Int32)) hx hb dL_closes_206 (by decide) ?_
          obtain ⟨j196, hj196, h⟩ := jn_elim h
          have Jj196 : ∀ (x195 : Int32) (cu su : Nat) (hcu : cu + (1045) ≤ 1123 ∧ su + 12 * (1045) ≤ 13476) (ls : Array Slot), j196 x195 = some rs → lv_has ls 16 [(0, .ref (a o)), (1, .int x1), (2, .int x3), (3, .int x5), (4, .ref q4), (5, .ref q5), (6, .int v6_34), (7, .int x38), (8, .int x43), (9, .int x45), (10, .long x47), (12, .int x49.1)] → W p l e (headSpec wsL_closes ({ frames := 11, cells := 1123, slots := 13476, locals := 248 } : Room)).room s m ([.ref (a o)] : List Value).toArray below meth c H locs cu su (vx_MQ below (va_Qi (fun r (u : SX11) => (r, u) = rs) (fun u t => mB D s.heap.size (wX11 cy a o S) (wX11 cy a o u) t) (va_A (wX11 cy a o S) s.heap.size)) (fun _ _ _ => False) ([.ref (a o)] : List Value).toArray s 1123 13476 (va_A (wX11 cy a o S) s.heap.size)) (F0 m 217 ls [.int x195, .int v6_34]) := by
            intro x195 cu su hcu ls h hl
            rw [hj196] at h
            refine lv_icmp_ne (tgt := 237) hx hb dL_closes_217 (by decide) (fun cc => ?_) (fun cc => ?_)
            · have h := ite_n cc h
              exact Jj51  cu su ⟨by omega, by omega⟩ ls h (lv_sub hl [] rfl)
            · have h := ite_p cc h
              exact Jj52  cu su ⟨by omega, by omega⟩ ls h (lv_sub hl [0, 1, 2, 3, 4, 5, 6, 7, 8, 9, 10, 11] rfl)
          refine lv_icmp_eq (tgt := 216) hx hb dL_closes_209 (by decide) (fun cc => ?_) (fun cc => ?_)
          · have h := ite_p cc h
            refine lv_iconst (v := (0 : Int32)) hx hb dL_closes_216 (by decide) ?_
            exact Jj196 (0 : Int32) (cu + 3) (su + 18) ⟨by omega, by omega⟩ ls h (lv_sub hl [5, 6, 7, 8, 9, 10, 11, 4, 3, 2, 1, 0] rfl)
          · have h := ite_n cc h
            refine lv_iconst (v := (1 : Int32)) hx hb dL_closes_212 (by decide) ?_
            refine lv_goto (tgt := 217) hx hb dL_closes_213 (by decide) ?_
            exact Jj196 (1 : Int32) (cu + 3) (su + 18) ⟨by omega, by omega⟩ ls h (lv_sub hl [5, 6, 7, 8, 9, 10, 11, 4, 3, 2, 1, 0] rfl)
      refine lv_icmp_ne (tgt := 161) hx hb dL_closes_149 (by decide) (fun cc => ?_) (fun cc => ?_)
      · have h := ite_n cc h
        refine lv_aload_n hx hb dL_closes_161 rfl (lv_at hl 0 rfl) ?_
        refine lv_bipush (v := (11 : Int32)) hx hb dL_closes_162 (by decide) ?_
        obtain ⟨x197, e198, h⟩ := bd_some h
        refine lcW (Re := [(q5, .inl (cy 0, 3, .inl F5_37)), (q4, .inl (cy 0, 12, .inl F4_36))]) (S := S_35) (rs := (x197, S_35)) (c2 := (cu + 1)) (s2 := (su + 6)) hG hGX hN hP hD hS hA (fun h1 h2 => vx_runSX (As := [.ref (a o), .int (11 : Int32)]) (rest := []) ⟨hx, hb, hml, hown, hts⟩ (qL_info l hl9 D cy tt a o S_35 (11 : Int32) (H).size x197 e198) (vx_cwSW 2 hts gL_closes_L_info rfl rfl rfl (by decide +kernel) ⟨Nat.le_of_ble_eq_true rfl, Nat.le_of_ble_eq_true rfl⟩) ⟨h1, h2⟩ rfl rfl hl.1 rfl (lv_room (Nat.le_of_ble_eq_true rfl)) dL_closes_164 ⟨show cu + 1 ≤ 1123 by omega, show su + 6 ≤ 13476 by omega⟩) rfl rfl (fun H locs hP hD hS => ?_)
        exact Jj42 x197 S_35 F4_36 F5_37 (cu + 1) (su + 6) ⟨by omega, by omega⟩ H locs ls h hP hD hS (lv_sub hl [0, 1, 2, 3, 4, 5, 6] rfl)
      · have h := ite_p cc h
        refine lv_aload_n hx hb dL_closes_152 rfl (lv_at hl 0 rfl) ?_
        refine lv_iload_n hx hb dL_closes_153 rfl (lv_at hl 2 rfl) ?_
        refine lv_iconst (v := (5 : Int32)) hx hb dL_closes_154 (by decide) ?_
        obtain ⟨x199, e200, h⟩ := bd_some h
        refine lcW (Re := [(q5, .inl (cy 0, 3, .inl F5_37)), (q4, .inl (cy 0, 12, .inl F4_36))]) (S := S_35) (rs := (x199, S_35)) (c2 := (cu + 1)) (s2 := (su + 6)) hG hGX hN hP hD hS hA (fun h1 h2 => vx_runSX (As := [.ref (a o), .int x3, .int (5 : Int32)]) (rest := []) ⟨hx, hb, hml, hown, hts⟩ (qL_rule l hl9 D cy tt a o S_35 x3 (5 : Int32) (H).size x199 e200) (vx_cwSW 3 hts gL_closes_L_rule rfl rfl rfl (by decide +kernel) ⟨Nat.le_of_ble_eq_true rfl, Nat.le_of_ble_eq_true rfl⟩) ⟨h1, h2⟩ rfl rfl hl.1 rfl (lv_room (Nat.le_of_ble_eq_true rfl)) dL_closes_155 ⟨show cu + 1 ≤ 1123 by omega, show su + 6 ≤ 13476 by omega⟩) rfl rfl (fun H locs hP hD hS => ?_)
        refine lv_goto (tgt := 167) hx hb dL_closes_158 (by decide) ?_
        exact Jj42 x199 S_35 F4_36 F5_37 (cu + 1) (su + 6) ⟨by omega, by omega⟩ H locs ls h hP hD hS (lv_sub hl [0, 1, 2, 3, 4, 5, 6] rfl)
    refine lv_icmp_ne (tgt := 39) hx hb dL_closes_32 (by decide) (fun cc => ?_) (fun cc => ?_)
    · have h := ite_n cc h
      refine lv_iconst (v := (0 : Int32)) hx hb dL_closes_39 (by decide) ?_
      exact Jj8 (0 : Int32) (cu + 5) (su + 33) ⟨by omega, by omega⟩ ls h (lv_sub hl [5, 4, 3, 2, 1, 0] rfl)
    · have h := ite_p cc h
      refine lv_iconst (v := (1 : Int32)) hx hb dL_closes_35 (by decide) ?_
      refine lv_goto (tgt := 40) hx hb dL_closes_36 (by decide) ?_
      exact Jj8 (1 : Int32) (cu + 5) (su + 33) ⟨by omega, by omega⟩ ls h (lv_sub hl [5, 4, 3, 2, 1, 0] rfl)
  exact start 0 0 ⟨by omega, by omega⟩
