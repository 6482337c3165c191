set_option maxHeartbeats 8000000 in
set_option maxRecDepth 100000 in
theorem qL_flaws (l : Launch) (hl9 : l.stackTraces = false) (D : va_G) (cy : Nat → ClassId) (tt : Nat → Nat) (a : Nat → Nat) (o : Nat) (S : SX11) (sz : Nat) (rs : Int32) (h : DL_flaws S = some rs) : vx_Met l yL_flaws wsL_flaws ({ frames := 11, cells := 10868, slots := 130416, locals := 210 } : Room) (lP D cy tt sz [.ref (a o)] (wX11 cy a o S)) (va_Qi (fun r (u : SX11) => (r, u) = (rs, S)) (fun u t => mB D sz (wX11 cy a o S) (wX11 cy a o u) t) (va_A (wX11 cy a o S) sz)) (fun _ _ _ => False) 10868 130416 (va_A (wX11 cy a o S) sz) := by
  refine vx_ofW (cc := cL_flaws) (maxL := 12) (ret := (some .boolean)) (by decide) rfl ?_
  intro p e s m args below meth c s₁ B hml htab hv
  obtain ⟨rfl, hsz, hP, hG, hD0, hGX, hN⟩ := hv
  have hx := B.exec
  have hb := B.bytes
  have hr := B.returns
  have hts := atoms_spec (ws := wsL_flaws) B.pre
  have hown : s.vm.findClass RL = some m.cls := findClass_of_methodNamed B.named
  have hlocks := B.notSynchronized
  have hK := hG.1
  subst hsz
  have hD := hD0.self (sz := s.heap.size)
  have hA : ∀ q : Nat, s.heap.size ≤ q → (va_A (wX11 cy a o S) s.heap.size) q := fun q h => Or.inr h
  have hS : va_S (va_A (wX11 cy a o S) s.heap.size) s.heap s.heap [] := va_S.rf
  have hl := lv_entry ([.ref (a o)]) (n := 12) (Nat.le_of_ble_eq_true rfl)
  rw [lg_entry_eq]
  generalize (lg_sl ([.ref (a o)]) ++ List.replicate (12 - (lg_sl ([.ref (a o)])).length) Slot.unset).toArray = ls at hl ⊢
  have hl : lv_has ls 12 [(0, .ref (a o))] := hl
  rw [DL_flaws] at h
  have start : ∀ (cu su : Nat) (hcu : cu + (10868) ≤ 10868 ∧ su + 12 * (10868) ≤ 130416), W p l e (headSpec wsL_flaws ({ frames := 11, cells := 10868, slots := 130416, locals := 210 } : Room)).room s m ([.ref (a o)] : List Value).toArray below meth c s.heap [] cu su (vx_MQ below (va_Qi (fun r (u : SX11) => (r, u) = (rs, S)) (fun u t => mB D s.heap.size (wX11 cy a o S) (wX11 cy a o u) t) (va_A (wX11 cy a o S) s.heap.size)) (fun _ _ _ => False) ([.ref (a o)] : List Value).toArray s 10868 130416 (va_A (wX11 cy a o S) s.heap.size)) (F0 m 0 ls []) := by
    intro cu su hcu
    refine lv_iconst (v := (0 : Int32)) hx hb dL_flaws_0 (by decide) ?_
    refine lv_istore_n (lv' := [(1, .int (0 : Int32)), (0, .ref (a o))]) hx hb dL_flaws_1 rfl hl (by decide) rfl (fun ls hl => ?_)
    obtain ⟨j1, hj1, h⟩ := jn_elim h
    have Jj1 : ∀ (cu su : Nat) (hcu : cu + (0) ≤ 10868 ∧ su + 12 * (0) ≤ 130416) (H : Heap) (locs : List Loc) (ls : Array Slot), j1 () = some rs → va_P D vwCl (wX11 cy a o S) H → va_D (va_A (wX11 cy a o S) s.heap.size) (wX11 cy a o S) → va_S (va_A (wX11 cy a o S) s.heap.size) s.heap H locs → lv_has ls 12 [] → W p l e (headSpec wsL_flaws ({ frames := 11, cells := 10868, slots := 130416, locals := 210 } : Room)).room s m ([.ref (a o)] : List Value).toArray below meth c H locs cu su (vx_MQ below (va_Qi (fun r (u : SX11) => (r, u) = (rs, S)) (fun u t => mB D s.heap.size (wX11 cy a o S) (wX11 cy a o u) t) (va_A (wX11 cy a o S) s.heap.size)) (fun _ _ _ => False) ([.ref (a o)] : List Value).toArray s 10868 130416 (va_A (wX11 cy a o S) s.heap.size)) (F0 m 354 ls []) := by
      intro cu su hcu H locs ls h hP hD hS hl
      rw [hj1] at h
      refine lv_iconst (v := (0 : Int32)) hx hb dL_flaws_354 (by decide) ?_
      refine vx_ret (W.widen (k := 10868) (n := 130416) (by omega) (by omega) ?_)
      exact W.zret (v := (0 : Int32)) hx hb hr rfl (fun t ht hW => ⟨⟨(0 : Int32), S, rfl, (congrArg (fun z => (z, S)) (some_in h)), by rw [ht]; exact cutP hP (pmA [] (wX11 cy a o S)), cutD hD (pmA [] (wX11 cy a o S))⟩, hS.F ht⟩) hS.2.2 dL_flaws_355
    have L106 : ∀ (k2 : Unit → Option (Int32)) (hk2 : ∀ (cu su : Nat) (hcu : cu + (0) ≤ 10868 ∧ su + 12 * (0) ≤ 130416) (H : Heap) (locs : List Loc) (ls : Array Slot), k2 () = some rs → va_P D vwCl (wX11 cy a o S) H → va_D (va_A (wX11 cy a o S) s.heap.size) (wX11 cy a o S) → va_S (va_A (wX11 cy a o S) s.heap.size) s.heap H locs → lv_has ls 12 [] → W p l e (headSpec wsL_flaws ({ frames := 11, cells := 10868, slots := 130416, locals := 210 } : Room)).room s m ([.ref (a o)] : List Value).toArray below meth c H locs cu su (vx_MQ below (va_Qi (fun r (u : SX11) => (r, u) = (rs, S)) (fun u t => mB D s.heap.size (wX11 cy a o S) (wX11 cy a o u) t) (va_A (wX11 cy a o S) s.heap.size)) (fun _ _ _ => False) ([.ref (a o)] : List Value).toArray s 10868 130416 (va_A (wX11 cy a o S) s.heap.size)) (F0 m 354 ls [])) (k3 : Unit → Option (Int32)) (hk3 : ∀ (cu su : Nat) (hcu : cu + (0) ≤ 10868 ∧ su + 12 * (0) ≤ 130416) (H : Heap) (locs : List Loc) (ls : Array Slot), k3 () = some rs → va_P D vwCl (wX11 cy a o S) H → va_D (va_A (wX11 cy a o S) s.heap.size) (wX11 cy a o S) → va_S (va_A (wX11 cy a o S) s.heap.size) s.heap H locs → lv_has ls 12 [] → W p l e (headSpec wsL_flaws ({ frames := 11, cells := 10868, slots := 130416, locals := 210 } : Room)).room s m ([.ref (a o)] : List Value).toArray below meth c H locs cu su (vx_MQ below (va_Qi (fun r (u : SX11) => (r, u) = (rs, S)) (fun u t => mB D s.heap.size (wX11 cy a o S) (wX11 cy a o u) t) (va_A (wX11 cy a o S) s.heap.size)) (fun _ _ _ => False) ([.ref (a o)] : List Value).toArray s 10868 130416 (va_A (wX11 cy a o S) s.heap.size)) (F0 m 368 ls [])) (f2 : Nat) (v1_4 : Int32) (cu su : Nat) (hcu : cu + (f2 * 836 + 0) ≤ 10868 ∧ su + 12 * (f2 * 836 + 0) ≤ 130416) (H : Heap) (locs : List Loc) (ls : Array Slot), DL_flaws_L2 S k2 k3 f2 v1_4 = some rs → va_P D vwCl (wX11 cy a o S) H → va_D (va_A (wX11 cy a o S) s.heap.size) (wX11 cy a o S) → va_S (va_A (wX11 cy a o S) s.heap.size) s.heap H locs → lv_has ls 12 [(0, .ref (a o)), (1, .int v1_4)] → W p l e (headSpec wsL_flaws ({ frames := 11, cells := 10868, slots := 130416, locals := 210 } : Room)).room s m ([.ref (a o)] : List Value).toArray below meth c H locs cu su (vx_MQ below (va_Qi (fun r (u : SX11) => (r, u) = (rs, S)) (fun u t => mB D s.heap.size (wX11 cy a o S) (wX11 cy a o u) t) (va_A (wX11 cy a o S) s.heap.size)) (fun _ _ _ => False) ([.ref (a o)] : List Value).toArray s 10868 130416 (va_A (wX11 cy a o S) s.heap.size)) (F0 m 2 ls []) := by
      intro k2 hk2 k3 hk3 f2
      induction f2 with
      | zero =>
        intro v1_4 cu su hcu H locs ls h hP hD hS hl
        rw [DL_flaws_L2] at h
        cases h
      | succ f2 ih2 =>
        intro v1_4 cu su hcu H locs ls h hP hD hS hl
        rw [DL_flaws_L2] at h
        refine lv_iload_n hx hb dL_flaws_2 rfl (lv_at hl 1 rfl) ?_
        refine lv_aload_n hx hb dL_flaws_3 rfl (lv_at hl 0 rfl) ?_
        refine lv_bipush (v := (6 : Int32)) hx hb dL_flaws_4 (by decide) ?_
        obtain ⟨x5, e6, h⟩ := bd_some h
        refine lcW (Re := []) (S := S) (rs := (x5, S)) (c2 := (cu + 1)) (s2 := (su + 6)) hG hGX hN hP hD hS hA (fun h1 h2 => vx_runSX (As := [.ref (a o), .int (6 : Int32)]) (rest := [.int v1_4]) ⟨hx, hb, hml, hown, hts⟩ (qL_info l hl9 D cy tt a o S (6 : Int32) (H).size x5 e6) (vx_cwSW 2 hts gL_flaws_L_info rfl rfl rfl (by decide +kernel) ⟨Nat.le_of_ble_eq_true rfl, Nat.le_of_ble_eq_true rfl⟩) ⟨h1, h2⟩ rfl rfl hl.1 rfl (lv_room (Nat.le_of_ble_eq_true rfl)) dL_flaws_6 ⟨show cu + 1 ≤ 10868 by omega, show su + 6 ≤ 130416 by omega⟩) rfl rfl (fun H locs hP hD hS => ?_)
        refine lv_icmp_ge (tgt := 368) hx hb dL_flaws_9 (by decide) (fun cc => ?_) (fun cc => ?_)
        · have h := ite_p cc h
          exact hk3  (cu + 1) (su + 6) ⟨by omega, by omega⟩ H locs ls h hP hD hS (lv_sub hl [] rfl)
        · have h := ite_n cc h
          refine lv_iconst (v := (0 : Int32)) hx hb dL_flaws_12 (by decide) ?_
          refine lv_istore_n (lv' := [(2, .int (0 : Int32)), (0, .ref (a o)), (1, .int v1_4)]) hx hb dL_flaws_13 rfl hl (by decide) rfl (fun ls hl => ?_)
          have L105 : ∀ (c1_7 : Int32) (k8 : Unit → Option (Int32)) (hk8 : ∀ (cu su : Nat) (hcu : cu + (0) ≤ 10868 ∧ su + 12 * (0) ≤ 130416) (H : Heap) (locs : List Loc) (ls : Array Slot), k8 () = some rs → va_P D vwCl (wX11 cy a o S) H → va_D (va_A (wX11 cy a o S) s.heap.size) (wX11 cy a o S) → va_S (va_A (wX11 cy a o S) s.heap.size) s.heap H locs → lv_has ls 12 [] → W p l e (headSpec wsL_flaws ({ frames := 11, cells := 10868, slots := 130416, locals := 210 } : Room)).room s m ([.ref (a o)] : List Value).toArray below meth c H locs cu su (vx_MQ below (va_Qi (fun r (u : SX11) => (r, u) = (rs, S)) (fun u t => mB D s.heap.size (wX11 cy a o S) (wX11 cy a o u) t) (va_A (wX11 cy a o S) s.heap.size)) (fun _ _ _ => False) ([.ref (a o)] : List Value).toArray s 10868 130416 (va_A (wX11 cy a o S) s.heap.size)) (F0 m 354 ls [])) (k9 : Unit → Option (Int32)) (hk9 : ∀ (cu su : Nat) (hcu : cu + (f2 * 836 + 0) ≤ 10868 ∧ su + 12 * (f2 * 836 + 0) ≤ 130416) (H : Heap) (locs : List Loc) (ls : Array Slot), k9 () = some rs → va_P D vwCl (wX11 cy a o S) H → va_D (va_A (wX11 cy a o S) s.heap.size) (wX11 cy a o S) → va_S (va_A (wX11 cy a o S) s.heap.size) s.heap H locs → lv_has ls 12 [(0, .ref (a o)), (1, .int c1_7)] → W p l e (headSpec wsL_flaws ({ frames := 11, cells := 10868, slots := 130416, locals := 210 } : Room)).room s m ([.ref (a o)] : List Value).toArray below meth c H locs cu su (vx_MQ below (va_Qi (fun r (u : SX11) => (r, u) = (rs, S)) (fun u t => mB D s.heap.size (wX11 cy a o S) (wX11 cy a o u) t) (va_A (wX11 cy a o S) s.heap.size)) (fun _ _ _ => False) ([.ref (a o)] : List Value).toArray s 10868 130416 (va_A (wX11 cy a o S) s.heap.size)) (F0 m 362 ls [])) (f14 : Nat) (v2_10 : Int32) (cu su : Nat) (hcu : cu + (f14 * 167 + f2 * 836 + 0) ≤ 10868 ∧ su + 12 * (f14 * 167 + f2 * 836 + 0) ≤ 130416) (H : Heap) (locs : List Loc) (ls : Array Slot), DL_flaws_L14 S c1_7 k8 k9 f14 v2_10 = some rs → va_P D vwCl (wX11 cy a o S) H → va_D (va_A (wX11 cy a o S) s.heap.size) (wX11 cy a o S) → va_S (va_A (wX11 cy a o S) s.heap.size) s.heap H locs → lv_has ls 12 [(0, .ref (a o)), (1, .int c1_7), (2, .int v2_10)] → W p l e (headSpec wsL_flaws ({ frames := 11, cells := 10868, slots := 130416, locals := 210 } : Room)).room s m ([.ref (a o)] : List Value).toArray below meth c H locs cu su (vx_MQ below (va_Qi (fun r (u : SX11) => (r, u) = (rs, S)) (fun u t => mB D s.heap.size (wX11 cy a o S) (wX11 cy a o u) t) (va_A (wX11 cy a o S) s.heap.size)) (fun _ _ _ => False) ([.ref (a o)] : List Value).toArray s 10868 130416 (va_A (wX11 cy a o S) s.heap.size)) (F0 m 14 ls []) := by
            intro c1_7 k8 hk8 k9 hk9 f14
            induction f14 with
            | zero =>
              intro v2_10 cu su hcu H locs ls h hP hD hS hl
              rw [DL_flaws_L14] at h
              cases h
            | succ f14 ih14 =>
              intro v2_10 cu su hcu H locs ls h hP hD hS hl
              rw [DL_flaws_L14] at h
              refine lv_iload_n hx hb dL_flaws_14 rfl (lv_at hl 2 rfl) ?_
              refine lv_iconst (v := (4 : Int32)) hx hb dL_flaws_15 (by decide) ?_
              refine lv_icmp_ge (tgt := 362) hx hb dL_flaws_16 (by decide) (fun cc => ?_) (fun cc => ?_)
              · have h := ite_p cc h
                exact hk9  cu su ⟨by omega, by omega⟩ H locs ls h hP hD hS (lv_sub hl [0, 1] rfl)
              · have h := ite_n cc h
                refine lv_iconst (v := (0 : Int32)) hx hb dL_flaws_19 (by decide) ?_
                refine lv_istore_n (lv' := [(3, .int (0 : Int32)), (0, .ref (a o)), (1, .int c1_7), (2, .int v2_10)]) hx hb dL_flaws_20 rfl hl (by decide) rfl (fun ls hl => ?_)
                refine lv_iconst (v := (0 : Int32)) hx hb dL_flaws_21 (by decide) ?_
                refine lv_istore (lv' := [(4, .int (0 : Int32)), (3, .int (0 : Int32)), (0, .ref (a o)), (1, .int c1_7), (2, .int v2_10)]) hx hb dL_flaws_22 hl (by decide) rfl (fun ls hl => ?_)
                refine lv_iconst (v := (0 : Int32)) hx hb dL_flaws_24 (by decide) ?_
                refine lv_istore (lv' := [(5, .int (0 : Int32)), (4, .int (0 : Int32)), (3, .int (0 : Int32)), (0, .ref (a o)), (1, .int c1_7), (2, .int v2_10)]) hx hb dL_flaws_25 hl (by decide) rfl (fun ls hl => ?_)
                refine lv_iconst (v := (0 : Int32)) hx hb dL_flaws_27 (by decide) ?_
                refine lv_istore (lv' := [(6, .int (0 : Int32)), (5, .int (0 : Int32)), (4, .int (0 : Int32)), (3, .int (0 : Int32)), (0, .ref (a o)), (1, .int c1_7), (2, .int v2_10)]) hx hb dL_flaws_28 hl (by decide) rfl (fun ls hl => ?_)
                refine lv_iconst (v := (0 : Int32)) hx hb dL_flaws_30 (by decide) ?_
                refine lv_istore (lv' := [(7, .int (0 : Int32)), (6, .int (0 : Int32)), (5, .int (0 : Int32)), (4, .int (0 : Int32)), (3, .int (0 : Int32)), (0, .ref (a o)), (1, .int c1_7), (2, .int v2_10)]) hx hb dL_flaws_31 hl (by decide) rfl (fun ls hl => ?_)
                have L104 : ∀ (c1_11 : Int32) (c2_12 : Int32) (k13 : Int32 → Int32 → Int32 → Int32 → Int32 → Option (Int32)) (hk13 : ∀ (v3_14 : Int32) (v4_15 : Int32) (v5_16 : Int32) (v6_17 : Int32) (v7_18 : Int32) (cu su : Nat) (hcu : cu + (f14 * 167 + f2 * 836 + 7) ≤ 10868 ∧ su + 12 * (f14 * 167 + f2 * 836 + 7) ≤ 130416) (H : Heap) (locs : List Loc) (ls : Array Slot), k13 v3_14 v4_15 v5_16 v6_17 v7_18 = some rs → va_P D vwCl (wX11 cy a o S) H → va_D (va_A (wX11 cy a o S) s.heap.size) (wX11 cy a o S) → va_S (va_A (wX11 cy a o S) s.heap.size) s.heap H locs → lv_has ls 12 [(0, .ref (a o)), (1, .int c1_11), (2, .int c2_12), (3, .int v3_14), (4, .int v4_15), (5, .int v5_16), (6, .int v6_17), (7, .int v7_18)] → W p l e (headSpec wsL_flaws ({ frames := 11, cells := 10868, slots := 130416, locals := 210 } : Room)).room s m ([.ref (a o)] : List Value).toArray below meth c H locs cu su (vx_MQ below (va_Qi (fun r (u : SX11) => (r, u) = (rs, S)) (fun u t => mB D s.heap.size (wX11 cy a o S) (wX11 cy a o u) t) (va_A (wX11 cy a o S) s.heap.size)) (fun _ _ _ => False) ([.ref (a o)] : List Value).toArray s 10868 130416 (va_A (wX11 cy a o S) s.heap.size)) (F0 m 207 ls [])) (f33 : Nat) (v3_48 : Int32) (v4_49 : Int32) (v5_50 : Int32) (v6_51 : Int32) (v7_52 : Int32) (cu su : Nat) (hcu : cu + (f33 * 32 + f14 * 167 + f2 * 836 + 7) ≤ 10868 ∧ su + 12 * (f33 * 32 + f14 * 167 + f2 * 836 + 7) ≤ 130416) (H : Heap) (locs : List Loc) (ls : Array Slot), DL_flaws_L33 S c1_11 c2_12 k13 f33 v3_48 v4_49 v5_50 v6_51 v7_52 = some rs → va_P D vwCl (wX11 cy a o S) H → va_D (va_A (wX11 cy a o S) s.heap.size) (wX11 cy a o S) → va_S (va_A (wX11 cy a o S) s.heap.size) s.heap H locs → lv_has ls 12 [(0, .ref (a o)), (1, .int c1_11), (2, .int c2_12), (3, .int v3_48), (4, .int v4_49), (5, .int v5_50), (6, .int v6_51), (7, .int v7_52)] → W p l e (headSpec wsL_flaws ({ frames := 11, cells := 10868, slots := 130416, locals := 210 } : Room)).room s m ([.ref (a o)] : List Value).toArray below meth c H locs cu su (vx_MQ below (va_Qi (fun r (u : SX11) => (r, u) = (rs, S)) (fun u t => mB D s.heap.size (wX11 cy a o S) (wX11 cy a o u) t) (va_A (wX11 cy a o S) s.heap.size)) (fun _ _ _ => False) ([.ref (a o)] : List Value).toArray s 10868 130416 (va_A (wX11 cy a o S) s.heap.size)) (F0 m 33 ls []) := by
                  intro c1_11 c2_12 k13 hk13 f33
                  induction f33 with
                  | zero =>
                    intro v3_48 v4_49 v5_50 v6_51 v7_52 cu su hcu H locs ls h hP hD hS hl
                    rw [DL_flaws_L33] at h
                    cases h
                  | succ f33 ih33 =>
                    intro v3_48 v4_49 v5_50 v6_51 v7_52 cu su hcu H locs ls h hP hD hS hl
                    rw [DL_flaws_L33] at h
                    refine lv_aload_n hx hb dL_flaws_33 rfl (lv_at hl 0 rfl) ?_
                    refine lv_iload_n hx hb dL_flaws_34 rfl (lv_at hl 1 rfl) ?_
                    refine lv_iload_n hx hb dL_flaws_35 rfl (lv_at hl 2 rfl) ?_
                    refine lv_iload hx hb dL_flaws_36 (lv_at hl 5 rfl) ?_
                    obtain ⟨x53, e54, h⟩ := bd_some h
                    refine lcW (Re := []) (S := S) (rs := (x53, S)) (c2 := (cu + 1)) (s2 := (su + 6)) hG hGX hN hP hD hS hA (fun h1 h2 => vx_runSX (As := [.ref (a o), .int c1_11, .int c2_12, .int v5_50]) (rest := []) ⟨hx, hb, hml, hown, hts⟩ (qL_program l hl9 D cy tt a o S c1_11 c2_12 v5_50 (H).size x53 e54) (vx_cwSW 4 hts gL_flaws_L_program rfl rfl rfl (by decide +kernel) ⟨Nat.le_of_ble_eq_true rfl, Nat.le_of_ble_eq_true rfl⟩) ⟨h1, h2⟩ rfl rfl hl.1 rfl (lv_room (Nat.le_of_ble_eq_true rfl)) dL_flaws_38 ⟨show cu + 1 ≤ 10868 by omega, show su + 6 ≤ 130416 by omega⟩) rfl rfl (fun H locs hP hD hS => ?_)
                    refine lv_if_lt (tgt := 207) hx hb dL_flaws_41 (by decide) (fun cc => ?_) (fun cc => ?_)
                    · have h := ite_p cc h
                      exact hk13 v3_48 v4_49 v5_50 v6_51 v7_52 (cu + 1) (su + 6) ⟨by omega, by omega⟩ H locs ls h hP hD hS (lv_sub hl [0, 1, 2, 3, 4, 5, 6, 7] rfl)
                    · have h := ite_n cc h
                      refine lv_aload_n hx hb dL_flaws_44 rfl (lv_at hl 0 rfl) ?_
                      refine lv_iload_n hx hb dL_flaws_45 rfl (lv_at hl 1 rfl) ?_
                      refine lv_iload_n hx hb dL_flaws_46 rfl (lv_at hl 2 rfl) ?_
                      refine lv_iload hx hb dL_flaws_47 (lv_at hl 5 rfl) ?_
                      obtain ⟨x55, e56, h⟩ := bd_some h
                      refine lcW (Re := []) (S := S) (rs := (x55, S)) (c2 := (cu + 2)) (s2 := (su + 12)) hG hGX hN hP hD hS hA (fun h1 h2 => vx_runSX (As := [.ref (a o), .int c1_11, .int c2_12, .int v5_50]) (rest := []) ⟨hx, hb, hml, hown, hts⟩ (qL_program l hl9 D cy tt a o S c1_11 c2_12 v5_50 (H).size x55 e56) (vx_cwSW 4 hts gL_flaws_L_program rfl rfl rfl (by decide +kernel) ⟨Nat.le_of_ble_eq_true rfl, Nat.le_of_ble_eq_true rfl⟩) ⟨h1, h2⟩ rfl rfl hl.1 rfl (lv_room (Nat.le_of_ble_eq_true rfl)) dL_flaws_49 ⟨show (cu + 1) + 1 ≤ 10868 by omega, show (su + 6) + 6 ≤ 130416 by omega⟩) rfl rfl (fun H locs hP hD hS => ?_)
                      refine lv_istore (lv' := [(8, .int x55), (0, .ref (a o)), (1, .int c1_11), (2, .int c2_12), (3, .int v3_48), (4, .int v4_49), (5, .int v5_50), (6, .int v6_51), (7, .int v7_52)]) hx hb dL_flaws_52 hl (by decide) rfl (fun ls hl => ?_)
                      refine lv_iload_n hx hb dL_flaws_54 rfl (lv_at hl 4 rfl) ?_
                      refine lv_aload_n hx hb dL_flaws_55 rfl (lv_at hl 1 rfl) ?_
                      refine lv_iload hx hb dL_flaws_56 (lv_at hl 0 rfl) ?_
                      refine lv_iconst (v := (2 : Int32)) hx hb dL_flaws_58 (by decide) ?_
                      obtain ⟨x57, e58, h⟩ := bd_some h
                      refine lcW (Re := []) (S := S) (rs := (x57, S)) (c2 := (cu + 3)) (s2 := (su + 18)) hG hGX hN hP hD hS hA (fun h1 h2 => vx_runSX (As := [.ref (a o), .int x55, .int (2 : Int32)]) (rest := [.int v3_48]) ⟨hx, hb, hml, hown, hts⟩ (qL_work l hl9 D cy tt a o S x55 (2 : Int32) (H).size x57 e58) (vx_cwSW 3 hts gL_flaws_L_work rfl rfl rfl (by decide +kernel) ⟨Nat.le_of_ble_eq_true rfl, Nat.le_of_ble_eq_true rfl⟩) ⟨h1, h2⟩ rfl rfl hl.1 rfl (lv_room (Nat.le_of_ble_eq_true rfl)) dL_flaws_59 ⟨show (cu + 2) + 1 ≤ 10868 by omega, show (su + 12) + 6 ≤ 130416 by omega⟩) rfl rfl (fun H locs hP hD hS => ?_)
                      refine lv_iadd hx hb dL_flaws_62 ?_
                      refine lv_istore_n (lv' := [(3, .int (v3_48 + x57)), (8, .int x55), (0, .ref (a o)), (1, .int c1_11), (2, .int c2_12), (4, .int v4_49), (5, .int v5_50), (6, .int v6_51), (7, .int v7_52)]) hx hb dL_flaws_63 rfl hl (by decide) rfl (fun ls hl => ?_)
                      refine lv_iload hx hb dL_flaws_64 (lv_at hl 5 rfl) ?_
                      refine lv_iconst (v := (1 : Int32)) hx hb dL_flaws_66 (by decide) ?_
                      refine lv_aload_n hx hb dL_flaws_67 rfl (lv_at hl 2 rfl) ?_
                      refine lv_iload hx hb dL_flaws_68 (lv_at hl 1 rfl) ?_
                      refine lv_iconst (v := (1 : Int32)) hx hb dL_flaws_70 (by decide) ?_
                      obtain ⟨x59, e60, h⟩ := bd_some h
                      refine lcW (Re := []) (S := S) (rs := (x59, S)) (c2 := (cu + 4)) (s2 := (su + 24)) hG hGX hN hP hD hS hA (fun h1 h2 => vx_runSX (As := [.ref (a o), .int x55, .int (1 : Int32)]) (rest := [.int (1 : Int32), .int v4_49]) ⟨hx, hb, hml, hown, hts⟩ (qL_work l hl9 D cy tt a o S x55 (1 : Int32) (H).size x59 e60) (vx_cwSW 3 hts gL_flaws_L_work rfl rfl rfl (by decide +kernel) ⟨Nat.le_of_ble_eq_true rfl, Nat.le_of_ble_eq_true rfl⟩) ⟨h1, h2⟩ rfl rfl hl.1 rfl (lv_room (Nat.le_of_ble_eq_true rfl)) dL_flaws_71 ⟨show (cu + 3) + 1 ≤ 10868 by omega, show (su + 18) + 6 ≤ 130416 by omega⟩) rfl rfl (fun H locs hP hD hS => ?_)
                      refine lv_ishl hx hb dL_flaws_74 ?_
                      refine lv_ior hx hb dL_flaws_75 ?_
                      refine lv_istore (lv' := [(4, .int (v4_49 ||| ((1 : Int32) <<< (x59 &&& 31)))), (3, .int (v3_48 + x57)), (8, .int x55), (0, .ref (a o)), (1, .int c1_11), (2, .int c2_12), (5, .int v5_50), (6, .int v6_51), (7, .int v7_52)]) hx hb dL_flaws_76 hl (by decide) rfl (fun ls hl => ?_)
                      refine lv_iconst (v := (0 : Int32)) hx hb dL_flaws_78 (by decide) ?_
                      refine lv_istore (lv' := [(9, .int (0 : Int32)), (4, .int (v4_49 ||| ((1 : Int32) <<< (x59 &&& 31)))), (3, .int (v3_48 + x57)), (8, .int x55), (0, .ref (a o)), (1, .int c1_11), (2, .int c2_12), (5, .int v5_50), (6, .int v6_51), (7, .int v7_52)]) hx hb dL_flaws_79 hl (by decide) rfl (fun ls hl => ?_)
                      refine lv_iconst (v := (0 : Int32)) hx hb dL_flaws_81 (by decide) ?_
                      refine lv_istore (lv' := [(10, .int (0 : Int32)), (9, .int (0 : Int32)), (4, .int (v4_49 ||| ((1 : Int32) <<< (x59 &&& 31)))), (3, .int (v3_48 + x57)), (8, .int x55), (0, .ref (a o)), (1, .int c1_11), (2, .int c2_12), (5, .int v5_50), (6, .int v6_51), (7, .int v7_52)]) hx hb dL_flaws_82 hl (by decide) rfl (fun ls hl => ?_)
                      have L103 : ∀ (c1_61 : Int32) (c2_62 : Int32) (c3_63 : Int32) (c4_64 : Int32) (c5_65 : Int32) (c6_66 : Int32) (c7_67 : Int32) (c8_68 : Int32) (k69 : Int32 → Option (Int32)) (hk69 : ∀ (v9_70 : Int32) (cu su : Nat) (hcu : cu + (f33 * 32 + f14 * 167 + f2 * 836 + 20) ≤ 10868 ∧ su + 12 * (f33 * 32 + f14 * 167 + f2 * 836 + 20) ≤ 130416) (H : Heap) (locs : List Loc) (ls : Array Slot), k69 v9_70 = some rs → va_P D vwCl (wX11 cy a o S) H → va_D (va_A (wX11 cy a o S) s.heap.size) (wX11 cy a o S) → va_S (va_A (wX11 cy a o S) s.heap.size) s.heap H locs → lv_has ls 12 [(0, .ref (a o)), (1, .int c1_61), (2, .int c2_62), (3, .int c3_63), (4, .int c4_64), (5, .int c5_65), (6, .int c6_66), (7, .int c7_67), (8, .int c8_68), (9, .int v9_70)] → W p l e (headSpec wsL_flaws ({ frames := 11, cells := 10868, slots := 130416, locals := 210 } : Room)).room s m ([.ref (a o)] : List Value).toArray below meth c H locs cu su (vx_MQ below (va_Qi (fun r (u : SX11) => (r, u) = (rs, S)) (fun u t => mB D s.heap.size (wX11 cy a o S) (wX11 cy a o u) t) (va_A (wX11 cy a o S) s.heap.size)) (fun _ _ _ => False) ([.ref (a o)] : List Value).toArray s 10868 130416 (va_A (wX11 cy a o S) s.heap.size)) (F0 m 138 ls [])) (f84 : Nat) (v9_92 : Int32) (v10_93 : Int32) (cu su : Nat) (hcu : cu + (f84 * 3 + f33 * 32 + f14 * 167 + f2 * 836 + 20) ≤ 10868 ∧ su + 12 * (f84 * 3 + f33 * 32 + f14 * 167 + f2 * 836 + 20) ≤ 130416) (H : Heap) (locs : List Loc) (ls : Array Slot), DL_flaws_L84 S c1_61 c2_62 c3_63 c4_64 c5_65 c6_66 c7_67 c8_68 k69 f84 v9_92 v10_93 = some rs → va_P D vwCl (wX11 cy a o S) H → va_D (va_A (wX11 cy a o S) s.heap.size) (wX11 cy a o S) → va_S (va_A (wX11 cy a o S) s.heap.size) s.heap H locs → lv_has ls 12 [(0, .ref (a o)), (1, .int c1_61), (2, .int c2_62), (3, .int c3_63), (4, .int c4_64), (5, .int c5_65), (6, .int c6_66), (7, .int c7_67), (8, .int c8_68), (9, .int v9_92), (10, .int v10_93)] → W p l e (headSpec wsL_flaws ({ frames := 11, cells := 10868, slots := 130416, locals := 210 } : Room)).room s m ([.ref (a o)] : List Value).toArray below meth c H locs cu su (vx_MQ below (va_Qi (fun r (u : SX11) => (r, u) = (rs, S)) (fun u t => mB D s.heap.size (wX11 cy a o S) (wX11 cy a o u) t) (va_A (wX11 cy a o S) s.heap.size)) (fun _ _ _ => False) ([.ref (a o)] : List Value).toArray s 10868 130416 (va_A (wX11 cy a o S) s.heap.size)) (F0 m 84 ls []) := by
                        intro c1_61 c2_62 c3_63 c4_64 c5_65 c6_66 c7_67 c8_68 k69 hk69 f84
                        induction f84 with
                        | zero =>
                          intro v9_92 v10_93 cu su hcu H locs ls h hP hD hS hl
                          rw [DL_flaws_L84] at h
                          cases h
                        | succ f84 ih84 =>
                          intro v9_92 v10_93 cu su hcu H locs ls h hP hD hS hl
                          rw [DL_flaws_L84] at h
                          refine lv_iload hx hb dL_flaws_84 (lv_at hl 10 rfl) ?_
                          refine lv_iconst (v := (4 : Int32)) hx hb dL_flaws_86 (by decide) ?_
                          refine lv_icmp_ge (tgt := 138) hx hb dL_flaws_87 (by decide) (fun cc => ?_) (fun cc => ?_)
                          · have h := ite_p cc h
                            exact hk69 v9_92 cu su ⟨by omega, by omega⟩ H locs ls h hP hD hS (lv_sub hl [0, 1, 2, 3, 4, 5, 6, 7, 8, 9] rfl)
                          · have h := ite_n cc h
                            refine lv_aload_n hx hb dL_flaws_90 rfl (lv_at hl 0 rfl) ?_
                            refine lv_iload_n hx hb dL_flaws_91 rfl (lv_at hl 1 rfl) ?_
                            refine lv_iload_n hx hb dL_flaws_92 rfl (lv_at hl 2 rfl) ?_
                            refine lv_iload hx hb dL_flaws_93 (lv_at hl 10 rfl) ?_
                            obtain ⟨x94, e95, h⟩ := bd_some h
                            refine lcW (Re := []) (S := S) (rs := (x94, S)) (c2 := (cu + 1)) (s2 := (su + 6)) hG hGX hN hP hD hS hA (fun h1 h2 => vx_runSX (As := [.ref (a o), .int c1_61, .int c2_62, .int v10_93]) (rest := []) ⟨hx, hb, hml, hown, hts⟩ (qL_program l hl9 D cy tt a o S c1_61 c2_62 v10_93 (H).size x94 e95) (vx_cwSW 4 hts gL_flaws_L_program rfl rfl rfl (by decide +kernel) ⟨Nat.le_of_ble_eq_true rfl, Nat.le_of_ble_eq_true rfl⟩) ⟨h1, h2⟩ rfl rfl hl.1 rfl (lv_room (Nat.le_of_ble_eq_true rfl)) dL_flaws_95 ⟨show cu + 1 ≤ 10868 by omega, show su + 6 ≤ 130416 by omega⟩) rfl rfl (fun H locs hP hD hS => ?_)
                            refine lv_istore (lv' := [(11, .int x94), (0, .ref (a o)), (1, .int c1_61), (2, .int c2_62), (3, .int c3_63), (4, .int c4_64), (5, .int c5_65), (6, .int c6_66), (7, .int c7_67), (8, .int c8_68), (9, .int v9_92), (10, .int v10_93)]) hx hb dL_flaws_98 hl (by decide) rfl (fun ls hl => ?_)
                            refine lv_iload hx hb dL_flaws_100 (lv_at hl 10 rfl) ?_
                            refine lv_iload hx hb dL_flaws_102 (lv_at hl 0 rfl) ?_
                            obtain ⟨j97, hj97, h⟩ := jn_elim h
                            have Jj97 : ∀ (x96 : Int32) (cu su : Nat) (hcu : cu + (f84 * 3 + f33 * 32 + f14 * 167 + f2 * 836 + 20) ≤ 10868 ∧ su + 12 * (f84 * 3 + f33 * 32 + f14 * 167 + f2 * 836 + 20) ≤ 130416) (H : Heap) (locs : List Loc) (ls : Array Slot), j97 x96 = some rs → va_P D vwCl (wX11 cy a o S) H → va_D (va_A (wX11 cy a o S) s.heap.size) (wX11 cy a o S) → va_S (va_A (wX11 cy a o S) s.heap.size) s.heap H locs → lv_has ls 12 [(0, .ref (a o)), (1, .int c1_61), (2, .int c2_62), (3, .int c3_63), (4, .int c4_64), (5, .int c5_65), (6, .int c6_66), (7, .int c7_67), (8, .int c8_68), (10, .int v10_93)] → W p l e (headSpec wsL_flaws ({ frames := 11, cells := 10868, slots := 130416, locals := 210 } : Room)).room s m ([.ref (a o)] : List Value).toArray below meth c H locs cu su (vx_MQ below (va_Qi (fun r (u : SX11) => (r, u) = (rs, S)) (fun u t => mB D s.heap.size (wX11 cy a o S) (wX11 cy a o u) t) (va_A (wX11 cy a o S) s.heap.size)) (fun _ _ _ => False) ([.ref (a o)] : List Value).toArray s 10868 130416 (va_A (wX11 cy a o S) s.heap.size)) (F0 m 129 ls [.int x96, .int v9_92]) := by
                              intro x96 cu su hcu H locs ls h hP hD hS hl
                              rw [hj97] at h
                              refine lv_iadd hx hb dL_flaws_129 ?_
                              refine lv_istore (lv' := [(9, .int (v9_92 + x96)), (0, .ref (a o)), (1, .int c1_61), (2, .int c2_62), (3, .int c3_63), (4, .int c4_64), (5, .int c5_65), (6, .int c6_66), (7, .int c7_67), (8, .int c8_68), (10, .int v10_93)]) hx hb dL_flaws_130 hl (by decide) rfl (fun ls hl => ?_)
                              refine lv_iinc (v := (v10_93 + (1 : Int32))) (lv' := [(10, .int (v10_93 + (1 : Int32))), (9, .int (v9_92 + x96)), (0, .ref (a o)), (1, .int c1_61), (2, .int c2_62), (3, .int c3_63), (4, .int c4_64), (5, .int c5_65), (6, .int c6_66), (7, .int c7_67), (8, .int c8_68)]) hx hb dL_flaws_132 hl (k := 10) rfl (by rfl) (by decide) rfl (fun ls hl => ?_)
                              refine lv_goto (tgt := 84) hx hb dL_flaws_135 (by decide) ?_
                              exact ih84 (v9_92 + x96) (v10_93 + (1 : Int32)) cu su ⟨by omega, by omega⟩ H locs ls h hP hD hS (lv_sub hl [2, 3, 4, 5, 6, 7, 8, 9, 10, 1, 0] rfl)
                            obtain ⟨j98, hj98, h⟩ := jn_elim h
                            have Jj98 : ∀ (cu su : Nat) (hcu : cu + (f84 * 3 + f33 * 32 + f14 * 167 + f2 * 836 + 20) ≤ 10868 ∧ su + 12 * (f84 * 3 + f33 * 32 + f14 * 167 + f2 * 836 + 20) ≤ 130416) (H : Heap) (locs : List Loc) (ls : Array Slot), j98 () = some rs → va_P D vwCl (wX11 cy a o S) H → va_D (va_A (wX11 cy a o S) s.heap.size) (wX11 cy a o S) → va_S (va_A (wX11 cy a o S) s.heap.size) s.heap H locs → lv_has ls 12 [(0, .ref (a o)), (1, .int c1_61), (2, .int c2_62), (3, .int c3_63), (4, .int c4_64), (5, .int c5_65), (6, .int c6_66), (7, .int c7_67), (8, .int c8_68), (10, .int v10_93)] → W p l e (headSpec wsL_flaws ({ frames := 11, cells := 10868, slots := 130416, locals := 210 } : Room)).room s m ([.ref (a o)] : List Value).toArray below meth c H locs cu su (vx_MQ below (va_Qi (fun r (u : SX11) => (r, u) = (rs, S)) (fun u t => mB D s.heap.size (wX11 cy a o S) (wX11 cy a o u) t) (va_A (wX11 cy a o S) s.heap.size)) (fun _ _ _ => False) ([.ref (a o)] : List Value).toArray s 10868 130416 (va_A (wX11 cy a o S) s.heap.size)) (F0 m 128 ls [.int v9_92]) := by
                              intro cu su hcu H locs ls h hP hD hS hl
                              rw [hj98] at h
                              refine lv_iconst (v := (0 : Int32)) hx hb dL_flaws_128 (by decide) ?_
                              exact Jj97 (0 : Int32) cu su ⟨by omega, by omega⟩ H locs ls h hP hD hS (lv_sub hl [0, 1, 2, 3, 4, 5, 6, 7, 8, 9] rfl)
                            refine lv_if_lt (tgt := 128) hx hb dL_flaws_104 (by decide) (fun cc => ?_) (fun cc => ?_)
                            · have h := ite_p cc h
                              exact Jj98  (cu + 1) (su + 6) ⟨by omega, by omega⟩ H locs ls h hP hD hS (lv_sub hl [1, 2, 3, 4, 5, 6, 7, 8, 9, 11] rfl)
                            · have h := ite_n cc h
                              refine lv_aload_n hx hb dL_flaws_107 rfl (lv_at hl 1 rfl) ?_
                              refine lv_iload hx hb dL_flaws_108 (lv_at hl 0 rfl) ?_
                              refine lv_iconst (v := (0 : Int32)) hx hb dL_flaws_110 (by decide) ?_
                              obtain ⟨x99, e100, h⟩ := bd_some h
                              refine lcW (Re := []) (S := S) (rs := (x99, S)) (c2 := (cu + 2)) (s2 := (su + 12)) hG hGX hN hP hD hS hA (fun h1 h2 => vx_runSX (As := [.ref (a o), .int x94, .int (0 : Int32)]) (rest := [.int v9_92]) ⟨hx, hb, hml, hown, hts⟩ (qL_work l hl9 D cy tt a o S x94 (0 : Int32) (H).size x99 e100) (vx_cwSW 3 hts gL_flaws_L_work rfl rfl rfl (by decide +kernel) ⟨Nat.le_of_ble_eq_true rfl, Nat.le_of_ble_eq_true rfl⟩) ⟨h1, h2⟩ rfl rfl hl.1 rfl (lv_room (Nat.le_of_ble_eq_true rfl)) dL_flaws_111 ⟨show (cu + 1) + 1 ≤ 10868 by omega, show (su + 6) + 6 ≤ 130416 by omega⟩) rfl rfl (fun H locs hP hD hS => ?_)
                              refine lv_aload_n hx hb dL_flaws_114 rfl (lv_at hl 1 rfl) ?_
                              refine lv_iload hx hb dL_flaws_115 (lv_at hl 9 rfl) ?_
                              refine lv_iconst (v := (0 : Int32)) hx hb dL_flaws_117 (by decide) ?_
                              obtain ⟨x101, e102, h⟩ := bd_some h
                              refine lcW (Re := []) (S := S) (rs := (x101, S)) (c2 := (cu + 3)) (s2 := (su + 18)) hG hGX hN hP hD hS hA (fun h1 h2 => vx_runSX (As := [.ref (a o), .int c8_68, .int (0 : Int32)]) (rest := [.int x99, .int v9_92]) ⟨hx, hb, hml, hown, hts⟩ (qL_work l hl9 D cy tt a o S c8_68 (0 : Int32) (H).size x101 e102) (vx_cwSW 3 hts gL_flaws_L_work rfl rfl rfl (by decide +kernel) ⟨Nat.le_of_ble_eq_true rfl, Nat.le_of_ble_eq_true rfl⟩) ⟨h1, h2⟩ rfl rfl hl.1 rfl (lv_room (Nat.le_of_ble_eq_true rfl)) dL_flaws_118 ⟨show (cu + 2) + 1 ≤ 10868 by omega, show (su + 12) + 6 ≤ 130416 by omega⟩) rfl rfl (fun H locs hP hD hS => ?_)
                              refine lv_icmp_ne (tgt := 128) hx hb dL_flaws_121 (by decide) (fun cc => ?_) (fun cc => ?_)
                              · have h := ite_n cc h
                                exact Jj98  (cu + 3) (su + 18) ⟨by omega, by omega⟩ H locs ls h hP hD hS (lv_sub hl [1, 2, 3, 4, 5, 6, 7, 8, 9, 11] rfl)
                              · have h := ite_p cc h
                                refine lv_iconst (v := (1 : Int32)) hx hb dL_flaws_124 (by decide) ?_
                                refine lv_goto (tgt := 129) hx hb dL_flaws_125 (by decide) ?_
                                exact Jj97 (1 : Int32) (cu + 3) (su + 18) ⟨by omega, by omega⟩ H locs ls h hP hD hS (lv_sub hl [1, 2, 3, 4, 5, 6, 7, 8, 9, 11] rfl)
                      refine L103 c1_11 c2_12 (v3_48 + x57) (v4_49 ||| ((1 : Int32) <<< (x59 &&& 31))) v5_50 v6_51 v7_52 x55 _ ?_ 5 (0 : Int32) (0 : Int32) (cu + 4) (su + 24) ⟨by omega, by omega⟩ H locs ls h hP hD hS (lv_sub hl [5, 6, 7, 3, 2, 8, 9, 10, 4, 1, 0] rfl)
                      intro v9_71 cu su hcu H locs ls h hP hD hS hl
                      refine lv_iload hx hb dL_flaws_138 (lv_at hl 9 rfl) ?_
                      refine lv_iload hx hb dL_flaws_140 (lv_at hl 6 rfl) ?_
                      obtain ⟨j73, hj73, h⟩ := jn_elim h
                      have Jj73 : ∀ (x72 : Int32) (cu su : Nat) (hcu : cu + (f33 * 32 + f14 * 167 + f2 * 836 + 20) ≤ 10868 ∧ su + 12 * (f33 * 32 + f14 * 167 + f2 * 836 + 20) ≤ 130416) (ls : Array Slot), j73 x72 = some rs → lv_has ls 12 [(0, .ref (a o)), (1, .int c1_11), (2, .int c2_12), (3, .int (v3_48 + x57)), (4, .int (v4_49 ||| ((1 : Int32) <<< (x59 &&& 31)))), (5, .int v5_50), (7, .int v7_52), (8, .int x55)] → W p l e (headSpec wsL_flaws ({ frames := 11, cells := 10868, slots := 130416, locals := 210 } : Room)).room s m ([.ref (a o)] : List Value).toArray below meth c H locs cu su (vx_MQ below (va_Qi (fun r (u : SX11) => (r, u) = (rs, S)) (fun u t => mB D s.heap.size (wX11 cy a o S) (wX11 cy a o u) t) (va_A (wX11 cy a o S) s.heap.size)) (fun _ _ _ => False) ([.ref (a o)] : List Value).toArray s 10868 130416 (va_A (wX11 cy a o S) s.heap.size)) (F0 m 152 ls [.int x72]) := by
                        intro x72 cu su hcu ls h hl
                        rw [hj73] at h
                        refine lv_istore (lv' := [(6, .int x72), (0, .ref (a o)), (1, .int c1_11), (2, .int c2_12), (3, .int (v3_48 + x57)), (4, .int (v4_49 ||| ((1 : Int32) <<< (x59 &&& 31)))), (5, .int v5_50), (7, .int v7_52), (8, .int x55)]) hx hb dL_flaws_152 hl (by decide) rfl (fun ls hl => ?_)
                        refine lv_iconst (v := (0 : Int32)) hx hb dL_flaws_154 (by decide) ?_
                        refine lv_istore (lv' := [(10, .int (0 : Int32)), (6, .int x72), (0, .ref (a o)), (1, .int c1_11), (2, .int c2_12), (3, .int (v3_48 + x57)), (4, .int (v4_49 ||| ((1 : Int32) <<< (x59 &&& 31)))), (5, .int v5_50), (7, .int v7_52), (8, .int x55)]) hx hb dL_flaws_155 hl (by decide) rfl (fun ls hl => ?_)
                        have L91 : ∀ (c1_74 : Int32) (c2_75 : Int32) (c3_76 : Int32) (c4_77 : Int32) (c5_78 : Int32) (c6_79 : Int32) (c8_80 : Int32) (k81 : Int32 → Option (Int32)) (hk81 : ∀ (v7_82 : Int32) (cu su : Nat) (hcu : cu + (f33 * 32 + f14 * 167 + f2 * 836 + 7) ≤ 10868 ∧ su + 12 * (f33 * 32 + f14 * 167 + f2 * 836 + 7) ≤ 130416) (H : Heap) (locs : List Loc) (ls : Array Slot), k81 v7_82 = some rs → va_P D vwCl (wX11 cy a o S) H → va_D (va_A (wX11 cy a o S) s.heap.size) (wX11 cy a o S) → va_S (va_A (wX11 cy a o S) s.heap.size) s.heap H locs → lv_has ls 12 [(0, .ref (a o)), (1, .int c1_74), (2, .int c2_75), (3, .int c3_76), (4, .int c4_77), (5, .int c5_78), (6, .int c6_79), (7, .int v7_82)] → W p l e (headSpec wsL_flaws ({ frames := 11, cells := 10868, slots := 130416, locals := 210 } : Room)).room s m ([.ref (a o)] : List Value).toArray below meth c H locs cu su (vx_MQ below (va_Qi (fun r (u : SX11) => (r, u) = (rs, S)) (fun u t => mB D s.heap.size (wX11 cy a o S) (wX11 cy a o u) t) (va_A (wX11 cy a o S) s.heap.size)) (fun _ _ _ => False) ([.ref (a o)] : List Value).toArray s 10868 130416 (va_A (wX11 cy a o S) s.heap.size)) (F0 m 201 ls [])) (f157 : Nat) (v7_84 : Int32) (v10_85 : Int32) (cu su : Nat) (hcu : cu + (f157 * 1 + f33 * 32 + f14 * 167 + f2 * 836 + 7) ≤ 10868 ∧ su + 12 * (f157 * 1 + f33 * 32 + f14 * 167 + f2 * 836 + 7) ≤ 130416) (H : Heap) (locs : List Loc) (ls : Array Slot), DL_flaws_L157 S c1_74 c2_75 c3_76 c4_77 c5_78 c6_79 c8_80 k81 f157 v7_84 v10_85 = some rs → va_P D vwCl (wX11 cy a o S) H → va_D (va_A (wX11 cy a o S) s.heap.size) (wX11 cy a o S) → va_S (va_A (wX11 cy a o S) s.heap.size) s.heap H locs → lv_has ls 12 [(0, .ref (a o)), (1, .int c1_74), (2, .int c2_75), (3, .int c3_76), (4, .int c4_77), (5, .int c5_78), (6, .int c6_79), (7, .int v7_84), (8, .int c8_80), (10, .int v10_85)] → W p l e (headSpec wsL_flaws ({ frames := 11, cells := 10868, slots := 130416, locals := 210 } : Room)).room s m ([.ref (a o)] : List Value).toArray below meth c H locs cu su (vx_MQ below (va_Qi (fun r (u : SX11) => (r, u) = (rs, S)) (fun u t => mB D s.heap.size (wX11 cy a o S) (wX11 cy a o u) t) (va_A (wX11 cy a o S) s.heap.size)) (fun _ _ _ => False) ([.ref (a o)] : List Value).toArray s 10868 130416 (va_A (wX11 cy a o S) s.heap.size)) (F0 m 157 ls []) := by
                          intro c1_74 c2_75 c3_76 c4_77 c5_78 c6_79 c8_80 k81 hk81 f157
                          induction f157 with
                          | zero =>
                            intro v7_84 v10_85 cu su hcu H locs ls h hP hD hS hl
                            rw [DL_flaws_L157] at h
                            cases h
                          | succ f157 ih157 =>
                            intro v7_84 v10_85 cu su hcu H locs ls h hP hD hS hl
                            rw [DL_flaws_L157] at h
                            refine lv_iload hx hb dL_flaws_157 (lv_at hl 9 rfl) ?_
                            refine lv_iconst (v := (4 : Int32)) hx hb dL_flaws_159 (by decide) ?_
                            refine lv_iload_n hx hb dL_flaws_160 rfl (lv_at hl 2 rfl) ?_
                            refine lv_imul hx hb dL_flaws_161 ?_
                            refine lv_icmp_ge (tgt := 201) hx hb dL_flaws_162 (by decide) (fun cc => ?_) (fun cc => ?_)
                            · have h := ite_p cc h
                              exact hk81 v7_84 cu su ⟨by omega, by omega⟩ H locs ls h hP hD hS (lv_sub hl [0, 1, 2, 3, 4, 5, 6, 7] rfl)
                            · have h := ite_n cc h
                              refine lv_iload hx hb dL_flaws_165 (lv_at hl 7 rfl) ?_
                              obtain ⟨j87, hj87, h⟩ := jn_elim h
                              have Jj87 : ∀ (x86 : Int32) (cu su : Nat) (hcu : cu + (f157 * 1 + f33 * 32 + f14 * 167 + f2 * 836 + 7) ≤ 10868 ∧ su + 12 * (f157 * 1 + f33 * 32 + f14 * 167 + f2 * 836 + 7) ≤ 130416) (H : Heap) (locs : List Loc) (ls : Array Slot), j87 x86 = some rs → va_P D vwCl (wX11 cy a o S) H → va_D (va_A (wX11 cy a o S) s.heap.size) (wX11 cy a o S) → va_S (va_A (wX11 cy a o S) s.heap.size) s.heap H locs → lv_has ls 12 [(0, .ref (a o)), (1, .int c1_74), (2, .int c2_75), (3, .int c3_76), (4, .int c4_77), (5, .int c5_78), (6, .int c6_79), (8, .int c8_80), (10, .int v10_85)] → W p l e (headSpec wsL_flaws ({ frames := 11, cells := 10868, slots := 130416, locals := 210 } : Room)).room s m ([.ref (a o)] : List Value).toArray below meth c H locs cu su (vx_MQ below (va_Qi (fun r (u : SX11) => (r, u) = (rs, S)) (fun u t => mB D s.heap.size (wX11 cy a o S) (wX11 cy a o u) t) (va_A (wX11 cy a o S) s.heap.size)) (fun _ _ _ => False) ([.ref (a o)] : List Value).toArray s 10868 130416 (va_A (wX11 cy a o S) s.heap.size)) (F0 m 193 ls [.int x86]) := by
                                intro x86 cu su hcu H locs ls h hP hD hS hl
                                rw [hj87] at h
                                refine lv_istore (lv' := [(7, .int x86), (0, .ref (a o)), (1, .int c1_74), (2, .int c2_75), (3, .int c3_76), (4, .int c4_77), (5, .int c5_78), (6, .int c6_79), (8, .int c8_80), (10, .int v10_85)]) hx hb dL_flaws_193 hl (by decide) rfl (fun ls hl => ?_)
                                refine lv_iinc (v := (v10_85 + (1 : Int32))) (lv' := [(10, .int (v10_85 + (1 : Int32))), (7, .int x86), (0, .ref (a o)), (1, .int c1_74), (2, .int c2_75), (3, .int c3_76), (4, .int c4_77), (5, .int c5_78), (6, .int c6_79), (8, .int c8_80)]) hx hb dL_flaws_195 hl (k := 9) rfl (by rfl) (by decide) rfl (fun ls hl => ?_)
                                refine lv_goto (tgt := 157) hx hb dL_flaws_198 (by decide) ?_
                                exact ih157 x86 (v10_85 + (1 : Int32)) cu su ⟨by omega, by omega⟩ H locs ls h hP hD hS (lv_sub hl [2, 3, 4, 5, 6, 7, 8, 1, 9, 0] rfl)
                              obtain ⟨j88, hj88, h⟩ := jn_elim h
                              have Jj88 : ∀ (cu su : Nat) (hcu : cu + (f157 * 1 + f33 * 32 + f14 * 167 + f2 * 836 + 7) ≤ 10868 ∧ su + 12 * (f157 * 1 + f33 * 32 + f14 * 167 + f2 * 836 + 7) ≤ 130416) (H : Heap) (locs : List Loc) (ls : Array Slot), j88 () = some rs → va_P D vwCl (wX11 cy a o S) H → va_D (va_A (wX11 cy a o S) s.heap.size) (wX11 cy a o S) → va_S (va_A (wX11 cy a o S) s.heap.size) s.heap H locs → lv_has ls 12 [(0, .ref (a o)), (1, .int c1_74), (2, .int c2_75), (3, .int c3_76), (4, .int c4_77), (5, .int c5_78), (6, .int c6_79), (8, .int c8_80), (10, .int v10_85)] → W p l e (headSpec wsL_flaws ({ frames := 11, cells := 10868, slots := 130416, locals := 210 } : Room)).room s m ([.ref (a o)] : List Value).toArray below meth c H locs cu su (vx_MQ below (va_Qi (fun r (u : SX11) => (r, u) = (rs, S)) (fun u t => mB D s.heap.size (wX11 cy a o S) (wX11 cy a o u) t) (va_A (wX11 cy a o S) s.heap.size)) (fun _ _ _ => False) ([.ref (a o)] : List Value).toArray s 10868 130416 (va_A (wX11 cy a o S) s.heap.size)) (F0 m 188 ls []) := by
                                intro cu su hcu H locs ls h hP hD hS hl
                                rw [hj88] at h
                                refine lv_iconst (v := (1 : Int32)) hx hb dL_flaws_188 (by decide) ?_
                                refine lv_goto (tgt := 193) hx hb dL_flaws_189 (by decide) ?_
                                exact Jj87 (1 : Int32) cu su ⟨by omega, by omega⟩ H locs ls h hP hD hS (lv_sub hl [0, 1, 2, 3, 4, 5, 6, 7, 8] rfl)
                              refine lv_if_ne (tgt := 188) hx hb dL_flaws_167 (by decide) (fun cc => ?_) (fun cc => ?_)
                              · have h := ite_n cc h
                                exact Jj88  cu su ⟨by omega, by omega⟩ H locs ls h hP hD hS (lv_sub hl [0, 1, 2, 3, 4, 5, 6, 8, 9] rfl)
                              · have h := ite_p cc h
                                refine lv_aload_n hx hb dL_flaws_170 rfl (lv_at hl 0 rfl) ?_
                                refine lv_iload_n hx hb dL_flaws_171 rfl (lv_at hl 1 rfl) ?_
                                refine lv_iload hx hb dL_flaws_172 (lv_at hl 9 rfl) ?_
                                refine lv_iconst (v := (4 : Int32)) hx hb dL_flaws_174 (by decide) ?_
                                refine lv_idiv hx hb dL_flaws_175 (by decide) ?_
                                refine lv_iload hx hb dL_flaws_176 (lv_at hl 9 rfl) ?_
                                refine lv_iconst (v := (4 : Int32)) hx hb dL_flaws_178 (by decide) ?_
                                refine lv_irem hx hb dL_flaws_179 (by decide) ?_
                                obtain ⟨x89, e90, h⟩ := bd_some h
                                refine lcW (Re := []) (S := S) (rs := (x89, S)) (c2 := (cu + 1)) (s2 := (su + 6)) hG hGX hN hP hD hS hA (fun h1 h2 => vx_runSX (As := [.ref (a o), .int c1_74, .int (v10_85 / (4 : Int32)), .int (v10_85 - v10_85 / (4 : Int32) * (4 : Int32))]) (rest := []) ⟨hx, hb, hml, hown, hts⟩ (qL_program l hl9 D cy tt a o S c1_74 (v10_85 / (4 : Int32)) (v10_85 - v10_85 / (4 : Int32) * (4 : Int32)) (H).size x89 e90) (vx_cwSW 4 hts gL_flaws_L_program rfl rfl rfl (by decide +kernel) ⟨Nat.le_of_ble_eq_true rfl, Nat.le_of_ble_eq_true rfl⟩) ⟨h1, h2⟩ rfl rfl hl.1 rfl (lv_room (Nat.le_of_ble_eq_true rfl)) dL_flaws_180 ⟨show cu + 1 ≤ 10868 by omega, show su + 6 ≤ 130416 by omega⟩) rfl rfl (fun H locs hP hD hS => ?_)
                                refine lv_iload hx hb dL_flaws_183 (lv_at hl 8 rfl) ?_
                                refine lv_icmp_ne (tgt := 192) hx hb dL_flaws_185 (by decide) (fun cc => ?_) (fun cc => ?_)
                                · have h := ite_n cc h
                                  refine lv_iconst (v := (0 : Int32)) hx hb dL_flaws_192 (by decide) ?_
                                  exact Jj87 (0 : Int32) (cu + 1) (su + 6) ⟨by omega, by omega⟩ H locs ls h hP hD hS (lv_sub hl [0, 1, 2, 3, 4, 5, 6, 8, 9] rfl)
                                · have h := ite_p cc h
                                  exact Jj88  (cu + 1) (su + 6) ⟨by omega, by omega⟩ H locs ls h hP hD hS (lv_sub hl [0, 1, 2, 3, 4, 5, 6, 8, 9] rfl)
                        refine L91 c1_11 c2_12 (v3_48 + x57) (v4_49 ||| ((1 : Int32) <<< (x59 &&& 31))) v5_50 x72 x55 _ ?_ 13 v7_52 (0 : Int32) cu su ⟨by omega, by omega⟩ H locs ls h hP hD hS (lv_sub hl [2, 3, 4, 5, 6, 7, 1, 8, 9, 0] rfl)
                        intro v7_83 cu su hcu H locs ls h hP hD hS hl
                        refine lv_iinc (v := (v5_50 + (1 : Int32))) (lv' := [(5, .int (v5_50 + (1 : Int32))), (0, .ref (a o)), (1, .int c1_11), (2, .int c2_12), (3, .int (v3_48 + x57)), (4, .int (v4_49 ||| ((1 : Int32) <<< (x59 &&& 31)))), (6, .int x72), (7, .int v7_83)]) hx hb dL_flaws_201 hl (k := 5) rfl (by rfl) (by decide) rfl (fun ls hl => ?_)
                        refine lv_goto (tgt := 33) hx hb dL_flaws_204 (by decide) ?_
                        exact ih33 (v3_48 + x57) (v4_49 ||| ((1 : Int32) <<< (x59 &&& 31))) (v5_50 + (1 : Int32)) x72 v7_83 cu su ⟨by omega, by omega⟩ H locs ls h hP hD hS (lv_sub hl [1, 2, 3, 4, 5, 0, 6, 7] rfl)
                      refine lv_icmp_le (tgt := 150) hx hb dL_flaws_142 (by decide) (fun cc => ?_) (fun cc => ?_)
                      · have h := ite_p cc h
                        refine lv_iload hx hb dL_flaws_150 (lv_at hl 6 rfl) ?_
                        exact Jj73 v6_51 cu su ⟨by omega, by omega⟩ ls h (lv_sub hl [0, 1, 2, 3, 4, 5, 7, 8] rfl)
                      · have h := ite_n cc h
                        refine lv_iload hx hb dL_flaws_145 (lv_at hl 9 rfl) ?_
                        refine lv_goto (tgt := 152) hx hb dL_flaws_147 (by decide) ?_
                        exact Jj73 v9_71 cu su ⟨by omega, by omega⟩ ls h (lv_sub hl [0, 1, 2, 3, 4, 5, 7, 8] rfl)
                refine L104 c1_7 v2_10 _ ?_ 5 (0 : Int32) (0 : Int32) (0 : Int32) (0 : Int32) (0 : Int32) cu su ⟨by omega, by omega⟩ H locs ls h hP hD hS (lv_sub hl [5, 6, 7, 4, 3, 2, 1, 0] rfl)
                intro v3_19 v4_20 v5_21 v6_22 v7_23 cu su hcu H locs ls h hP hD hS hl
                refine lv_iload hx hb dL_flaws_207 (lv_at hl 5 rfl) ?_
                obtain ⟨j25, hj25, h⟩ := jn_elim h
                have Jj25 : ∀ (x24 : Int32) (cu su : Nat) (hcu : cu + (f14 * 167 + f2 * 836 + 2) ≤ 10868 ∧ su + 12 * (f14 * 167 + f2 * 836 + 2) ≤ 130416) (H : Heap) (locs : List Loc) (ls : Array Slot), j25 x24 = some rs → va_P D vwCl (wX11 cy a o S) H → va_D (va_A (wX11 cy a o S) s.heap.size) (wX11 cy a o S) → va_S (va_A (wX11 cy a o S) s.heap.size) s.heap H locs → lv_has ls 12 [(0, .ref (a o)), (1, .int c1_7), (2, .int v2_10), (5, .int v5_21)] → W p l e (headSpec wsL_flaws ({ frames := 11, cells := 10868, slots := 130416, locals := 210 } : Room)).room s m ([.ref (a o)] : List Value).toArray below meth c H locs cu su (vx_MQ below (va_Qi (fun r (u : SX11) => (r, u) = (rs, S)) (fun u t => mB D s.heap.size (wX11 cy a o S) (wX11 cy a o u) t) (va_A (wX11 cy a o S) s.heap.size)) (fun _ _ _ => False) ([.ref (a o)] : List Value).toArray s 10868 130416 (va_A (wX11 cy a o S) s.heap.size)) (F0 m 276 ls [.int x24]) := by
                  intro x24 cu su hcu H locs ls h hP hD hS hl
                  rw [hj25] at h
                  refine lv_istore (lv' := [(8, .int x24), (0, .ref (a o)), (1, .int c1_7), (2, .int v2_10), (5, .int v5_21)]) hx hb dL_flaws_276 hl (by decide) rfl (fun ls hl => ?_)
                  refine lv_aload_n hx hb dL_flaws_278 rfl (lv_at hl 1 rfl) ?_
                  refine lv_iload_n hx hb dL_flaws_279 rfl (lv_at hl 2 rfl) ?_
                  refine lv_iload_n hx hb dL_flaws_280 rfl (lv_at hl 3 rfl) ?_
                  obtain ⟨x26, e27, h⟩ := bd_some h
                  refine lcW (Re := []) (S := S) (rs := (x26, S)) (c2 := (cu + 1)) (s2 := (su + 6)) hG hGX hN hP hD hS hA (fun h1 h2 => vx_runSX (As := [.ref (a o), .int c1_7, .int v2_10]) (rest := []) ⟨hx, hb, hml, hown, hts⟩ (qL_flaw l hl9 D cy tt a o S c1_7 v2_10 (H).size x26 e27) (vx_cwSW 3 hts gL_flaws_L_flaw rfl rfl rfl (by decide +kernel) ⟨Nat.le_of_ble_eq_true rfl, Nat.le_of_ble_eq_true rfl⟩) ⟨h1, h2⟩ rfl rfl hl.1 rfl (lv_room (Nat.le_of_ble_eq_true rfl)) dL_flaws_281 ⟨show cu + 1 ≤ 10868 by omega, show su + 6 ≤ 130416 by omega⟩) rfl rfl (fun H locs hP hD hS => ?_)
                  refine lv_istore (lv' := [(9, .int x26), (8, .int x24), (0, .ref (a o)), (1, .int c1_7), (2, .int v2_10), (5, .int v5_21)]) hx hb dL_flaws_284 hl (by decide) rfl (fun ls hl => ?_)
                  refine lv_iload hx hb dL_flaws_286 (lv_at hl 1 rfl) ?_
                  refine lv_iload hx hb dL_flaws_288 (lv_at hl 0 rfl) ?_
                  obtain ⟨j29, hj29, h⟩ := jn_elim h
                  have Jj29 : ∀ (x28 : Int32) (cu su : Nat) (hcu : cu + (f14 * 167 + f2 * 836 + 1) ≤ 10868 ∧ su + 12 * (f14 * 167 + f2 * 836 + 1) ≤ 130416) (ls : Array Slot), j29 x28 = some rs → lv_has ls 12 [(0, .ref (a o)), (1, .int c1_7), (2, .int v2_10), (5, .int v5_21), (9, .int x26)] → W p l e (headSpec wsL_flaws ({ frames := 11, cells := 10868, slots := 130416, locals := 210 } : Room)).room s m ([.ref (a o)] : List Value).toArray below meth c H locs cu su (vx_MQ below (va_Qi (fun r (u : SX11) => (r, u) = (rs, S)) (fun u t => mB D s.heap.size (wX11 cy a o S) (wX11 cy a o u) t) (va_A (wX11 cy a o S) s.heap.size)) (fun _ _ _ => False) ([.ref (a o)] : List Value).toArray s 10868 130416 (va_A (wX11 cy a o S) s.heap.size)) (F0 m 298 ls [.int x28, .int x24]) := by
                    intro x28 cu su hcu ls h hl
                    rw [hj29] at h
                    refine lv_icmp_ne (tgt := 354) hx hb dL_flaws_298 (by decide) (fun cc => ?_) (fun cc => ?_)
                    · have h := ite_n cc h
                      exact hk8  cu su ⟨by omega, by omega⟩ H locs ls h hP hD hS (lv_sub hl [] rfl)
                    · have h := ite_p cc h
                      refine lv_iload hx hb dL_flaws_301 (lv_at hl 4 rfl) ?_
                      refine lv_if_lt (tgt := 354) hx hb dL_flaws_303 (by decide) (fun cc => ?_) (fun cc => ?_)
                      · have h := ite_p cc h
                        exact hk8  cu su ⟨by omega, by omega⟩ H locs ls h hP hD hS (lv_sub hl [] rfl)
                      · have h := ite_n cc h
                        refine lv_iload hx hb dL_flaws_306 (lv_at hl 4 rfl) ?_
                        refine lv_bipush (v := (6 : Int32)) hx hb dL_flaws_308 (by decide) ?_
                        refine lv_icmp_gt (tgt := 354) hx hb dL_flaws_310 (by decide) (fun cc => ?_) (fun cc => ?_)
                        · have h := ite_p cc h
                          exact hk8  cu su ⟨by omega, by omega⟩ H locs ls h hP hD hS (lv_sub hl [] rfl)
                        · have h := ite_n cc h
                          refine lv_iload hx hb dL_flaws_313 (lv_at hl 3 rfl) ?_
                          obtain ⟨j31, hj31, h⟩ := jn_elim h
                          have Jj31 : ∀ (x30 : Int32) (cu su : Nat) (hcu : cu + (f14 * 167 + f2 * 836 + 1) ≤ 10868 ∧ su + 12 * (f14 * 167 + f2 * 836 + 1) ≤ 130416) (ls : Array Slot), j31 x30 = some rs → lv_has ls 12 [(0, .ref (a o)), (1, .int c1_7), (2, .int v2_10), (5, .int v5_21), (9, .int x26)] → W p l e (headSpec wsL_flaws ({ frames := 11, cells := 10868, slots := 130416, locals := 210 } : Room)).room s m ([.ref (a o)] : List Value).toArray below meth c H locs cu su (vx_MQ below (va_Qi (fun r (u : SX11) => (r, u) = (rs, S)) (fun u t => mB D s.heap.size (wX11 cy a o S) (wX11 cy a o u) t) (va_A (wX11 cy a o S) s.heap.size)) (fun _ _ _ => False) ([.ref (a o)] : List Value).toArray s 10868 130416 (va_A (wX11 cy a o S) s.heap.size)) (F0 m 323 ls [.int x30]) := by
                            intro x30 cu su hcu ls h hl
                            rw [hj31] at h
                            refine lv_iload hx hb dL_flaws_323 (lv_at hl 4 rfl) ?_
                            refine lv_iconst (v := (1 : Int32)) hx hb dL_flaws_325 (by decide) ?_
                            obtain ⟨j33, hj33, h⟩ := jn_elim h
                            have Jj33 : ∀ (x32 : Int32) (cu su : Nat) (hcu : cu + (f14 * 167 + f2 * 836 + 1) ≤ 10868 ∧ su + 12 * (f14 * 167 + f2 * 836 + 1) ≤ 130416) (ls : Array Slot), j33 x32 = some rs → lv_has ls 12 [(0, .ref (a o)), (1, .int c1_7), (2, .int v2_10), (5, .int v5_21)] → W p l e (headSpec wsL_flaws ({ frames := 11, cells := 10868, slots := 130416, locals := 210 } : Room)).room s m ([.ref (a o)] : List Value).toArray below meth c H locs cu su (vx_MQ below (va_Qi (fun r (u : SX11) => (r, u) = (rs, S)) (fun u t => mB D s.heap.size (wX11 cy a o S) (wX11 cy a o u) t) (va_A (wX11 cy a o S) s.heap.size)) (fun _ _ _ => False) ([.ref (a o)] : List Value).toArray s 10868 130416 (va_A (wX11 cy a o S) s.heap.size)) (F0 m 334 ls [.int x32, .int x30]) := by
                              intro x32 cu su hcu ls h hl
                              rw [hj33] at h
                              refine lv_icmp_ne (tgt := 354) hx hb dL_flaws_334 (by decide) (fun cc => ?_) (fun cc => ?_)
                              · have h := ite_n cc h
                                exact hk8  cu su ⟨by omega, by omega⟩ H locs ls h hP hD hS (lv_sub hl [] rfl)
                              · have h := ite_p cc h
                                refine lv_iload hx hb dL_flaws_337 (lv_at hl 3 rfl) ?_
                                refine lv_iconst (v := (4 : Int32)) hx hb dL_flaws_339 (by decide) ?_
                                refine lv_icmp_gt (tgt := 354) hx hb dL_flaws_340 (by decide) (fun cc => ?_) (fun cc => ?_)
                                · have h := ite_p cc h
                                  exact hk8  cu su ⟨by omega, by omega⟩ H locs ls h hP hD hS (lv_sub hl [] rfl)
                                · have h := ite_n cc h
                                  refine lv_aload_n hx hb dL_flaws_343 rfl (lv_at hl 0 rfl) ?_
                                  refine lv_iload_n hx hb dL_flaws_344 rfl (lv_at hl 1 rfl) ?_
                                  refine lv_iload_n hx hb dL_flaws_345 rfl (lv_at hl 2 rfl) ?_
                                  refine lv_iconst (v := (-1 : Int32)) hx hb dL_flaws_346 (by decide) ?_
                                  obtain ⟨x34, e35, h⟩ := bd_some h
                                  refine lcW (Re := []) (S := S) (rs := (x34, S)) (c2 := (cu + 1)) (s2 := (su + 6)) hG hGX hN hP hD hS hA (fun h1 h2 => vx_runSX (As := [.ref (a o), .int c1_7, .int v2_10, .int (-1 : Int32)]) (rest := []) ⟨hx, hb, hml, hown, hts⟩ (qL_program l hl9 D cy tt a o S c1_7 v2_10 (-1 : Int32) (H).size x34 e35) (vx_cwSW 4 hts gL_flaws_L_program rfl rfl rfl (by decide +kernel) ⟨Nat.le_of_ble_eq_true rfl, Nat.le_of_ble_eq_true rfl⟩) ⟨h1, h2⟩ rfl rfl hl.1 rfl (lv_room (Nat.le_of_ble_eq_true rfl)) dL_flaws_347 ⟨show cu + 1 ≤ 10868 by omega, show su + 6 ≤ 130416 by omega⟩) rfl rfl (fun H locs hP hD hS => ?_)
                                  refine lv_iconst (v := (-1 : Int32)) hx hb dL_flaws_350 (by decide) ?_
                                  refine lv_icmp_eq (tgt := 356) hx hb dL_flaws_351 (by decide) (fun cc => ?_) (fun cc => ?_)
                                  · have h := ite_p cc h
                                    refine lv_iinc (v := (v2_10 + (1 : Int32))) (lv' := [(2, .int (v2_10 + (1 : Int32))), (0, .ref (a o)), (1, .int c1_7), (5, .int v5_21)]) hx hb dL_flaws_356 hl (k := 2) rfl (by rfl) (by decide) rfl (fun ls hl => ?_)
                                    refine lv_goto (tgt := 14) hx hb dL_flaws_359 (by decide) ?_
                                    exact ih14 (v2_10 + (1 : Int32)) (cu + 1) (su + 6) ⟨by omega, by omega⟩ H locs ls h hP hD hS (lv_sub hl [1, 2, 0] rfl)
                                  · have h := ite_n cc h
                                    exact hk8  (cu + 1) (su + 6) ⟨by omega, by omega⟩ H locs ls h hP hD hS (lv_sub hl [] rfl)
                            refine lv_icmp_ne (tgt := 333) hx hb dL_flaws_326 (by decide) (fun cc => ?_) (fun cc => ?_)
                            · have h := ite_n cc h
                              refine lv_iconst (v := (0 : Int32)) hx hb dL_flaws_333 (by decide) ?_
                              exact Jj33 (0 : Int32) cu su ⟨by omega, by omega⟩ ls h (lv_sub hl [0, 1, 2, 3] rfl)
                            · have h := ite_p cc h
                              refine lv_iconst (v := (1 : Int32)) hx hb dL_flaws_329 (by decide) ?_
                              refine lv_goto (tgt := 334) hx hb dL_flaws_330 (by decide) ?_
                              exact Jj33 (1 : Int32) cu su ⟨by omega, by omega⟩ ls h (lv_sub hl [0, 1, 2, 3] rfl)
                          refine lv_if_ne (tgt := 322) hx hb dL_flaws_315 (by decide) (fun cc => ?_) (fun cc => ?_)
                          · have h := ite_n cc h
                            refine lv_iconst (v := (0 : Int32)) hx hb dL_flaws_322 (by decide) ?_
                            exact Jj31 (0 : Int32) cu su ⟨by omega, by omega⟩ ls h (lv_sub hl [0, 1, 2, 3, 4] rfl)
                          · have h := ite_p cc h
                            refine lv_iconst (v := (1 : Int32)) hx hb dL_flaws_318 (by decide) ?_
                            refine lv_goto (tgt := 323) hx hb dL_flaws_319 (by decide) ?_
                            exact Jj31 (1 : Int32) cu su ⟨by omega, by omega⟩ ls h (lv_sub hl [0, 1, 2, 3, 4] rfl)
                  refine lv_if_ne (tgt := 297) hx hb dL_flaws_290 (by decide) (fun cc => ?_) (fun cc => ?_)
                  · have h := ite_n cc h
                    refine lv_iconst (v := (0 : Int32)) hx hb dL_flaws_297 (by decide) ?_
                    exact Jj29 (0 : Int32) (cu + 1) (su + 6) ⟨by omega, by omega⟩ ls h (lv_sub hl [2, 3, 4, 5, 0] rfl)
                  · have h := ite_p cc h
                    refine lv_iconst (v := (1 : Int32)) hx hb dL_flaws_293 (by decide) ?_
                    refine lv_goto (tgt := 298) hx hb dL_flaws_294 (by decide) ?_
                    exact Jj29 (1 : Int32) (cu + 1) (su + 6) ⟨by omega, by omega⟩ ls h (lv_sub hl [2, 3, 4, 5, 0] rfl)
                obtain ⟨j36, hj36, h⟩ := jn_elim h
                have Jj36 : ∀ (cu su : Nat) (hcu : cu + (f14 * 167 + f2 * 836 + 2) ≤ 10868 ∧ su + 12 * (f14 * 167 + f2 * 836 + 2) ≤ 130416) (H : Heap) (locs : List Loc) (ls : Array Slot), j36 () = some rs → va_P D vwCl (wX11 cy a o S) H → va_D (va_A (wX11 cy a o S) s.heap.size) (wX11 cy a o S) → va_S (va_A (wX11 cy a o S) s.heap.size) s.heap H locs → lv_has ls 12 [(0, .ref (a o)), (1, .int c1_7), (2, .int v2_10), (5, .int v5_21)] → W p l e (headSpec wsL_flaws ({ frames := 11, cells := 10868, slots := 130416, locals := 210 } : Room)).room s m ([.ref (a o)] : List Value).toArray below meth c H locs cu su (vx_MQ below (va_Qi (fun r (u : SX11) => (r, u) = (rs, S)) (fun u t => mB D s.heap.size (wX11 cy a o S) (wX11 cy a o u) t) (va_A (wX11 cy a o S) s.heap.size)) (fun _ _ _ => False) ([.ref (a o)] : List Value).toArray s 10868 130416 (va_A (wX11 cy a o S) s.heap.size)) (F0 m 275 ls []) := by
                  intro cu su hcu H locs ls h hP hD hS hl
                  rw [hj36] at h
                  refine lv_iconst (v := (0 : Int32)) hx hb dL_flaws_275 (by decide) ?_
                  exact Jj25 (0 : Int32) cu su ⟨by omega, by omega⟩ H locs ls h hP hD hS (lv_sub hl [0, 1, 2, 3] rfl)
                refine lv_if_le (tgt := 275) hx hb dL_flaws_209 (by decide) (fun cc => ?_) (fun cc => ?_)
                · have h := ite_p cc h
                  exact Jj36  cu su ⟨by omega, by omega⟩ H locs ls h hP hD hS (lv_sub hl [0, 1, 2, 5] rfl)
                · have h := ite_n cc h
                  refine lv_iload_n hx hb dL_flaws_212 rfl (lv_at hl 3 rfl) ?_
                  refine lv_aload_n hx hb dL_flaws_213 rfl (lv_at hl 0 rfl) ?_
                  refine lv_iload_n hx hb dL_flaws_214 rfl (lv_at hl 2 rfl) ?_
                  refine lv_iconst (v := (0 : Int32)) hx hb dL_flaws_215 (by decide) ?_
                  obtain ⟨x37, e38, h⟩ := bd_some h
                  refine lcW (Re := []) (S := S) (rs := (x37, S)) (c2 := (cu + 1)) (s2 := (su + 6)) hG hGX hN hP hD hS hA (fun h1 h2 => vx_runSX (As := [.ref (a o), .int v2_10, .int (0 : Int32)]) (rest := [.int v3_19]) ⟨hx, hb, hml, hown, hts⟩ (qL_rule l hl9 D cy tt a o S v2_10 (0 : Int32) (H).size x37 e38) (vx_cwSW 3 hts gL_flaws_L_rule rfl rfl rfl (by decide +kernel) ⟨Nat.le_of_ble_eq_true rfl, Nat.le_of_ble_eq_true rfl⟩) ⟨h1, h2⟩ rfl rfl hl.1 rfl (lv_room (Nat.le_of_ble_eq_true rfl)) dL_flaws_216 ⟨show cu + 1 ≤ 10868 by omega, show su + 6 ≤ 130416 by omega⟩) rfl rfl (fun H locs hP hD hS => ?_)
                  refine lv_icmp_lt (tgt := 275) hx hb dL_flaws_219 (by decide) (fun cc => ?_) (fun cc => ?_)
                  · have h := ite_p cc h
                    exact Jj36  (cu + 1) (su + 6) ⟨by omega, by omega⟩ H locs ls h hP hD hS (lv_sub hl [0, 1, 2, 5] rfl)
                  · have h := ite_n cc h
                    refine lv_iload_n hx hb dL_flaws_222 rfl (lv_at hl 3 rfl) ?_
                    refine lv_aload_n hx hb dL_flaws_223 rfl (lv_at hl 0 rfl) ?_
                    refine lv_iload_n hx hb dL_flaws_224 rfl (lv_at hl 2 rfl) ?_
                    refine lv_iconst (v := (1 : Int32)) hx hb dL_flaws_225 (by decide) ?_
                    obtain ⟨x39, e40, h⟩ := bd_some h
                    refine lcW (Re := []) (S := S) (rs := (x39, S)) (c2 := (cu + 2)) (s2 := (su + 12)) hG hGX hN hP hD hS hA (fun h1 h2 => vx_runSX (As := [.ref (a o), .int v2_10, .int (1 : Int32)]) (rest := [.int v3_19]) ⟨hx, hb, hml, hown, hts⟩ (qL_rule l hl9 D cy tt a o S v2_10 (1 : Int32) (H).size x39 e40) (vx_cwSW 3 hts gL_flaws_L_rule rfl rfl rfl (by decide +kernel) ⟨Nat.le_of_ble_eq_true rfl, Nat.le_of_ble_eq_true rfl⟩) ⟨h1, h2⟩ rfl rfl hl.1 rfl (lv_room (Nat.le_of_ble_eq_true rfl)) dL_flaws_226 ⟨show (cu + 1) + 1 ≤ 10868 by omega, show (su + 6) + 6 ≤ 130416 by omega⟩) rfl rfl (fun H locs hP hD hS => ?_)
                    refine lv_icmp_gt (tgt := 275) hx hb dL_flaws_229 (by decide) (fun cc => ?_) (fun cc => ?_)
                    · have h := ite_p cc h
                      exact Jj36  (cu + 2) (su + 12) ⟨by omega, by omega⟩ H locs ls h hP hD hS (lv_sub hl [0, 1, 2, 5] rfl)
                    · have h := ite_n cc h
                      refine lv_aload_n hx hb dL_flaws_232 rfl (lv_at hl 0 rfl) ?_
                      refine lv_iload_n hx hb dL_flaws_233 rfl (lv_at hl 2 rfl) ?_
                      refine lv_iconst (v := (2 : Int32)) hx hb dL_flaws_234 (by decide) ?_
                      obtain ⟨x41, e42, h⟩ := bd_some h
                      refine lcW (Re := []) (S := S) (rs := (x41, S)) (c2 := (cu + 3)) (s2 := (su + 18)) hG hGX hN hP hD hS hA (fun h1 h2 => vx_runSX (As := [.ref (a o), .int v2_10, .int (2 : Int32)]) (rest := []) ⟨hx, hb, hml, hown, hts⟩ (qL_rule l hl9 D cy tt a o S v2_10 (2 : Int32) (H).size x41 e42) (vx_cwSW 3 hts gL_flaws_L_rule rfl rfl rfl (by decide +kernel) ⟨Nat.le_of_ble_eq_true rfl, Nat.le_of_ble_eq_true rfl⟩) ⟨h1, h2⟩ rfl rfl hl.1 rfl (lv_room (Nat.le_of_ble_eq_true rfl)) dL_flaws_235 ⟨show (cu + 2) + 1 ≤ 10868 by omega, show (su + 12) + 6 ≤ 130416 by omega⟩) rfl rfl (fun H locs hP hD hS => ?_)
                      refine lv_iload hx hb dL_flaws_238 (lv_at hl 4 rfl) ?_
                      refine lv_iconst (v := (-1 : Int32)) hx hb dL_flaws_240 (by decide) ?_
                      refine lv_ixor hx hb dL_flaws_241 ?_
                      refine lv_iand hx hb dL_flaws_242 ?_
                      refine lv_if_ne (tgt := 275) hx hb dL_flaws_243 (by decide) (fun cc => ?_) (fun cc => ?_)
                      · have h := ite_n cc h
                        exact Jj36  (cu + 3) (su + 18) ⟨by omega, by omega⟩ H locs ls h hP hD hS (lv_sub hl [0, 1, 2, 5] rfl)
                      · have h := ite_p cc h
                        refine lv_iload hx hb dL_flaws_246 (lv_at hl 6 rfl) ?_
                        refine lv_aload_n hx hb dL_flaws_248 rfl (lv_at hl 0 rfl) ?_
                        refine lv_iload_n hx hb dL_flaws_249 rfl (lv_at hl 2 rfl) ?_
                        refine lv_iconst (v := (3 : Int32)) hx hb dL_flaws_250 (by decide) ?_
                        obtain ⟨x43, e44, h⟩ := bd_some h
                        refine lcW (Re := []) (S := S) (rs := (x43, S)) (c2 := (cu + 4)) (s2 := (su + 24)) hG hGX hN hP hD hS hA (fun h1 h2 => vx_runSX (As := [.ref (a o), .int v2_10, .int (3 : Int32)]) (rest := [.int v6_22]) ⟨hx, hb, hml, hown, hts⟩ (qL_rule l hl9 D cy tt a o S v2_10 (3 : Int32) (H).size x43 e44) (vx_cwSW 3 hts gL_flaws_L_rule rfl rfl rfl (by decide +kernel) ⟨Nat.le_of_ble_eq_true rfl, Nat.le_of_ble_eq_true rfl⟩) ⟨h1, h2⟩ rfl rfl hl.1 rfl (lv_room (Nat.le_of_ble_eq_true rfl)) dL_flaws_251 ⟨show (cu + 3) + 1 ≤ 10868 by omega, show (su + 18) + 6 ≤ 130416 by omega⟩) rfl rfl (fun H locs hP hD hS => ?_)
                        refine lv_icmp_gt (tgt := 275) hx hb dL_flaws_254 (by decide) (fun cc => ?_) (fun cc => ?_)
                        · have h := ite_p cc h
                          exact Jj36  (cu + 4) (su + 24) ⟨by omega, by omega⟩ H locs ls h hP hD hS (lv_sub hl [0, 1, 2, 5] rfl)
                        · have h := ite_n cc h
                          refine lv_aload_n hx hb dL_flaws_257 rfl (lv_at hl 0 rfl) ?_
                          refine lv_iload_n hx hb dL_flaws_258 rfl (lv_at hl 2 rfl) ?_
                          refine lv_iconst (v := (4 : Int32)) hx hb dL_flaws_259 (by decide) ?_
                          obtain ⟨x45, e46, h⟩ := bd_some h
                          refine lcW (Re := []) (S := S) (rs := (x45, S)) (c2 := (cu + 5)) (s2 := (su + 30)) hG hGX hN hP hD hS hA (fun h1 h2 => vx_runSX (As := [.ref (a o), .int v2_10, .int (4 : Int32)]) (rest := []) ⟨hx, hb, hml, hown, hts⟩ (qL_rule l hl9 D cy tt a o S v2_10 (4 : Int32) (H).size x45 e46) (vx_cwSW 3 hts gL_flaws_L_rule rfl rfl rfl (by decide +kernel) ⟨Nat.le_of_ble_eq_true rfl, Nat.le_of_ble_eq_true rfl⟩) ⟨h1, h2⟩ rfl rfl hl.1 rfl (lv_room (Nat.le_of_ble_eq_true rfl)) dL_flaws_260 ⟨show (cu + 4) + 1 ≤ 10868 by omega, show (su + 24) + 6 ≤ 130416 by omega⟩) rfl rfl (fun H locs hP hD hS => ?_)
                          obtain ⟨j47, hj47, h⟩ := jn_elim h
                          have Jj47 : ∀ (cu su : Nat) (hcu : cu + (f14 * 167 + f2 * 836 + 2) ≤ 10868 ∧ su + 12 * (f14 * 167 + f2 * 836 + 2) ≤ 130416) (ls : Array Slot), j47 () = some rs → lv_has ls 12 [(0, .ref (a o)), (1, .int c1_7), (2, .int v2_10), (5, .int v5_21)] → W p l e (headSpec wsL_flaws ({ frames := 11, cells := 10868, slots := 130416, locals := 210 } : Room)).room s m ([.ref (a o)] : List Value).toArray below meth c H locs cu su (vx_MQ below (va_Qi (fun r (u : SX11) => (r, u) = (rs, S)) (fun u t => mB D s.heap.size (wX11 cy a o S) (wX11 cy a o u) t) (va_A (wX11 cy a o S) s.heap.size)) (fun _ _ _ => False) ([.ref (a o)] : List Value).toArray s 10868 130416 (va_A (wX11 cy a o S) s.heap.size)) (F0 m 271 ls []) := by
                            intro cu su hcu ls h hl
                            rw [hj47] at h
                            refine lv_iconst (v := (1 : Int32)) hx hb dL_flaws_271 (by decide) ?_
                            refine lv_goto (tgt := 276) hx hb dL_flaws_272 (by decide) ?_
                            exact Jj25 (1 : Int32) cu su ⟨by omega, by omega⟩ H locs ls h hP hD hS (lv_sub hl [0, 1, 2, 3] rfl)
                          refine lv_if_eq (tgt := 271) hx hb dL_flaws_263 (by decide) (fun cc => ?_) (fun cc => ?_)
                          · have h := ite_p cc h
                            exact Jj47  (cu + 5) (su + 30) ⟨by omega, by omega⟩ ls h (lv_sub hl [0, 1, 2, 5] rfl)
                          · have h := ite_n cc h
                            refine lv_iload hx hb dL_flaws_266 (lv_at hl 7 rfl) ?_
                            refine lv_if_ne (tgt := 275) hx hb dL_flaws_268 (by decide) (fun cc => ?_) (fun cc => ?_)
                            · have h := ite_n cc h
                              exact Jj36  (cu + 5) (su + 30) ⟨by omega, by omega⟩ H locs ls h hP hD hS (lv_sub hl [0, 1, 2, 5] rfl)
                            · have h := ite_p cc h
                              exact Jj47  (cu + 5) (su + 30) ⟨by omega, by omega⟩ ls h (lv_sub hl [0, 1, 2, 5] rfl)
          refine L105 v1_4 _ hk2 _ ?_ 5 (0 : Int32) (cu + 1) (su + 6) ⟨by omega, by omega⟩ H locs ls h hP hD hS (lv_sub hl [1, 2, 0] rfl)
          intro cu su hcu H locs ls h hP hD hS hl
          refine lv_iinc (v := (v1_4 + (1 : Int32))) (lv' := [(1, .int (v1_4 + (1 : Int32))), (0, .ref (a o))]) hx hb dL_flaws_362 hl (k := 1) rfl (by rfl) (by decide) rfl (fun ls hl => ?_)
          refine lv_goto (tgt := 2) hx hb dL_flaws_365 (by decide) ?_
          exact ih2 (v1_4 + (1 : Int32)) cu su ⟨by omega, by omega⟩ H locs ls h hP hD hS (lv_sub hl [1, 0] rfl)
    refine L106  _ Jj1 _ ?_ 13 (0 : Int32) cu su ⟨by omega, by omega⟩ s.heap [] ls h hP hD hS (lv_sub hl [1, 0] rfl)
    intro cu su hcu H locs ls h hP hD hS hl
    refine lv_iconst (v := (1 : Int32)) hx hb dL_flaws_368 (by decide) ?_
    refine vx_ret (W.widen (k := 10868) (n := 130416) (by omega) (by omega) ?_)
    exact W.zret (v := (1 : Int32)) hx hb hr rfl (fun t ht hW => ⟨⟨(1 : Int32), S, rfl, (congrArg (fun z => (z, S)) (some_in h)), by rw [ht]; exact cutP hP (pmA [] (wX11 cy a o S)), cutD hD (pmA [] (wX11 cy a o S))⟩, hS.F ht⟩) hS.2.2 dL_flaws_369
  exact start 0 0 ⟨by omega, by omega⟩
