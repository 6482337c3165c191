set_option maxHeartbeats 8000000 in
set_option maxRecDepth 100000 in
theorem qL_needs (l : Launch) (hl9 : l.stackTraces = false) (D : va_G) (cy : Nat → ClassId) (tt : Nat → Nat) (a : Nat → Nat) (o : Nat) (S : SX11) (p1 : Int32) (p2 : Int32) (p3 : Int32) (sz : Nat) (rs : Int32 × SX11) (h : DL_needs S p1 p2 p3 = some rs) : vx_Met l yL_needs wsL_needs ({ frames := 11, cells := 8, slots := 96, locals := 276 } : Room) (lP D cy tt sz [.ref (a o), .int p1, .int p2, .int p3] (wX11 cy a o S)) (va_Qi (fun r (u : SX11) => (r, u) = rs) (fun u t => mB D sz (wX11 cy a o S) (wX11 cy a o u) t) (va_A (wX11 cy a o S) sz)) (fun _ _ _ => False) 8 96 (va_A (wX11 cy a o S) sz) := by
  refine vx_ofW (cc := cL_needs) (maxL := 7) (ret := (some .boolean)) (by decide) rfl ?_
  intro p e s m args below meth c s₁ B hml htab hv
  obtain ⟨rfl, hsz, hP, hG, hD0, hGX, hN⟩ := hv
  have hx := B.exec
  have hb := B.bytes
  have hr := B.returns
  have hts := atoms_spec (ws := wsL_needs) B.pre
  have hown : s.vm.findClass RL = some m.cls := findClass_of_methodNamed B.named
  have hlocks := B.notSynchronized
  have hK := hG.1
  subst hsz
  have hD := hD0.self (sz := s.heap.size)
  have hA : ∀ q : Nat, s.heap.size ≤ q → (va_A (wX11 cy a o S) s.heap.size) q := fun q h => Or.inr h
  have hS : va_S (va_A (wX11 cy a o S) s.heap.size) s.heap s.heap [] := va_S.rf
  have hl := lv_entry ([.ref (a o), .int p1, .int p2, .int p3]) (n := 7) (Nat.le_of_ble_eq_true rfl)
  rw [lg_entry_eq]
  generalize (lg_sl ([.ref (a o), .int p1, .int p2, .int p3]) ++ List.replicate (7 - (lg_sl ([.ref (a o), .int p1, .int p2, .int p3])).length) Slot.unset).toArray = ls at hl ⊢
  have hl : lv_has ls 7 [(0, .ref (a o)), (1, .int p1), (2, .int p2), (3, .int p3)] := hl
  rw [DL_needs] at h
  have start : ∀ (cu su : Nat) (hcu : cu + (8) ≤ 8 ∧ su + 12 * (8) ≤ 96), W p l e (headSpec wsL_needs ({ frames := 11, cells := 8, slots := 96, locals := 276 } : Room)).room s m ([.ref (a o), .int p1, .int p2, .int p3] : List Value).toArray below meth c s.heap [] cu su (vx_MQ below (va_Qi (fun r (u : SX11) => (r, u) = rs) (fun u t => mB D s.heap.size (wX11 cy a o S) (wX11 cy a o u) t) (va_A (wX11 cy a o S) s.heap.size)) (fun _ _ _ => False) ([.ref (a o), .int p1, .int p2, .int p3] : List Value).toArray s 8 96 (va_A (wX11 cy a o S) s.heap.size)) (F0 m 0 ls []) := by
    intro cu su hcu
    refine lv_aload_n hx hb dL_needs_0 rfl (lv_at hl 0 rfl) ?_
    refine lv_iload_n hx hb dL_needs_1 rfl (lv_at hl 1 rfl) ?_
    refine lv_iload_n hx hb dL_needs_2 rfl (lv_at hl 2 rfl) ?_
    refine lv_iload_n hx hb dL_needs_3 rfl (lv_at hl 3 rfl) ?_
    obtain ⟨x1, e2, h⟩ := bd_some h
    refine lcW (Re := []) (S := S) (rs := (x1, S)) (c2 := (cu + 1)) (s2 := (su + 6)) hG hGX hN hP hD hS hA (fun h1 h2 => vx_runSX (As := [.ref (a o), .int p1, .int p2, .int p3]) (rest := []) ⟨hx, hb, hml, hown, hts⟩ (qL_neededMark l hl9 D cy tt a o S p1 p2 p3 (s.heap).size x1 e2) (vx_cwSW 4 hts gL_needs_L_neededMark rfl rfl rfl (by decide +kernel) ⟨Nat.le_of_ble_eq_true rfl, Nat.le_of_ble_eq_true rfl⟩) ⟨h1, h2⟩ rfl rfl hl.1 rfl (lv_room (Nat.le_of_ble_eq_true rfl)) dL_needs_4 ⟨show cu + 1 ≤ 8 by omega, show su + 6 ≤ 96 by omega⟩) rfl rfl (fun H locs hP hD hS => ?_)
    refine lv_istore (lv' := [(4, .int x1), (0, .ref (a o)), (1, .int p1), (2, .int p2), (3, .int p3)]) hx hb dL_needs_7 hl (by decide) rfl (fun ls hl => ?_)
    refine lv_aload_n hx hb dL_needs_9 rfl (lv_at hl 1 rfl) ?_
    refine lv_iload_n hx hb dL_needs_10 rfl (lv_at hl 2 rfl) ?_
    refine lv_iload_n hx hb dL_needs_11 rfl (lv_at hl 3 rfl) ?_
    refine lv_iconst (v := (0 : Int32)) hx hb dL_needs_12 (by decide) ?_
    obtain ⟨x3, e4, h⟩ := bd_some h
    refine lcW (Re := []) (S := S) (rs := (x3, S)) (c2 := (cu + 2)) (s2 := (su + 12)) hG hGX hN hP hD hS hA (fun h1 h2 => vx_runSX (As := [.ref (a o), .int p1, .int p2, .int (0 : Int32)]) (rest := []) ⟨hx, hb, hml, hown, hts⟩ (qL_neededMark l hl9 D cy tt a o S p1 p2 (0 : Int32) (H).size x3 e4) (vx_cwSW 4 hts gL_needs_L_neededMark rfl rfl rfl (by decide +kernel) ⟨Nat.le_of_ble_eq_true rfl, Nat.le_of_ble_eq_true rfl⟩) ⟨h1, h2⟩ rfl rfl hl.1 rfl (lv_room (Nat.le_of_ble_eq_true rfl)) dL_needs_13 ⟨show (cu + 1) + 1 ≤ 8 by omega, show (su + 6) + 6 ≤ 96 by omega⟩) rfl rfl (fun H locs hP hD hS => ?_)
    refine lv_istore (lv' := [(5, .int x3), (4, .int x1), (0, .ref (a o)), (1, .int p1), (2, .int p2), (3, .int p3)]) hx hb dL_needs_16 hl (by decide) rfl (fun ls hl => ?_)
    refine lv_iload hx hb dL_needs_18 (lv_at hl 1 rfl) ?_
    refine lv_iconst (v := (-1 : Int32)) hx hb dL_needs_20 (by decide) ?_
    refine lv_icmp_ge (tgt := 77) hx hb dL_needs_21 (by decide) (fun cc => ?_) (fun cc => ?_)
    · have h := ite_p cc h
      refine lv_iload hx hb dL_needs_77 (lv_at hl 0 rfl) ?_
      refine lv_if_eq (tgt := 84) hx hb dL_needs_79 (by decide) (fun cc => ?_) (fun cc => ?_)
      · have h := ite_p cc h
        refine lv_iconst (v := (1 : Int32)) hx hb dL_needs_84 (by decide) ?_
        refine lv_istore (lv' := [(6, .int (1 : Int32)), (5, .int x3), (4, .int x1), (0, .ref (a o)), (1, .int p1), (2, .int p2), (3, .int p3)]) hx hb dL_needs_85 hl (by decide) rfl (fun ls hl => ?_)
        refine lv_iload hx hb dL_needs_87 (lv_at hl 2 rfl) ?_
        obtain ⟨j7, hj7, h⟩ := jn_elim h
        have Jj7 : ∀ (v6_5 : Int32) (S_6 : SX11) (cu su : Nat) (hcu : cu + (3) ≤ 8 ∧ su + 12 * (3) ≤ 96) (H : Heap) (locs : List Loc) (ls : Array Slot), j7 v6_5 S_6 = some rs → va_P D vwCl (wX11 cy a o S_6) H → va_D (va_A (wX11 cy a o S) s.heap.size) (wX11 cy a o S_6) → va_S (va_A (wX11 cy a o S) s.heap.size) s.heap H locs → lv_has ls 7 [(0, .ref (a o)), (1, .int p1), (2, .int p2), (3, .int p3), (4, .int x1), (6, .int v6_5)] → W p l e (headSpec wsL_needs ({ frames := 11, cells := 8, slots := 96, locals := 276 } : Room)).room s m ([.ref (a o), .int p1, .int p2, .int p3] : List Value).toArray below meth c H locs cu su (vx_MQ below (va_Qi (fun r (u : SX11) => (r, u) = rs) (fun u t => mB D s.heap.size (wX11 cy a o S) (wX11 cy a o u) t) (va_A (wX11 cy a o S) s.heap.size)) (fun _ _ _ => False) ([.ref (a o), .int p1, .int p2, .int p3] : List Value).toArray s 8 96 (va_A (wX11 cy a o S) s.heap.size)) (F0 m 129 ls []) := by
          intro v6_5 S_6 cu su hcu H locs ls h hP hD hS hl
          rw [hj7] at h
          refine lv_iload hx hb dL_needs_129 (lv_at hl 4 rfl) ?_
          obtain ⟨j10, hj10, h⟩ := jn_elim h
          have Jj10 : ∀ (v6_8 : Int32) (S_9 : SX11) (cu su : Nat) (hcu : cu + (0) ≤ 8 ∧ su + 12 * (0) ≤ 96) (H : Heap) (locs : List Loc) (ls : Array Slot), j10 v6_8 S_9 = some rs → va_P D vwCl (wX11 cy a o S_9) H → va_D (va_A (wX11 cy a o S) s.heap.size) (wX11 cy a o S_9) → va_S (va_A (wX11 cy a o S) s.heap.size) s.heap H locs → lv_has ls 7 [(6, .int v6_8)] → W p l e (headSpec wsL_needs ({ frames := 11, cells := 8, slots := 96, locals := 276 } : Room)).room s m ([.ref (a o), .int p1, .int p2, .int p3] : List Value).toArray below meth c H locs cu su (vx_MQ below (va_Qi (fun r (u : SX11) => (r, u) = rs) (fun u t => mB D s.heap.size (wX11 cy a o S) (wX11 cy a o u) t) (va_A (wX11 cy a o S) s.heap.size)) (fun _ _ _ => False) ([.ref (a o), .int p1, .int p2, .int p3] : List Value).toArray s 8 96 (va_A (wX11 cy a o S) s.heap.size)) (F0 m 212 ls []) := by
            intro v6_8 S_9 cu su hcu H locs ls h hP hD hS hl
            rw [hj10] at h
            refine lv_iload hx hb dL_needs_212 (lv_at hl 0 rfl) ?_
            obtain ⟨g11, h⟩ := gd_some h
            refine vx_ret (W.widen (k := 8) (n := 96) (by omega) (by omega) ?_)
            exact W.zret (v := v6_8) hx hb hr (zN g11) (fun t ht hW => ⟨⟨v6_8, S_9, rfl, (some_in h), by rw [ht]; exact cutP hP (pmA [] (wX11 cy a o S_9)), cutD hD (pmA [] (wX11 cy a o S_9))⟩, hS.F ht⟩) hS.2.2 dL_needs_214
          refine lv_if_lt (tgt := 177) hx hb dL_needs_131 (by decide) (fun cc => ?_) (fun cc => ?_)
          · have h := ite_p cc h
            refine lv_aload_n hx hb dL_needs_177 rfl (lv_at hl 0 rfl) ?_
            refine lv_iload_n hx hb dL_needs_178 rfl (lv_at hl 1 rfl) ?_
            refine lv_iload_n hx hb dL_needs_179 rfl (lv_at hl 2 rfl) ?_
            refine lv_bipush (v := (100 : Int32)) hx hb dL_needs_180 (by decide) ?_
            obtain ⟨x12, e13, h⟩ := bd_some h
            refine lcW (Re := []) (S := S_6) (rs := x12) (c2 := (cu + 1)) (s2 := (su + 6)) hG hGX hN hP hD hS hA (fun h1 h2 => vx_runSX (As := [.ref (a o), .int p1, .int p2, .int (100 : Int32)]) (rest := []) ⟨hx, hb, hml, hown, hts⟩ (qL_mark l hl9 D cy tt a o S_6 p1 p2 (100 : Int32) (H).size x12 e13) (vx_cwSW 4 hts gL_needs_L_mark rfl rfl rfl (by decide +kernel) ⟨Nat.le_of_ble_eq_true rfl, Nat.le_of_ble_eq_true rfl⟩) ⟨h1, h2⟩ rfl rfl hl.1 rfl (lv_room (Nat.le_of_ble_eq_true rfl)) dL_needs_182 ⟨show cu + 1 ≤ 8 by omega, show su + 6 ≤ 96 by omega⟩) rfl rfl (fun H locs hP hD hS => ?_)
            obtain ⟨j16, hj16, h⟩ := jn_elim h
            have Jj16 : ∀ (x14 : Int32) (S_15 : SX11) (cu su : Nat) (hcu : cu + (0) ≤ 8 ∧ su + 12 * (0) ≤ 96) (H : Heap) (locs : List Loc) (ls : Array Slot), j16 x14 S_15 = some rs → va_P D vwCl (wX11 cy a o S_15) H → va_D (va_A (wX11 cy a o S) s.heap.size) (wX11 cy a o S_15) → va_S (va_A (wX11 cy a o S) s.heap.size) s.heap H locs → lv_has ls 7 [] → W p l e (headSpec wsL_needs ({ frames := 11, cells := 8, slots := 96, locals := 276 } : Room)).room s m ([.ref (a o), .int p1, .int p2, .int p3] : List Value).toArray below meth c H locs cu su (vx_MQ below (va_Qi (fun r (u : SX11) => (r, u) = rs) (fun u t => mB D s.heap.size (wX11 cy a o S) (wX11 cy a o u) t) (va_A (wX11 cy a o S) s.heap.size)) (fun _ _ _ => False) ([.ref (a o), .int p1, .int p2, .int p3] : List Value).toArray s 8 96 (va_A (wX11 cy a o S) s.heap.size)) (F0 m 210 ls [.int x14]) := by
              intro x14 S_15 cu su hcu H locs ls h hP hD hS hl
              rw [hj16] at h
              refine lv_istore (lv' := [(6, .int x14)]) hx hb dL_needs_210 hl (by decide) rfl (fun ls hl => ?_)
              exact Jj10 x14 S_15 cu su ⟨by omega, by omega⟩ H locs ls h hP hD hS (lv_sub hl [0] rfl)
            obtain ⟨j18, hj18, h⟩ := jn_elim h
            have Jj18 : ∀ (S_17 : SX11) (cu su : Nat) (hcu : cu + (0) ≤ 8 ∧ su + 12 * (0) ≤ 96) (H : Heap) (locs : List Loc) (ls : Array Slot), j18 S_17 = some rs → va_P D vwCl (wX11 cy a o S_17) H → va_D (va_A (wX11 cy a o S) s.heap.size) (wX11 cy a o S_17) → va_S (va_A (wX11 cy a o S) s.heap.size) s.heap H locs → lv_has ls 7 [] → W p l e (headSpec wsL_needs ({ frames := 11, cells := 8, slots := 96, locals := 276 } : Room)).room s m ([.ref (a o), .int p1, .int p2, .int p3] : List Value).toArray below meth c H locs cu su (vx_MQ below (va_Qi (fun r (u : SX11) => (r, u) = rs) (fun u t => mB D s.heap.size (wX11 cy a o S) (wX11 cy a o u) t) (va_A (wX11 cy a o S) s.heap.size)) (fun _ _ _ => False) ([.ref (a o), .int p1, .int p2, .int p3] : List Value).toArray s 8 96 (va_A (wX11 cy a o S) s.heap.size)) (F0 m 209 ls []) := by
              intro S_17 cu su hcu H locs ls h hP hD hS hl
              rw [hj18] at h
              refine lv_iconst (v := (0 : Int32)) hx hb dL_needs_209 (by decide) ?_
              exact Jj16 (0 : Int32) S_17 cu su ⟨by omega, by omega⟩ H locs ls h hP hD hS (lv_sub hl [] rfl)
            refine lv_if_lt (tgt := 209) hx hb dL_needs_185 (by decide) (fun cc => ?_) (fun cc => ?_)
            · have h := ite_p cc h
              exact Jj18 x12.2 (cu + 1) (su + 6) ⟨by omega, by omega⟩ H locs ls h hP hD hS (lv_sub hl [] rfl)
            · have h := ite_n cc h
              refine lv_aload_n hx hb dL_needs_188 rfl (lv_at hl 0 rfl) ?_
              refine lv_iload_n hx hb dL_needs_189 rfl (lv_at hl 2 rfl) ?_
              refine lv_iconst (v := (4 : Int32)) hx hb dL_needs_190 (by decide) ?_
              obtain ⟨x19, e20, h⟩ := bd_some h
              refine lcW (Re := []) (S := x12.2) (rs := (x19, x12.2)) (c2 := (cu + 2)) (s2 := (su + 12)) hG hGX hN hP hD hS hA (fun h1 h2 => vx_runSX (As := [.ref (a o), .int p2, .int (4 : Int32)]) (rest := []) ⟨hx, hb, hml, hown, hts⟩ (qL_entrant l hl9 D cy tt a o x12.2 p2 (4 : Int32) (H).size x19 e20) (vx_cwSW 3 hts gL_needs_L_entrant rfl rfl rfl (by decide +kernel) ⟨Nat.le_of_ble_eq_true rfl, Nat.le_of_ble_eq_true rfl⟩) ⟨h1, h2⟩ rfl rfl hl.1 rfl (lv_room (Nat.le_of_ble_eq_true rfl)) dL_needs_191 ⟨show (cu + 1) + 1 ≤ 8 by omega, show (su + 6) + 6 ≤ 96 by omega⟩) rfl rfl (fun H locs hP hD hS => ?_)
              refine lv_iload_n hx hb dL_needs_194 rfl (lv_at hl 3 rfl) ?_
              refine lv_icmp_ge (tgt := 209) hx hb dL_needs_195 (by decide) (fun cc => ?_) (fun cc => ?_)
              · have h := ite_p cc h
                exact Jj18 x12.2 (cu + 2) (su + 12) ⟨by omega, by omega⟩ H locs ls h hP hD hS (lv_sub hl [] rfl)
              · have h := ite_n cc h
                refine lv_aload_n hx hb dL_needs_198 rfl (lv_at hl 0 rfl) ?_
                obtain ⟨x21, e22, h⟩ := bd_some h
                refine lcW (Re := []) (S := x12.2) (rs := x21) (c2 := (cu + 3)) (s2 := (su + 18)) hG hGX hN hP hD hS hA (fun h1 h2 => vx_runSX (As := [.ref (a o)]) (rest := []) ⟨hx, hb, hml, hown, hts⟩ (qL_undo l hl9 D cy tt a o x12.2  (H).size x21 e22) (vx_cwSW 1 hts gL_needs_L_undo rfl rfl rfl (by decide +kernel) ⟨Nat.le_of_ble_eq_true rfl, Nat.le_of_ble_eq_true rfl⟩) ⟨h1, h2⟩ rfl rfl hl.1 rfl (lv_room (Nat.le_of_ble_eq_true rfl)) dL_needs_199 ⟨show (cu + 2) + 1 ≤ 8 by omega, show (su + 12) + 6 ≤ 96 by omega⟩) rfl rfl (fun H locs hP hD hS => ?_)
                refine lv_if_lt (tgt := 209) hx hb dL_needs_202 (by decide) (fun cc => ?_) (fun cc => ?_)
                · have h := ite_p cc h
                  exact Jj18 x21.2 (cu + 3) (su + 18) ⟨by omega, by omega⟩ H locs ls h hP hD hS (lv_sub hl [] rfl)
                · have h := ite_n cc h
                  refine lv_iconst (v := (1 : Int32)) hx hb dL_needs_205 (by decide) ?_
                  refine lv_goto (tgt := 210) hx hb dL_needs_206 (by decide) ?_
                  exact Jj16 (1 : Int32) x21.2 (cu + 3) (su + 18) ⟨by omega, by omega⟩ H locs ls h hP hD hS (lv_sub hl [] rfl)
          · have h := ite_n cc h
            refine lv_iload hx hb dL_needs_134 (lv_at hl 5 rfl) ?_
            obtain ⟨j25, hj25, h⟩ := jn_elim h
            have Jj25 : ∀ (x23 : Int32) (S_24 : SX11) (cu su : Nat) (hcu : cu + (0) ≤ 8 ∧ su + 12 * (0) ≤ 96) (H : Heap) (locs : List Loc) (ls : Array Slot), j25 x23 S_24 = some rs → va_P D vwCl (wX11 cy a o S_24) H → va_D (va_A (wX11 cy a o S) s.heap.size) (wX11 cy a o S_24) → va_S (va_A (wX11 cy a o S) s.heap.size) s.heap H locs → lv_has ls 7 [] → W p l e (headSpec wsL_needs ({ frames := 11, cells := 8, slots := 96, locals := 276 } : Room)).room s m ([.ref (a o), .int p1, .int p2, .int p3] : List Value).toArray below meth c H locs cu su (vx_MQ below (va_Qi (fun r (u : SX11) => (r, u) = rs) (fun u t => mB D s.heap.size (wX11 cy a o S) (wX11 cy a o u) t) (va_A (wX11 cy a o S) s.heap.size)) (fun _ _ _ => False) ([.ref (a o), .int p1, .int p2, .int p3] : List Value).toArray s 8 96 (va_A (wX11 cy a o S) s.heap.size)) (F0 m 172 ls [.int x23]) := by
              intro x23 S_24 cu su hcu H locs ls h hP hD hS hl
              rw [hj25] at h
              refine lv_istore (lv' := [(6, .int x23)]) hx hb dL_needs_172 hl (by decide) rfl (fun ls hl => ?_)
              refine lv_goto (tgt := 212) hx hb dL_needs_174 (by decide) ?_
              exact Jj10 x23 S_24 cu su ⟨by omega, by omega⟩ H locs ls h hP hD hS (lv_sub hl [0] rfl)
            obtain ⟨j27, hj27, h⟩ := jn_elim h
            have Jj27 : ∀ (S_26 : SX11) (cu su : Nat) (hcu : cu + (0) ≤ 8 ∧ su + 12 * (0) ≤ 96) (H : Heap) (locs : List Loc) (ls : Array Slot), j27 S_26 = some rs → va_P D vwCl (wX11 cy a o S_26) H → va_D (va_A (wX11 cy a o S) s.heap.size) (wX11 cy a o S_26) → va_S (va_A (wX11 cy a o S) s.heap.size) s.heap H locs → lv_has ls 7 [] → W p l e (headSpec wsL_needs ({ frames := 11, cells := 8, slots := 96, locals := 276 } : Room)).room s m ([.ref (a o), .int p1, .int p2, .int p3] : List Value).toArray below meth c H locs cu su (vx_MQ below (va_Qi (fun r (u : SX11) => (r, u) = rs) (fun u t => mB D s.heap.size (wX11 cy a o S) (wX11 cy a o u) t) (va_A (wX11 cy a o S) s.heap.size)) (fun _ _ _ => False) ([.ref (a o), .int p1, .int p2, .int p3] : List Value).toArray s 8 96 (va_A (wX11 cy a o S) s.heap.size)) (F0 m 171 ls []) := by
              intro S_26 cu su hcu H locs ls h hP hD hS hl
              rw [hj27] at h
              refine lv_iconst (v := (0 : Int32)) hx hb dL_needs_171 (by decide) ?_
              exact Jj25 (0 : Int32) S_26 cu su ⟨by omega, by omega⟩ H locs ls h hP hD hS (lv_sub hl [] rfl)
            refine lv_if_eq (tgt := 171) hx hb dL_needs_136 (by decide) (fun cc => ?_) (fun cc => ?_)
            · have h := ite_p cc h
              exact Jj27 S_6 cu su ⟨by omega, by omega⟩ H locs ls h hP hD hS (lv_sub hl [] rfl)
            · have h := ite_n cc h
              refine lv_aload_n hx hb dL_needs_139 rfl (lv_at hl 0 rfl) ?_
              refine lv_iload_n hx hb dL_needs_140 rfl (lv_at hl 1 rfl) ?_
              refine lv_iload_n hx hb dL_needs_141 rfl (lv_at hl 2 rfl) ?_
              refine lv_iload hx hb dL_needs_142 (lv_at hl 4 rfl) ?_
              obtain ⟨x28, e29, h⟩ := bd_some h
              refine lcW (Re := []) (S := S_6) (rs := x28) (c2 := (cu + 1)) (s2 := (su + 6)) hG hGX hN hP hD hS hA (fun h1 h2 => vx_runSX (As := [.ref (a o), .int p1, .int p2, .int x1]) (rest := []) ⟨hx, hb, hml, hown, hts⟩ (qL_mark l hl9 D cy tt a o S_6 p1 p2 x1 (H).size x28 e29) (vx_cwSW 4 hts gL_needs_L_mark rfl rfl rfl (by decide +kernel) ⟨Nat.le_of_ble_eq_true rfl, Nat.le_of_ble_eq_true rfl⟩) ⟨h1, h2⟩ rfl rfl hl.1 rfl (lv_room (Nat.le_of_ble_eq_true rfl)) dL_needs_144 ⟨show cu + 1 ≤ 8 by omega, show su + 6 ≤ 96 by omega⟩) rfl rfl (fun H locs hP hD hS => ?_)
              refine lv_if_lt (tgt := 171) hx hb dL_needs_147 (by decide) (fun cc => ?_) (fun cc => ?_)
              · have h := ite_p cc h
                exact Jj27 x28.2 (cu + 1) (su + 6) ⟨by omega, by omega⟩ H locs ls h hP hD hS (lv_sub hl [] rfl)
              · have h := ite_n cc h
                refine lv_aload_n hx hb dL_needs_150 rfl (lv_at hl 0 rfl) ?_
                refine lv_iload_n hx hb dL_needs_151 rfl (lv_at hl 2 rfl) ?_
                refine lv_iconst (v := (4 : Int32)) hx hb dL_needs_152 (by decide) ?_
                obtain ⟨x30, e31, h⟩ := bd_some h
                refine lcW (Re := []) (S := x28.2) (rs := (x30, x28.2)) (c2 := (cu + 2)) (s2 := (su + 12)) hG hGX hN hP hD hS hA (fun h1 h2 => vx_runSX (As := [.ref (a o), .int p2, .int (4 : Int32)]) (rest := []) ⟨hx, hb, hml, hown, hts⟩ (qL_entrant l hl9 D cy tt a o x28.2 p2 (4 : Int32) (H).size x30 e31) (vx_cwSW 3 hts gL_needs_L_entrant rfl rfl rfl (by decide +kernel) ⟨Nat.le_of_ble_eq_true rfl, Nat.le_of_ble_eq_true rfl⟩) ⟨h1, h2⟩ rfl rfl hl.1 rfl (lv_room (Nat.le_of_ble_eq_true rfl)) dL_needs_153 ⟨show (cu + 1) + 1 ≤ 8 by omega, show (su + 6) + 6 ≤ 96 by omega⟩) rfl rfl (fun H locs hP hD hS => ?_)
                refine lv_iload_n hx hb dL_needs_156 rfl (lv_at hl 3 rfl) ?_
                refine lv_icmp_lt (tgt := 171) hx hb dL_needs_157 (by decide) (fun cc => ?_) (fun cc => ?_)
                · have h := ite_p cc h
                  exact Jj27 x28.2 (cu + 2) (su + 12) ⟨by omega, by omega⟩ H locs ls h hP hD hS (lv_sub hl [] rfl)
                · have h := ite_n cc h
                  refine lv_aload_n hx hb dL_needs_160 rfl (lv_at hl 0 rfl) ?_
                  obtain ⟨x32, e33, h⟩ := bd_some h
                  refine lcW (Re := []) (S := x28.2) (rs := x32) (c2 := (cu + 3)) (s2 := (su + 18)) hG hGX hN hP hD hS hA (fun h1 h2 => vx_runSX (As := [.ref (a o)]) (rest := []) ⟨hx, hb, hml, hown, hts⟩ (qL_undo l hl9 D cy tt a o x28.2  (H).size x32 e33) (vx_cwSW 1 hts gL_needs_L_undo rfl rfl rfl (by decide +kernel) ⟨Nat.le_of_ble_eq_true rfl, Nat.le_of_ble_eq_true rfl⟩) ⟨h1, h2⟩ rfl rfl hl.1 rfl (lv_room (Nat.le_of_ble_eq_true rfl)) dL_needs_161 ⟨show (cu + 2) + 1 ≤ 8 by omega, show (su + 12) + 6 ≤ 96 by omega⟩) rfl rfl (fun H locs hP hD hS => ?_)
                  refine lv_if_lt (tgt := 171) hx hb dL_needs_164 (by decide) (fun cc => ?_) (fun cc => ?_)
                  · have h := ite_p cc h
                    exact Jj27 x32.2 (cu + 3) (su + 18) ⟨by omega, by omega⟩ H locs ls h hP hD hS (lv_sub hl [] rfl)
                  · have h := ite_n cc h
                    refine lv_iconst (v := (1 : Int32)) hx hb dL_needs_167 (by decide) ?_
                    refine lv_goto (tgt := 172) hx hb dL_needs_168 (by decide) ?_
                    exact Jj25 (1 : Int32) x32.2 (cu + 3) (su + 18) ⟨by omega, by omega⟩ H locs ls h hP hD hS (lv_sub hl [] rfl)
        refine lv_if_le (tgt := 129) hx hb dL_needs_89 (by decide) (fun cc => ?_) (fun cc => ?_)
        · have h := ite_p cc h
          exact Jj7 (1 : Int32) S (cu + 2) (su + 12) ⟨by omega, by omega⟩ H locs ls h hP hD hS (lv_sub hl [3, 4, 5, 6, 2, 0] rfl)
        · have h := ite_n cc h
          refine lv_aload_n hx hb dL_needs_92 rfl (lv_at hl 3 rfl) ?_
          refine lv_iload_n hx hb dL_needs_93 rfl (lv_at hl 4 rfl) ?_
          refine lv_iload_n hx hb dL_needs_94 rfl (lv_at hl 5 rfl) ?_
          refine lv_iload hx hb dL_needs_95 (lv_at hl 2 rfl) ?_
          refine lv_iconst (v := (1 : Int32)) hx hb dL_needs_97 (by decide) ?_
          refine lv_isub hx hb dL_needs_98 ?_
          obtain ⟨x34, e35, h⟩ := bd_some h
          refine lcW (Re := []) (S := S) (rs := x34) (c2 := (cu + 3)) (s2 := (su + 18)) hG hGX hN hP hD hS hA (fun h1 h2 => vx_runSX (As := [.ref (a o), .int p1, .int p2, .int (x1 - (1 : Int32))]) (rest := []) ⟨hx, hb, hml, hown, hts⟩ (qL_mark l hl9 D cy tt a o S p1 p2 (x1 - (1 : Int32)) (H).size x34 e35) (vx_cwSW 4 hts gL_needs_L_mark rfl rfl rfl (by decide +kernel) ⟨Nat.le_of_ble_eq_true rfl, Nat.le_of_ble_eq_true rfl⟩) ⟨h1, h2⟩ rfl rfl hl.1 rfl (lv_room (Nat.le_of_ble_eq_true rfl)) dL_needs_99 ⟨show (cu + 2) + 1 ≤ 8 by omega, show (su + 12) + 6 ≤ 96 by omega⟩) rfl rfl (fun H locs hP hD hS => ?_)
          obtain ⟨j38, hj38, h⟩ := jn_elim h
          have Jj38 : ∀ (x36 : Int32) (S_37 : SX11) (cu su : Nat) (hcu : cu + (3) ≤ 8 ∧ su + 12 * (3) ≤ 96) (H : Heap) (locs : List Loc) (ls : Array Slot), j38 x36 S_37 = some rs → va_P D vwCl (wX11 cy a o S_37) H → va_D (va_A (wX11 cy a o S) s.heap.size) (wX11 cy a o S_37) → va_S (va_A (wX11 cy a o S) s.heap.size) s.heap H locs → lv_has ls 7 [(0, .ref (a o)), (1, .int p1), (2, .int p2), (3, .int p3), (4, .int x1)] → W p l e (headSpec wsL_needs ({ frames := 11, cells := 8, slots := 96, locals := 276 } : Room)).room s m ([.ref (a o), .int p1, .int p2, .int p3] : List Value).toArray below meth c H locs cu su (vx_MQ below (va_Qi (fun r (u : SX11) => (r, u) = rs) (fun u t => mB D s.heap.size (wX11 cy a o S) (wX11 cy a o u) t) (va_A (wX11 cy a o S) s.heap.size)) (fun _ _ _ => False) ([.ref (a o), .int p1, .int p2, .int p3] : List Value).toArray s 8 96 (va_A (wX11 cy a o S) s.heap.size)) (F0 m 127 ls [.int x36]) := by
            intro x36 S_37 cu su hcu H locs ls h hP hD hS hl
            rw [hj38] at h
            refine lv_istore (lv' := [(6, .int x36), (0, .ref (a o)), (1, .int p1), (2, .int p2), (3, .int p3), (4, .int x1)]) hx hb dL_needs_127 hl (by decide) rfl (fun ls hl => ?_)
            exact Jj7 x36 S_37 cu su ⟨by omega, by omega⟩ H locs ls h hP hD hS (lv_sub hl [1, 2, 3, 4, 5, 0] rfl)
          obtain ⟨j40, hj40, h⟩ := jn_elim h
          have Jj40 : ∀ (S_39 : SX11) (cu su : Nat) (hcu : cu + (3) ≤ 8 ∧ su + 12 * (3) ≤ 96) (H : Heap) (locs : List Loc) (ls : Array Slot), j40 S_39 = some rs → va_P D vwCl (wX11 cy a o S_39) H → va_D (va_A (wX11 cy a o S) s.heap.size) (wX11 cy a o S_39) → va_S (va_A (wX11 cy a o S) s.heap.size) s.heap H locs → lv_has ls 7 [(0, .ref (a o)), (1, .int p1), (2, .int p2), (3, .int p3), (4, .int x1)] → W p l e (headSpec wsL_needs ({ frames := 11, cells := 8, slots := 96, locals := 276 } : Room)).room s m ([.ref (a o), .int p1, .int p2, .int p3] : List Value).toArray below meth c H locs cu su (vx_MQ below (va_Qi (fun r (u : SX11) => (r, u) = rs) (fun u t => mB D s.heap.size (wX11 cy a o S) (wX11 cy a o u) t) (va_A (wX11 cy a o S) s.heap.size)) (fun _ _ _ => False) ([.ref (a o), .int p1, .int p2, .int p3] : List Value).toArray s 8 96 (va_A (wX11 cy a o S) s.heap.size)) (F0 m 126 ls []) := by
            intro S_39 cu su hcu H locs ls h hP hD hS hl
            rw [hj40] at h
            refine lv_iconst (v := (0 : Int32)) hx hb dL_needs_126 (by decide) ?_
            exact Jj38 (0 : Int32) S_39 cu su ⟨by omega, by omega⟩ H locs ls h hP hD hS (lv_sub hl [0, 1, 2, 3, 4] rfl)
          refine lv_if_lt (tgt := 126) hx hb dL_needs_102 (by decide) (fun cc => ?_) (fun cc => ?_)
          · have h := ite_p cc h
            exact Jj40 x34.2 (cu + 3) (su + 18) ⟨by omega, by omega⟩ H locs ls h hP hD hS (lv_sub hl [3, 4, 5, 6, 2] rfl)
          · have h := ite_n cc h
            refine lv_aload_n hx hb dL_needs_105 rfl (lv_at hl 3 rfl) ?_
            refine lv_iload_n hx hb dL_needs_106 rfl (lv_at hl 5 rfl) ?_
            refine lv_iconst (v := (4 : Int32)) hx hb dL_needs_107 (by decide) ?_
            obtain ⟨x41, e42, h⟩ := bd_some h
            refine lcW (Re := []) (S := x34.2) (rs := (x41, x34.2)) (c2 := (cu + 4)) (s2 := (su + 24)) hG hGX hN hP hD hS hA (fun h1 h2 => vx_runSX (As := [.ref (a o), .int p2, .int (4 : Int32)]) (rest := []) ⟨hx, hb, hml, hown, hts⟩ (qL_entrant l hl9 D cy tt a o x34.2 p2 (4 : Int32) (H).size x41 e42) (vx_cwSW 3 hts gL_needs_L_entrant rfl rfl rfl (by decide +kernel) ⟨Nat.le_of_ble_eq_true rfl, Nat.le_of_ble_eq_true rfl⟩) ⟨h1, h2⟩ rfl rfl hl.1 rfl (lv_room (Nat.le_of_ble_eq_true rfl)) dL_needs_108 ⟨show (cu + 3) + 1 ≤ 8 by omega, show (su + 18) + 6 ≤ 96 by omega⟩) rfl rfl (fun H locs hP hD hS => ?_)
            refine lv_iload_n hx hb dL_needs_111 rfl (lv_at hl 6 rfl) ?_
            refine lv_icmp_ge (tgt := 126) hx hb dL_needs_112 (by decide) (fun cc => ?_) (fun cc => ?_)
            · have h := ite_p cc h
              exact Jj40 x34.2 (cu + 4) (su + 24) ⟨by omega, by omega⟩ H locs ls h hP hD hS (lv_sub hl [3, 4, 5, 6, 2] rfl)
            · have h := ite_n cc h
              refine lv_aload_n hx hb dL_needs_115 rfl (lv_at hl 3 rfl) ?_
              obtain ⟨x43, e44, h⟩ := bd_some h
              refine lcW (Re := []) (S := x34.2) (rs := x43) (c2 := (cu + 5)) (s2 := (su + 30)) hG hGX hN hP hD hS hA (fun h1 h2 => vx_runSX (As := [.ref (a o)]) (rest := []) ⟨hx, hb, hml, hown, hts⟩ (qL_undo l hl9 D cy tt a o x34.2  (H).size x43 e44) (vx_cwSW 1 hts gL_needs_L_undo rfl rfl rfl (by decide +kernel) ⟨Nat.le_of_ble_eq_true rfl, Nat.le_of_ble_eq_true rfl⟩) ⟨h1, h2⟩ rfl rfl hl.1 rfl (lv_room (Nat.le_of_ble_eq_true rfl)) dL_needs_116 ⟨show (cu + 4) + 1 ≤ 8 by omega, show (su + 24) + 6 ≤ 96 by omega⟩) rfl rfl (fun H locs hP hD hS => ?_)
              refine lv_if_lt (tgt := 126) hx hb dL_needs_119 (by decide) (fun cc => ?_) (fun cc => ?_)
              · have h := ite_p cc h
                exact Jj40 x43.2 (cu + 5) (su + 30) ⟨by omega, by omega⟩ H locs ls h hP hD hS (lv_sub hl [3, 4, 5, 6, 2] rfl)
              · have h := ite_n cc h
                refine lv_iconst (v := (1 : Int32)) hx hb dL_needs_122 (by decide) ?_
                refine lv_goto (tgt := 127) hx hb dL_needs_123 (by decide) ?_
                exact Jj38 (1 : Int32) x43.2 (cu + 5) (su + 30) ⟨by omega, by omega⟩ H locs ls h hP hD hS (lv_sub hl [3, 4, 5, 6, 2] rfl)
      · have h := ite_n cc h
        refine lv_iconst (v := (0 : Int32)) hx hb dL_needs_82 (by decide) ?_
        refine vx_ret (W.widen (k := 8) (n := 96) (by omega) (by omega) ?_)
        exact W.zret (v := (0 : Int32)) hx hb hr rfl (fun t ht hW => ⟨⟨(0 : Int32), S, rfl, (some_in h), by rw [ht]; exact cutP hP (pmA [] (wX11 cy a o S)), cutD hD (pmA [] (wX11 cy a o S))⟩, hS.F ht⟩) hS.2.2 dL_needs_83
    · have h := ite_n cc h
      refine lv_iload hx hb dL_needs_24 (lv_at hl 1 rfl) ?_
      refine lv_sipush (v := (-902 : Int32)) hx hb dL_needs_26 (by decide) ?_
      obtain ⟨j47, hj47, h⟩ := jn_elim h
      have Jj47 : ∀ (x45 : Int32) (S_46 : SX11) (cu su : Nat) (hcu : cu + (0) ≤ 8 ∧ su + 12 * (0) ≤ 96) (H : Heap) (locs : List Loc) (ls : Array Slot), j47 x45 S_46 = some rs → va_P D vwCl (wX11 cy a o S_46) H → va_D (va_A (wX11 cy a o S) s.heap.size) (wX11 cy a o S_46) → va_S (va_A (wX11 cy a o S) s.heap.size) s.heap H locs → lv_has ls 7 [] → W p l e (headSpec wsL_needs ({ frames := 11, cells := 8, slots := 96, locals := 276 } : Room)).room s m ([.ref (a o), .int p1, .int p2, .int p3] : List Value).toArray below meth c H locs cu su (vx_MQ below (va_Qi (fun r (u : SX11) => (r, u) = rs) (fun u t => mB D s.heap.size (wX11 cy a o S) (wX11 cy a o u) t) (va_A (wX11 cy a o S) s.heap.size)) (fun _ _ _ => False) ([.ref (a o), .int p1, .int p2, .int p3] : List Value).toArray s 8 96 (va_A (wX11 cy a o S) s.heap.size)) (F0 m 76 ls [.int x45]) := by
        intro x45 S_46 cu su hcu H locs ls h hP hD hS hl
        rw [hj47] at h
        obtain ⟨g48, h⟩ := gd_some h
        refine vx_ret (W.widen (k := 8) (n := 96) (by omega) (by omega) ?_)
        exact W.zret (v := x45) hx hb hr (zN g48) (fun t ht hW => ⟨⟨x45, S_46, rfl, (some_in h), by rw [ht]; exact cutP hP (pmA [] (wX11 cy a o S_46)), cutD hD (pmA [] (wX11 cy a o S_46))⟩, hS.F ht⟩) hS.2.2 dL_needs_76
      obtain ⟨j50, hj50, h⟩ := jn_elim h
      have Jj50 : ∀ (S_49 : SX11) (cu su : Nat) (hcu : cu + (0) ≤ 8 ∧ su + 12 * (0) ≤ 96) (H : Heap) (locs : List Loc) (ls : Array Slot), j50 S_49 = some rs → va_P D vwCl (wX11 cy a o S_49) H → va_D (va_A (wX11 cy a o S) s.heap.size) (wX11 cy a o S_49) → va_S (va_A (wX11 cy a o S) s.heap.size) s.heap H locs → lv_has ls 7 [] → W p l e (headSpec wsL_needs ({ frames := 11, cells := 8, slots := 96, locals := 276 } : Room)).room s m ([.ref (a o), .int p1, .int p2, .int p3] : List Value).toArray below meth c H locs cu su (vx_MQ below (va_Qi (fun r (u : SX11) => (r, u) = rs) (fun u t => mB D s.heap.size (wX11 cy a o S) (wX11 cy a o u) t) (va_A (wX11 cy a o S) s.heap.size)) (fun _ _ _ => False) ([.ref (a o), .int p1, .int p2, .int p3] : List Value).toArray s 8 96 (va_A (wX11 cy a o S) s.heap.size)) (F0 m 75 ls []) := by
        intro S_49 cu su hcu H locs ls h hP hD hS hl
        rw [hj50] at h
        refine lv_iconst (v := (0 : Int32)) hx hb dL_needs_75 (by decide) ?_
        exact Jj47 (0 : Int32) S_49 cu su ⟨by omega, by omega⟩ H locs ls h hP hD hS (lv_sub hl [] rfl)
      refine lv_icmp_ne (tgt := 75) hx hb dL_needs_29 (by decide) (fun cc => ?_) (fun cc => ?_)
      · have h := ite_n cc h
        exact Jj50 S (cu + 2) (su + 12) ⟨by omega, by omega⟩ H locs ls h hP hD hS (lv_sub hl [] rfl)
      · have h := ite_p cc h
        refine lv_iload hx hb dL_needs_32 (lv_at hl 0 rfl) ?_
        refine lv_sipush (v := (-902 : Int32)) hx hb dL_needs_34 (by decide) ?_
        refine lv_icmp_ne (tgt := 75) hx hb dL_needs_37 (by decide) (fun cc => ?_) (fun cc => ?_)
        · have h := ite_n cc h
          exact Jj50 S (cu + 2) (su + 12) ⟨by omega, by omega⟩ H locs ls h hP hD hS (lv_sub hl [] rfl)
        · have h := ite_p cc h
          refine lv_aload_n hx hb dL_needs_40 rfl (lv_at hl 2 rfl) ?_
          refine lv_iconst (v := (3 : Int32)) hx hb dL_needs_41 (by decide) ?_
          obtain ⟨x51, e52, h⟩ := bd_some h
          refine lcW (Re := []) (S := S) (rs := (x51, S)) (c2 := (cu + 3)) (s2 := (su + 18)) hG hGX hN hP hD hS hA (fun h1 h2 => vx_runSX (As := [.ref (a o), .int (3 : Int32)]) (rest := []) ⟨hx, hb, hml, hown, hts⟩ (qL_info l hl9 D cy tt a o S (3 : Int32) (H).size x51 e52) (vx_cwSW 2 hts gL_needs_L_info rfl rfl rfl (by decide +kernel) ⟨Nat.le_of_ble_eq_true rfl, Nat.le_of_ble_eq_true rfl⟩) ⟨h1, h2⟩ rfl rfl hl.1 rfl (lv_room (Nat.le_of_ble_eq_true rfl)) dL_needs_42 ⟨show (cu + 2) + 1 ≤ 8 by omega, show (su + 12) + 6 ≤ 96 by omega⟩) rfl rfl (fun H locs hP hD hS => ?_)
          refine lv_iconst (v := (1 : Int32)) hx hb dL_needs_45 (by decide) ?_
          obtain ⟨j54, hj54, h⟩ := jn_elim h
          have Jj54 : ∀ (S_53 : SX11) (cu su : Nat) (hcu : cu + (0) ≤ 8 ∧ su + 12 * (0) ≤ 96) (H : Heap) (locs : List Loc) (ls : Array Slot), j54 S_53 = some rs → va_P D vwCl (wX11 cy a o S_53) H → va_D (va_A (wX11 cy a o S) s.heap.size) (wX11 cy a o S_53) → va_S (va_A (wX11 cy a o S) s.heap.size) s.heap H locs → lv_has ls 7 [] → W p l e (headSpec wsL_needs ({ frames := 11, cells := 8, slots := 96, locals := 276 } : Room)).room s m ([.ref (a o), .int p1, .int p2, .int p3] : List Value).toArray below meth c H locs cu su (vx_MQ below (va_Qi (fun r (u : SX11) => (r, u) = rs) (fun u t => mB D s.heap.size (wX11 cy a o S) (wX11 cy a o u) t) (va_A (wX11 cy a o S) s.heap.size)) (fun _ _ _ => False) ([.ref (a o), .int p1, .int p2, .int p3] : List Value).toArray s 8 96 (va_A (wX11 cy a o S) s.heap.size)) (F0 m 71 ls []) := by
            intro S_53 cu su hcu H locs ls h hP hD hS hl
            rw [hj54] at h
            refine lv_iconst (v := (1 : Int32)) hx hb dL_needs_71 (by decide) ?_
            refine lv_goto (tgt := 76) hx hb dL_needs_72 (by decide) ?_
            exact Jj47 (1 : Int32) S_53 cu su ⟨by omega, by omega⟩ H locs ls h hP hD hS (lv_sub hl [] rfl)
          refine lv_icmp_ne (tgt := 71) hx hb dL_needs_46 (by decide) (fun cc => ?_) (fun cc => ?_)
          · have h := ite_n cc h
            exact Jj54 S (cu + 3) (su + 18) ⟨by omega, by omega⟩ H locs ls h hP hD hS (lv_sub hl [] rfl)
          · have h := ite_p cc h
            refine lv_aload_n hx hb dL_needs_49 rfl (lv_at hl 2 rfl) ?_
            refine lv_iload_n hx hb dL_needs_50 rfl (lv_at hl 4 rfl) ?_
            refine lv_iconst (v := (2 : Int32)) hx hb dL_needs_51 (by decide) ?_
            obtain ⟨x55, e56, h⟩ := bd_some h
            refine lcW (Re := []) (S := S) (rs := (x55, S)) (c2 := (cu + 4)) (s2 := (su + 24)) hG hGX hN hP hD hS hA (fun h1 h2 => vx_runSX (As := [.ref (a o), .int p2, .int (2 : Int32)]) (rest := []) ⟨hx, hb, hml, hown, hts⟩ (qL_entrant l hl9 D cy tt a o S p2 (2 : Int32) (H).size x55 e56) (vx_cwSW 3 hts gL_needs_L_entrant rfl rfl rfl (by decide +kernel) ⟨Nat.le_of_ble_eq_true rfl, Nat.le_of_ble_eq_true rfl⟩) ⟨h1, h2⟩ rfl rfl hl.1 rfl (lv_room (Nat.le_of_ble_eq_true rfl)) dL_needs_52 ⟨show (cu + 3) + 1 ≤ 8 by omega, show (su + 18) + 6 ≤ 96 by omega⟩) rfl rfl (fun H locs hP hD hS => ?_)
            refine lv_if_lt (tgt := 71) hx hb dL_needs_55 (by decide) (fun cc => ?_) (fun cc => ?_)
            · have h := ite_p cc h
              exact Jj54 S (cu + 4) (su + 24) ⟨by omega, by omega⟩ H locs ls h hP hD hS (lv_sub hl [] rfl)
            · have h := ite_n cc h
              refine lv_aload_n hx hb dL_needs_58 rfl (lv_at hl 2 rfl) ?_
              refine lv_iload_n hx hb dL_needs_59 rfl (lv_at hl 3 rfl) ?_
              refine lv_iload_n hx hb dL_needs_60 rfl (lv_at hl 4 rfl) ?_
              refine lv_iconst (v := (0 : Int32)) hx hb dL_needs_61 (by decide) ?_
              obtain ⟨x57, e58, h⟩ := bd_some h
              refine lcW (Re := []) (S := S) (rs := x57) (c2 := (cu + 5)) (s2 := (su + 30)) hG hGX hN hP hD hS hA (fun h1 h2 => vx_runSX (As := [.ref (a o), .int p1, .int p2, .int (0 : Int32)]) (rest := []) ⟨hx, hb, hml, hown, hts⟩ (qL_mark l hl9 D cy tt a o S p1 p2 (0 : Int32) (H).size x57 e58) (vx_cwSW 4 hts gL_needs_L_mark rfl rfl rfl (by decide +kernel) ⟨Nat.le_of_ble_eq_true rfl, Nat.le_of_ble_eq_true rfl⟩) ⟨h1, h2⟩ rfl rfl hl.1 rfl (lv_room (Nat.le_of_ble_eq_true rfl)) dL_needs_62 ⟨show (cu + 4) + 1 ≤ 8 by omega, show (su + 24) + 6 ≤ 96 by omega⟩) rfl rfl (fun H locs hP hD hS => ?_)
              refine lv_sipush (v := (-902 : Int32)) hx hb dL_needs_65 (by decide) ?_
              refine lv_icmp_ne (tgt := 75) hx hb dL_needs_68 (by decide) (fun cc => ?_) (fun cc => ?_)
              · have h := ite_n cc h
                exact Jj50 x57.2 (cu + 5) (su + 30) ⟨by omega, by omega⟩ H locs ls h hP hD hS (lv_sub hl [] rfl)
              · have h := ite_p cc h
                exact Jj54 x57.2 (cu + 5) (su + 30) ⟨by omega, by omega⟩ H locs ls h hP hD hS (lv_sub hl [] rfl)
  exact start 0 0 ⟨by omega, by omega⟩
set_option maxHeartbeats 8000000 in
set_option maxRecDepth 100000 in
theorem qL_refuses (l : Launch) (hl9 : l.stackTraces = false) (D : va_G) (cy : Nat → ClassId) (tt : Nat → Nat) (a : Nat → Nat) (o : Nat) (S : SX11) (sz : Nat) (rs : Int32 × SX11) (h : DL_refuses S = some rs) : vx_Met l yL_refuses wsL_refuses ({ frames := 11, cells := 39, slots := 468, locals := 276 } : Room) (lP D cy tt sz [.ref (a o)] (wX11 cy a o S)) (va_Qi (fun r (u : SX11) => (r, u) = rs) (fun u t => mB D sz (wX11 cy a o S) (wX11 cy a o u) t) (va_A (wX11 cy a o S) sz)) (fun _ _ _ => False) 39 468 (va_A (wX11 cy a o S) sz) := by
  refine vx_ofW (cc := cL_refuses) (maxL := 6) (ret := (some .boolean)) (by decide) rfl ?_
  intro p e s m args below meth c s₁ B hml htab hv
  obtain ⟨rfl, hsz, hP, hG, hD0, hGX, hN⟩ := hv
  have hx := B.exec
  have hb := B.bytes
  have hr := B.returns
  have hts := atoms_spec (ws := wsL_refuses) B.pre
  have hown : s.vm.findClass RL = some m.cls := findClass_of_methodNamed B.named
  have hlocks := B.notSynchronized
  have hK := hG.1
  subst hsz
  have hD := hD0.self (sz := s.heap.size)
  have hA : ∀ q : Nat, s.heap.size ≤ q → (va_A (wX11 cy a o S) s.heap.size) q := fun q h => Or.inr h
  have hS : va_S (va_A (wX11 cy a o S) s.heap.size) s.heap s.heap [] := va_S.rf
  have hl := lv_entry ([.ref (a o)]) (n := 6) (Nat.le_of_ble_eq_true rfl)
  rw [lg_entry_eq]
  generalize (lg_sl ([.ref (a o)]) ++ List.replicate (6 - (lg_sl ([.ref (a o)])).length) Slot.unset).toArray = ls at hl ⊢
  have hl : lv_has ls 6 [(0, .ref (a o))] := hl
  rw [DL_refuses] at h
  have start : ∀ (cu su : Nat) (hcu : cu + (39) ≤ 39 ∧ su + 12 * (39) ≤ 468), W p l e (headSpec wsL_refuses ({ frames := 11, cells := 39, slots := 468, locals := 276 } : Room)).room s m ([.ref (a o)] : List Value).toArray below meth c s.heap [] cu su (vx_MQ below (va_Qi (fun r (u : SX11) => (r, u) = rs) (fun u t => mB D s.heap.size (wX11 cy a o S) (wX11 cy a o u) t) (va_A (wX11 cy a o S) s.heap.size)) (fun _ _ _ => False) ([.ref (a o)] : List Value).toArray s 39 468 (va_A (wX11 cy a o S) s.heap.size)) (F0 m 0 ls []) := by
    intro cu su hcu
    refine lv_aload_n hx hb dL_refuses_0 rfl (lv_at hl 0 rfl) ?_
    obtain ⟨x1, e2, h⟩ := bd_some h
    refine pcVl (As := []) (rest := []) (q0 := 0) (ci := 11) (qX11_checksum l D cy a o S  x1 e2) ⟨hx, hb, hml, hown, hts⟩ (cwV 0 hts gL_refuses_X11_checksum rfl rfl rfl (by decide +kernel) ⟨Nat.le_of_ble_eq_true rfl, Nat.le_of_ble_eq_true rfl⟩) hG (cutP hP (pmA [] (wX11 cy a o S))) rfl rfl rfl hl.1 rfl (Nat.le_of_ble_eq_true rfl) dL_refuses_1 ⟨show cu ≤ 39 by omega, show su ≤ 468 by omega⟩ ?_
    refine lv_lstore_n (lv' := [(1, .long x1), (0, .ref (a o))]) hx hb dL_refuses_4 rfl hl (by decide) rfl (fun ls hl => ?_)
    refine lv_aload_n hx hb dL_refuses_5 rfl (lv_at hl 1 rfl) ?_
    refine lv_bipush (v := (6 : Int32)) hx hb dL_refuses_6 (by decide) ?_
    obtain ⟨x3, e4, h⟩ := bd_some h
    refine lcW (Re := []) (S := S) (rs := (x3, S)) (c2 := (cu + 1)) (s2 := (su + 6)) hG hGX hN hP hD hS hA (fun h1 h2 => vx_runSX (As := [.ref (a o), .int (6 : Int32)]) (rest := []) ⟨hx, hb, hml, hown, hts⟩ (qL_info l hl9 D cy tt a o S (6 : Int32) (s.heap).size x3 e4) (vx_cwSW 2 hts gL_refuses_L_info rfl rfl rfl (by decide +kernel) ⟨Nat.le_of_ble_eq_true rfl, Nat.le_of_ble_eq_true rfl⟩) ⟨h1, h2⟩ rfl rfl hl.1 rfl (lv_room (Nat.le_of_ble_eq_true rfl)) dL_refuses_8 ⟨show cu + 1 ≤ 39 by omega, show su + 6 ≤ 468 by omega⟩) rfl rfl (fun H locs hP hD hS => ?_)
    refine lv_istore_n (lv' := [(3, .int x3), (1, .long x1), (0, .ref (a o))]) hx hb dL_refuses_11 rfl hl (by decide) rfl (fun ls hl => ?_)
    refine lv_aload_n hx hb dL_refuses_12 rfl (lv_at hl 2 rfl) ?_
    refine lv_iconst (v := (0 : Int32)) hx hb dL_refuses_13 (by decide) ?_
    obtain ⟨x5, e6, h⟩ := bd_some h
    refine lcW (Re := []) (S := S) (rs := (x5, S)) (c2 := (cu + 2)) (s2 := (su + 12)) hG hGX hN hP hD hS hA (fun h1 h2 => vx_runSX (As := [.ref (a o), .int (0 : Int32)]) (rest := []) ⟨hx, hb, hml, hown, hts⟩ (qL_info l hl9 D cy tt a o S (0 : Int32) (H).size x5 e6) (vx_cwSW 2 hts gL_refuses_L_info rfl rfl rfl (by decide +kernel) ⟨Nat.le_of_ble_eq_true rfl, Nat.le_of_ble_eq_true rfl⟩) ⟨h1, h2⟩ rfl rfl hl.1 rfl (lv_room (Nat.le_of_ble_eq_true rfl)) dL_refuses_14 ⟨show (cu + 1) + 1 ≤ 39 by omega, show (su + 6) + 6 ≤ 468 by omega⟩) rfl rfl (fun H locs hP hD hS => ?_)
    refine lv_istore (lv' := [(4, .int x5), (3, .int x3), (1, .long x1), (0, .ref (a o))]) hx hb dL_refuses_17 hl (by decide) rfl (fun ls hl => ?_)
    refine lv_aload_n hx hb dL_refuses_19 rfl (lv_at hl 3 rfl) ?_
    refine lv_bipush (v := (10 : Int32)) hx hb dL_refuses_20 (by decide) ?_
    refine lv_iconst (v := (0 : Int32)) hx hb dL_refuses_22 (by decide) ?_
    refine lv_iconst (v := (1 : Int32)) hx hb dL_refuses_23 (by decide) ?_
    obtain ⟨x7, e8, h⟩ := bd_some h
    refine lcW (Re := []) (S := S) (rs := x7) (c2 := (cu + 3)) (s2 := (su + 18)) hG hGX hN hP hD hS hA (fun h1 h2 => vx_runSX (As := [.ref (a o), .int (10 : Int32), .int (0 : Int32), .int (1 : Int32)]) (rest := []) ⟨hx, hb, hml, hown, hts⟩ (qL_addWork l hl9 D cy tt a o S (10 : Int32) (0 : Int32) (1 : Int32) (H).size x7 e8) (vx_cwSW 4 hts gL_refuses_L_addWork rfl rfl rfl (by decide +kernel) ⟨Nat.le_of_ble_eq_true rfl, Nat.le_of_ble_eq_true rfl⟩) ⟨h1, h2⟩ rfl rfl hl.1 rfl (lv_room (Nat.le_of_ble_eq_true rfl)) dL_refuses_24 ⟨show (cu + 2) + 1 ≤ 39 by omega, show (su + 12) + 6 ≤ 468 by omega⟩) rfl rfl (fun H locs hP hD hS => ?_)
    refine lv_sipush (v := (-901 : Int32)) hx hb dL_refuses_27 (by decide) ?_
    obtain ⟨j11, hj11, h⟩ := jn_elim h
    have Jj11 : ∀ (x9 : Int32) (S_10 : SX11) (cu su : Nat) (hcu : cu + (21) ≤ 39 ∧ su + 12 * (21) ≤ 468) (H : Heap) (locs : List Loc) (ls : Array Slot), j11 x9 S_10 = some rs → va_P D vwCl (wX11 cy a o S_10) H → va_D (va_A (wX11 cy a o S) s.heap.size) (wX11 cy a o S_10) → va_S (va_A (wX11 cy a o S) s.heap.size) s.heap H locs → lv_has ls 6 [(0, .ref (a o)), (1, .long x1), (3, .int x3), (4, .int x5)] → W p l e (headSpec wsL_refuses ({ frames := 11, cells := 39, slots := 468, locals := 276 } : Room)).room s m ([.ref (a o)] : List Value).toArray below meth c H locs cu su (vx_MQ below (va_Qi (fun r (u : SX11) => (r, u) = rs) (fun u t => mB D s.heap.size (wX11 cy a o S) (wX11 cy a o u) t) (va_A (wX11 cy a o S) s.heap.size)) (fun _ _ _ => False) ([.ref (a o)] : List Value).toArray s 39 468 (va_A (wX11 cy a o S) s.heap.size)) (F0 m 222 ls [.int x9]) := by
      intro x9 S_10 cu su hcu H locs ls h hP hD hS hl
      rw [hj11] at h
      refine lv_istore (lv' := [(5, .int x9), (0, .ref (a o)), (1, .long x1), (3, .int x3), (4, .int x5)]) hx hb dL_refuses_222 hl (by decide) rfl (fun ls hl => ?_)
      refine lv_iload hx hb dL_refuses_224 (lv_at hl 0 rfl) ?_
      obtain ⟨j14, hj14, h⟩ := jn_elim h
      have Jj14 : ∀ (x12 : Int32) (S_13 : SX11) (cu su : Nat) (hcu : cu + (8) ≤ 39 ∧ su + 12 * (8) ≤ 468) (H : Heap) (locs : List Loc) (ls : Array Slot), j14 x12 S_13 = some rs → va_P D vwCl (wX11 cy a o S_13) H → va_D (va_A (wX11 cy a o S) s.heap.size) (wX11 cy a o S_13) → va_S (va_A (wX11 cy a o S) s.heap.size) s.heap H locs → lv_has ls 6 [(0, .ref (a o)), (1, .long x1)] → W p l e (headSpec wsL_refuses ({ frames := 11, cells := 39, slots := 468, locals := 276 } : Room)).room s m ([.ref (a o)] : List Value).toArray below meth c H locs cu su (vx_MQ below (va_Qi (fun r (u : SX11) => (r, u) = rs) (fun u t => mB D s.heap.size (wX11 cy a o S) (wX11 cy a o u) t) (va_A (wX11 cy a o S) s.heap.size)) (fun _ _ _ => False) ([.ref (a o)] : List Value).toArray s 39 468 (va_A (wX11 cy a o S) s.heap.size)) (F0 m 397 ls [.int x12]) := by
        intro x12 S_13 cu su hcu H locs ls h hP hD hS hl
        rw [hj14] at h
        refine lv_istore (lv' := [(5, .int x12), (0, .ref (a o)), (1, .long x1)]) hx hb dL_refuses_397 hl (by decide) rfl (fun ls hl => ?_)
        refine lv_iload hx hb dL_refuses_399 (lv_at hl 0 rfl) ?_
        obtain ⟨j17, hj17, h⟩ := jn_elim h
        have Jj17 : ∀ (x15 : Int32) (S_16 : SX11) (cu su : Nat) (hcu : cu + (0) ≤ 39 ∧ su + 12 * (0) ≤ 468) (H : Heap) (locs : List Loc) (ls : Array Slot), j17 x15 S_16 = some rs → va_P D vwCl (wX11 cy a o S_16) H → va_D (va_A (wX11 cy a o S) s.heap.size) (wX11 cy a o S_16) → va_S (va_A (wX11 cy a o S) s.heap.size) s.heap H locs → lv_has ls 6 [(0, .ref (a o)), (1, .long x1)] → W p l e (headSpec wsL_refuses ({ frames := 11, cells := 39, slots := 468, locals := 276 } : Room)).room s m ([.ref (a o)] : List Value).toArray below meth c H locs cu su (vx_MQ below (va_Qi (fun r (u : SX11) => (r, u) = rs) (fun u t => mB D s.heap.size (wX11 cy a o S) (wX11 cy a o u) t) (va_A (wX11 cy a o S) s.heap.size)) (fun _ _ _ => False) ([.ref (a o)] : List Value).toArray s 39 468 (va_A (wX11 cy a o S) s.heap.size)) (F0 m 496 ls [.int x15]) := by
          intro x15 S_16 cu su hcu H locs ls h hP hD hS hl
          rw [hj17] at h
          refine lv_istore (lv' := [(5, .int x15), (0, .ref (a o)), (1, .long x1)]) hx hb dL_refuses_496 hl (by decide) rfl (fun ls hl => ?_)
          refine lv_iload hx hb dL_refuses_498 (lv_at hl 0 rfl) ?_
          obtain ⟨j20, hj20, h⟩ := jn_elim h
          have Jj20 : ∀ (x18 : Int32) (S_19 : SX11) (cu su : Nat) (hcu : cu + (0) ≤ 39 ∧ su + 12 * (0) ≤ 468) (H : Heap) (locs : List Loc) (ls : Array Slot), j20 x18 S_19 = some rs → va_P D vwCl (wX11 cy a o S_19) H → va_D (va_A (wX11 cy a o S) s.heap.size) (wX11 cy a o S_19) → va_S (va_A (wX11 cy a o S) s.heap.size) s.heap H locs → lv_has ls 6 [] → W p l e (headSpec wsL_refuses ({ frames := 11, cells := 39, slots := 468, locals := 276 } : Room)).room s m ([.ref (a o)] : List Value).toArray below meth c H locs cu su (vx_MQ below (va_Qi (fun r (u : SX11) => (r, u) = rs) (fun u t => mB D s.heap.size (wX11 cy a o S) (wX11 cy a o u) t) (va_A (wX11 cy a o S) s.heap.size)) (fun _ _ _ => False) ([.ref (a o)] : List Value).toArray s 39 468 (va_A (wX11 cy a o S) s.heap.size)) (F0 m 517 ls [.int x18]) := by
            intro x18 S_19 cu su hcu H locs ls h hP hD hS hl
            rw [hj20] at h
            obtain ⟨g21, h⟩ := gd_some h
            refine vx_ret (W.widen (k := 39) (n := 468) (by omega) (by omega) ?_)
            exact W.zret (v := x18) hx hb hr (zN g21) (fun t ht hW => ⟨⟨x18, S_19, rfl, (some_in h), by rw [ht]; exact cutP hP (pmA [] (wX11 cy a o S_19)), cutD hD (pmA [] (wX11 cy a o S_19))⟩, hS.F ht⟩) hS.2.2 dL_refuses_517
          obtain ⟨j23, hj23, h⟩ := jn_elim h
          have Jj23 : ∀ (S_22 : SX11) (cu su : Nat) (hcu : cu + (0) ≤ 39 ∧ su + 12 * (0) ≤ 468) (H : Heap) (locs : List Loc) (ls : Array Slot), j23 S_22 = some rs → va_P D vwCl (wX11 cy a o S_22) H → va_D (va_A (wX11 cy a o S) s.heap.size) (wX11 cy a o S_22) → va_S (va_A (wX11 cy a o S) s.heap.size) s.heap H locs → lv_has ls 6 [] → W p l e (headSpec wsL_refuses ({ frames := 11, cells := 39, slots := 468, locals := 276 } : Room)).room s m ([.ref (a o)] : List Value).toArray below meth c H locs cu su (vx_MQ below (va_Qi (fun r (u : SX11) => (r, u) = rs) (fun u t => mB D s.heap.size (wX11 cy a o S) (wX11 cy a o u) t) (va_A (wX11 cy a o S) s.heap.size)) (fun _ _ _ => False) ([.ref (a o)] : List Value).toArray s 39 468 (va_A (wX11 cy a o S) s.heap.size)) (F0 m 516 ls []) := by
            intro S_22 cu su hcu H locs ls h hP hD hS hl
            rw [hj23] at h
            refine lv_iconst (v := (0 : Int32)) hx hb dL_refuses_516 (by decide) ?_
            exact Jj20 (0 : Int32) S_22 cu su ⟨by omega, by omega⟩ H locs ls h hP hD hS (lv_sub hl [] rfl)
          refine lv_if_eq (tgt := 516) hx hb dL_refuses_500 (by decide) (fun cc => ?_) (fun cc => ?_)
          · have h := ite_p cc h
            exact Jj23 S_16 cu su ⟨by omega, by omega⟩ H locs ls h hP hD hS (lv_sub hl [] rfl)
          · have h := ite_n cc h
            refine lv_aload_n hx hb dL_refuses_503 rfl (lv_at hl 1 rfl) ?_
            obtain ⟨x24, e25, h⟩ := bd_some h
            refine pcVl (As := []) (rest := []) (q0 := 0) (ci := 11) (qX11_checksum l D cy a o S_16  x24 e25) ⟨hx, hb, hml, hown, hts⟩ (cwV 0 hts gL_refuses_X11_checksum rfl rfl rfl (by decide +kernel) ⟨Nat.le_of_ble_eq_true rfl, Nat.le_of_ble_eq_true rfl⟩) hG (cutP hP (pmA [] (wX11 cy a o S_16))) rfl rfl rfl hl.1 rfl (Nat.le_of_ble_eq_true rfl) dL_refuses_504 ⟨show cu ≤ 39 by omega, show su ≤ 468 by omega⟩ ?_
            refine lv_lload_n hx hb dL_refuses_507 rfl (lv_at hl 2 rfl) ?_
            refine W.lcmp hx hb dL_refuses_508 ?_
            refine lv_if_ne (tgt := 516) hx hb dL_refuses_509 (by decide) (fun cc => ?_) (fun cc => ?_)
            · have h := ite_n (fun q => cc ((lg_cmp_eq _ _).mpr q)) h
              exact Jj23 S_16 cu su ⟨by omega, by omega⟩ H locs ls h hP hD hS (lv_sub hl [] rfl)
            · have h := ite_p ((lg_cmp_eq _ _).mp cc) h
              refine lv_iconst (v := (1 : Int32)) hx hb dL_refuses_512 (by decide) ?_
              refine lv_goto (tgt := 517) hx hb dL_refuses_513 (by decide) ?_
              exact Jj20 (1 : Int32) S_16 cu su ⟨by omega, by omega⟩ H locs ls h hP hD hS (lv_sub hl [] rfl)
        obtain ⟨j27, hj27, h⟩ := jn_elim h
        have Jj27 : ∀ (S_26 : SX11) (cu su : Nat) (hcu : cu + (0) ≤ 39 ∧ su + 12 * (0) ≤ 468) (H : Heap) (locs : List Loc) (ls : Array Slot), j27 S_26 = some rs → va_P D vwCl (wX11 cy a o S_26) H → va_D (va_A (wX11 cy a o S) s.heap.size) (wX11 cy a o S_26) → va_S (va_A (wX11 cy a o S) s.heap.size) s.heap H locs → lv_has ls 6 [(0, .ref (a o)), (1, .long x1)] → W p l e (headSpec wsL_refuses ({ frames := 11, cells := 39, slots := 468, locals := 276 } : Room)).room s m ([.ref (a o)] : List Value).toArray below meth c H locs cu su (vx_MQ below (va_Qi (fun r (u : SX11) => (r, u) = rs) (fun u t => mB D s.heap.size (wX11 cy a o S) (wX11 cy a o u) t) (va_A (wX11 cy a o S) s.heap.size)) (fun _ _ _ => False) ([.ref (a o)] : List Value).toArray s 39 468 (va_A (wX11 cy a o S) s.heap.size)) (F0 m 495 ls []) := by
          intro S_26 cu su hcu H locs ls h hP hD hS hl
          rw [hj27] at h
          refine lv_iconst (v := (0 : Int32)) hx hb dL_refuses_495 (by decide) ?_
          exact Jj17 (0 : Int32) S_26 cu su ⟨by omega, by omega⟩ H locs ls h hP hD hS (lv_sub hl [0, 1] rfl)
        refine lv_if_eq (tgt := 495) hx hb dL_refuses_401 (by decide) (fun cc => ?_) (fun cc => ?_)
        · have h := ite_p cc h
          exact Jj27 S_13 cu su ⟨by omega, by omega⟩ H locs ls h hP hD hS (lv_sub hl [1, 2] rfl)
        · have h := ite_n cc h
          refine lv_aload_n hx hb dL_refuses_404 rfl (lv_at hl 1 rfl) ?_
          refine lv_iconst (v := (3 : Int32)) hx hb dL_refuses_405 (by decide) ?_
          obtain ⟨x28, e29, h⟩ := bd_some h
          refine lcW (Re := []) (S := S_13) (rs := (x28, S_13)) (c2 := (cu + 1)) (s2 := (su + 6)) hG hGX hN hP hD hS hA (fun h1 h2 => vx_runSX (As := [.ref (a o), .int (3 : Int32)]) (rest := []) ⟨hx, hb, hml, hown, hts⟩ (qL_info l hl9 D cy tt a o S_13 (3 : Int32) (H).size x28 e29) (vx_cwSW 2 hts gL_refuses_L_info rfl rfl rfl (by decide +kernel) ⟨Nat.le_of_ble_eq_true rfl, Nat.le_of_ble_eq_true rfl⟩) ⟨h1, h2⟩ rfl rfl hl.1 rfl (lv_room (Nat.le_of_ble_eq_true rfl)) dL_refuses_406 ⟨show cu + 1 ≤ 39 by omega, show su + 6 ≤ 468 by omega⟩) rfl rfl (fun H locs hP hD hS => ?_)
          obtain ⟨j31, hj31, h⟩ := jn_elim h
          have Jj31 : ∀ (S_30 : SX11) (cu su : Nat) (hcu : cu + (2) ≤ 39 ∧ su + 12 * (2) ≤ 468) (H : Heap) (locs : List Loc) (ls : Array Slot), j31 S_30 = some rs → va_P D vwCl (wX11 cy a o S_30) H → va_D (va_A (wX11 cy a o S) s.heap.size) (wX11 cy a o S_30) → va_S (va_A (wX11 cy a o S) s.heap.size) s.heap H locs → lv_has ls 6 [(0, .ref (a o)), (1, .long x1)] → W p l e (headSpec wsL_refuses ({ frames := 11, cells := 39, slots := 468, locals := 276 } : Room)).room s m ([.ref (a o)] : List Value).toArray below meth c H locs cu su (vx_MQ below (va_Qi (fun r (u : SX11) => (r, u) = rs) (fun u t => mB D s.heap.size (wX11 cy a o S) (wX11 cy a o u) t) (va_A (wX11 cy a o S) s.heap.size)) (fun _ _ _ => False) ([.ref (a o)] : List Value).toArray s 39 468 (va_A (wX11 cy a o S) s.heap.size)) (F0 m 471 ls []) := by
            intro S_30 cu su hcu H locs ls h hP hD hS hl
            rw [hj31] at h
            refine lv_aload_n hx hb dL_refuses_471 rfl (lv_at hl 0 rfl) ?_
            refine lv_iconst (v := (3 : Int32)) hx hb dL_refuses_472 (by decide) ?_
            obtain ⟨x32, e33, h⟩ := bd_some h
            refine lcW (Re := []) (S := S_30) (rs := (x32, S_30)) (c2 := (cu + 1)) (s2 := (su + 6)) hG hGX hN hP hD hS hA (fun h1 h2 => vx_runSX (As := [.ref (a o), .int (3 : Int32)]) (rest := []) ⟨hx, hb, hml, hown, hts⟩ (qL_info l hl9 D cy tt a o S_30 (3 : Int32) (H).size x32 e33) (vx_cwSW 2 hts gL_refuses_L_info rfl rfl rfl (by decide +kernel) ⟨Nat.le_of_ble_eq_true rfl, Nat.le_of_ble_eq_true rfl⟩) ⟨h1, h2⟩ rfl rfl hl.1 rfl (lv_room (Nat.le_of_ble_eq_true rfl)) dL_refuses_473 ⟨show cu + 1 ≤ 39 by omega, show su + 6 ≤ 468 by omega⟩) rfl rfl (fun H locs hP hD hS => ?_)
            refine lv_iconst (v := (1 : Int32)) hx hb dL_refuses_476 (by decide) ?_
            obtain ⟨j35, hj35, h⟩ := jn_elim h
            have Jj35 : ∀ (S_34 : SX11) (cu su : Nat) (hcu : cu + (0) ≤ 39 ∧ su + 12 * (0) ≤ 468) (H : Heap) (locs : List Loc) (ls : Array Slot), j35 S_34 = some rs → va_P D vwCl (wX11 cy a o S_34) H → va_D (va_A (wX11 cy a o S) s.heap.size) (wX11 cy a o S_34) → va_S (va_A (wX11 cy a o S) s.heap.size) s.heap H locs → lv_has ls 6 [(0, .ref (a o)), (1, .long x1)] → W p l e (headSpec wsL_refuses ({ frames := 11, cells := 39, slots := 468, locals := 276 } : Room)).room s m ([.ref (a o)] : List Value).toArray below meth c H locs cu su (vx_MQ below (va_Qi (fun r (u : SX11) => (r, u) = rs) (fun u t => mB D s.heap.size (wX11 cy a o S) (wX11 cy a o u) t) (va_A (wX11 cy a o S) s.heap.size)) (fun _ _ _ => False) ([.ref (a o)] : List Value).toArray s 39 468 (va_A (wX11 cy a o S) s.heap.size)) (F0 m 491 ls []) := by
              intro S_34 cu su hcu H locs ls h hP hD hS hl
              rw [hj35] at h
              refine lv_iconst (v := (1 : Int32)) hx hb dL_refuses_491 (by decide) ?_
              refine lv_goto (tgt := 496) hx hb dL_refuses_492 (by decide) ?_
              exact Jj17 (1 : Int32) S_34 cu su ⟨by omega, by omega⟩ H locs ls h hP hD hS (lv_sub hl [0, 1] rfl)
            refine lv_icmp_eq (tgt := 491) hx hb dL_refuses_477 (by decide) (fun cc => ?_) (fun cc => ?_)
            · have h := ite_p cc h
              exact Jj35 S_30 (cu + 1) (su + 6) ⟨by omega, by omega⟩ H locs ls h hP hD hS (lv_sub hl [0, 1] rfl)
            · have h := ite_n cc h
              refine lv_aload_n hx hb dL_refuses_480 rfl (lv_at hl 0 rfl) ?_
              refine lv_iconst (v := (0 : Int32)) hx hb dL_refuses_481 (by decide) ?_
              obtain ⟨x36, e37, h⟩ := bd_some h
              refine lcW (Re := []) (S := S_30) (rs := x36) (c2 := (cu + 2)) (s2 := (su + 12)) hG hGX hN hP hD hS hA (fun h1 h2 => vx_runSX (As := [.ref (a o), .int (0 : Int32)]) (rest := []) ⟨hx, hb, hml, hown, hts⟩ (qL_play l hl9 D cy tt a o S_30 (0 : Int32) (H).size x36 e37) (vx_cwSW 2 hts gL_refuses_L_play rfl rfl rfl (by decide +kernel) ⟨Nat.le_of_ble_eq_true rfl, Nat.le_of_ble_eq_true rfl⟩) ⟨h1, h2⟩ rfl rfl hl.1 rfl (lv_room (Nat.le_of_ble_eq_true rfl)) dL_refuses_482 ⟨show (cu + 1) + 1 ≤ 39 by omega, show (su + 6) + 6 ≤ 468 by omega⟩) rfl rfl (fun H locs hP hD hS => ?_)
              refine lv_sipush (v := (-902 : Int32)) hx hb dL_refuses_485 (by decide) ?_
              refine lv_icmp_ne (tgt := 495) hx hb dL_refuses_488 (by decide) (fun cc => ?_) (fun cc => ?_)
              · have h := ite_n cc h
                exact Jj27 x36.2 (cu + 2) (su + 12) ⟨by omega, by omega⟩ H locs ls h hP hD hS (lv_sub hl [0, 1] rfl)
              · have h := ite_p cc h
                exact Jj35 x36.2 (cu + 2) (su + 12) ⟨by omega, by omega⟩ H locs ls h hP hD hS (lv_sub hl [0, 1] rfl)
          refine lv_if_eq (tgt := 471) hx hb dL_refuses_409 (by decide) (fun cc => ?_) (fun cc => ?_)
          · have h := ite_p cc h
            exact Jj31 S_13 (cu + 1) (su + 6) ⟨by omega, by omega⟩ H locs ls h hP hD hS (lv_sub hl [1, 2] rfl)
          · have h := ite_n cc h
            refine lv_aload_n hx hb dL_refuses_412 rfl (lv_at hl 1 rfl) ?_
            refine lv_iconst (v := (1 : Int32)) hx hb dL_refuses_413 (by decide) ?_
            obtain ⟨x38, e39, h⟩ := bd_some h
            refine lcW (Re := []) (S := S_13) (rs := x38) (c2 := (cu + 2)) (s2 := (su + 12)) hG hGX hN hP hD hS hA (fun h1 h2 => vx_runSX (As := [.ref (a o), .int (1 : Int32)]) (rest := []) ⟨hx, hb, hml, hown, hts⟩ (qL_begin l hl9 D cy tt a o S_13 (1 : Int32) (H).size x38 e39) (vx_cwSW 2 hts gL_refuses_L_begin rfl rfl rfl (by decide +kernel) ⟨Nat.le_of_ble_eq_true rfl, Nat.le_of_ble_eq_true rfl⟩) ⟨h1, h2⟩ rfl rfl hl.1 rfl (lv_room (Nat.le_of_ble_eq_true rfl)) dL_refuses_414 ⟨show (cu + 1) + 1 ≤ 39 by omega, show (su + 6) + 6 ≤ 468 by omega⟩) rfl rfl (fun H locs hP hD hS => ?_)
            refine lv_sipush (v := (-902 : Int32)) hx hb dL_refuses_417 (by decide) ?_
            refine lv_icmp_ne (tgt := 495) hx hb dL_refuses_420 (by decide) (fun cc => ?_) (fun cc => ?_)
            · have h := ite_n cc h
              exact Jj27 x38.2 (cu + 2) (su + 12) ⟨by omega, by omega⟩ H locs ls h hP hD hS (lv_sub hl [1, 2] rfl)
            · have h := ite_p cc h
              refine lv_aload_n hx hb dL_refuses_423 rfl (lv_at hl 1 rfl) ?_
              obtain ⟨x40, e41, h⟩ := bd_some h
              refine lcW (Re := []) (S := x38.2) (rs := x40) (c2 := (cu + 3)) (s2 := (su + 18)) hG hGX hN hP hD hS hA (fun h1 h2 => vx_runSX (As := [.ref (a o)]) (rest := []) ⟨hx, hb, hml, hown, hts⟩ (qL_addEntrant l hl9 D cy tt a o x38.2  (H).size x40 e41) (vx_cwSW 1 hts gL_refuses_L_addEntrant rfl rfl rfl (by decide +kernel) ⟨Nat.le_of_ble_eq_true rfl, Nat.le_of_ble_eq_true rfl⟩) ⟨h1, h2⟩ rfl rfl hl.1 rfl (lv_room (Nat.le_of_ble_eq_true rfl)) dL_refuses_424 ⟨show (cu + 2) + 1 ≤ 39 by omega, show (su + 12) + 6 ≤ 468 by omega⟩) rfl rfl (fun H locs hP hD hS => ?_)
              refine lv_sipush (v := (-902 : Int32)) hx hb dL_refuses_427 (by decide) ?_
              refine lv_icmp_ne (tgt := 495) hx hb dL_refuses_430 (by decide) (fun cc => ?_) (fun cc => ?_)
              · have h := ite_n cc h
                exact Jj27 x40.2 (cu + 3) (su + 18) ⟨by omega, by omega⟩ H locs ls h hP hD hS (lv_sub hl [1, 2] rfl)
              · have h := ite_p cc h
                refine lv_aload_n hx hb dL_refuses_433 rfl (lv_at hl 1 rfl) ?_
                refine lv_iconst (v := (0 : Int32)) hx hb dL_refuses_434 (by decide) ?_
                refine lv_iconst (v := (0 : Int32)) hx hb dL_refuses_435 (by decide) ?_
                refine lv_iconst (v := (1 : Int32)) hx hb dL_refuses_436 (by decide) ?_
                obtain ⟨x42, e43, h⟩ := bd_some h
                refine lcW (Re := []) (S := x40.2) (rs := x42) (c2 := (cu + 4)) (s2 := (su + 24)) hG hGX hN hP hD hS hA (fun h1 h2 => vx_runSX (As := [.ref (a o), .int (0 : Int32), .int (0 : Int32), .int (1 : Int32)]) (rest := []) ⟨hx, hb, hml, hown, hts⟩ (qL_addWork l hl9 D cy tt a o x40.2 (0 : Int32) (0 : Int32) (1 : Int32) (H).size x42 e43) (vx_cwSW 4 hts gL_refuses_L_addWork rfl rfl rfl (by decide +kernel) ⟨Nat.le_of_ble_eq_true rfl, Nat.le_of_ble_eq_true rfl⟩) ⟨h1, h2⟩ rfl rfl hl.1 rfl (lv_room (Nat.le_of_ble_eq_true rfl)) dL_refuses_437 ⟨show (cu + 3) + 1 ≤ 39 by omega, show (su + 18) + 6 ≤ 468 by omega⟩) rfl rfl (fun H locs hP hD hS => ?_)
                refine lv_sipush (v := (-902 : Int32)) hx hb dL_refuses_440 (by decide) ?_
                refine lv_icmp_ne (tgt := 495) hx hb dL_refuses_443 (by decide) (fun cc => ?_) (fun cc => ?_)
                · have h := ite_n cc h
                  exact Jj27 x42.2 (cu + 4) (su + 24) ⟨by omega, by omega⟩ H locs ls h hP hD hS (lv_sub hl [1, 2] rfl)
                · have h := ite_p cc h
                  refine lv_aload_n hx hb dL_refuses_446 rfl (lv_at hl 1 rfl) ?_
                  refine lv_iconst (v := (0 : Int32)) hx hb dL_refuses_447 (by decide) ?_
                  refine lv_iconst (v := (5 : Int32)) hx hb dL_refuses_448 (by decide) ?_
                  refine lv_iconst (v := (3 : Int32)) hx hb dL_refuses_449 (by decide) ?_
                  obtain ⟨x44, e45, h⟩ := bd_some h
                  refine lcW (Re := []) (S := x42.2) (rs := x44) (c2 := (cu + 5)) (s2 := (su + 30)) hG hGX hN hP hD hS hA (fun h1 h2 => vx_runSX (As := [.ref (a o), .int (0 : Int32), .int (5 : Int32), .int (3 : Int32)]) (rest := []) ⟨hx, hb, hml, hown, hts⟩ (qL_setRule l hl9 D cy tt a o x42.2 (0 : Int32) (5 : Int32) (3 : Int32) (H).size x44 e45) (vx_cwSW 4 hts gL_refuses_L_setRule rfl rfl rfl (by decide +kernel) ⟨Nat.le_of_ble_eq_true rfl, Nat.le_of_ble_eq_true rfl⟩) ⟨h1, h2⟩ rfl rfl hl.1 rfl (lv_room (Nat.le_of_ble_eq_true rfl)) dL_refuses_450 ⟨show (cu + 4) + 1 ≤ 39 by omega, show (su + 24) + 6 ≤ 468 by omega⟩) rfl rfl (fun H locs hP hD hS => ?_)
                  refine lv_sipush (v := (-902 : Int32)) hx hb dL_refuses_453 (by decide) ?_
                  refine lv_icmp_ne (tgt := 495) hx hb dL_refuses_456 (by decide) (fun cc => ?_) (fun cc => ?_)
                  · have h := ite_n cc h
                    exact Jj27 x44.2 (cu + 5) (su + 30) ⟨by omega, by omega⟩ H locs ls h hP hD hS (lv_sub hl [1, 2] rfl)
                  · have h := ite_p cc h
                    refine lv_aload_n hx hb dL_refuses_459 rfl (lv_at hl 1 rfl) ?_
                    refine lv_iconst (v := (1 : Int32)) hx hb dL_refuses_460 (by decide) ?_
                    refine lv_iconst (v := (2 : Int32)) hx hb dL_refuses_461 (by decide) ?_
                    obtain ⟨x46, e47, h⟩ := bd_some h
                    refine lcW (Re := []) (S := x44.2) (rs := x46) (c2 := (cu + 6)) (s2 := (su + 36)) hG hGX hN hP hD hS hA (fun h1 h2 => vx_runSX (As := [.ref (a o), .int (1 : Int32), .int (2 : Int32)]) (rest := []) ⟨hx, hb, hml, hown, hts⟩ (qL_set l hl9 D cy tt a o x44.2 (1 : Int32) (2 : Int32) (H).size x46 e47) (vx_cwSW 3 hts gL_refuses_L_set rfl rfl rfl (by decide +kernel) ⟨Nat.le_of_ble_eq_true rfl, Nat.le_of_ble_eq_true rfl⟩) ⟨h1, h2⟩ rfl rfl hl.1 rfl (lv_room (Nat.le_of_ble_eq_true rfl)) dL_refuses_462 ⟨show (cu + 5) + 1 ≤ 39 by omega, show (su + 30) + 6 ≤ 468 by omega⟩) rfl rfl (fun H locs hP hD hS => ?_)
                    refine lv_sipush (v := (-902 : Int32)) hx hb dL_refuses_465 (by decide) ?_
                    refine lv_icmp_ne (tgt := 495) hx hb dL_refuses_468 (by decide) (fun cc => ?_) (fun cc => ?_)
                    · have h := ite_n cc h
                      exact Jj27 x46.2 (cu + 6) (su + 36) ⟨by omega, by omega⟩ H locs ls h hP hD hS (lv_sub hl [1, 2] rfl)
                    · have h := ite_p cc h
                      exact Jj31 x46.2 (cu + 6) (su + 36) ⟨by omega, by omega⟩ H locs ls h hP hD hS (lv_sub hl [1, 2] rfl)
      obtain ⟨j49, hj49, h⟩ := jn_elim h
      have Jj49 : ∀ (S_48 : SX11) (cu su : Nat) (hcu : cu + (8) ≤ 39 ∧ su + 12 * (8) ≤ 468) (H : Heap) (locs : List Loc) (ls : Array Slot), j49 S_48 = some rs → va_P D vwCl (wX11 cy a o S_48) H → va_D (va_A (wX11 cy a o S) s.heap.size) (wX11 cy a o S_48) → va_S (va_A (wX11 cy a o S) s.heap.size) s.heap H locs → lv_has ls 6 [(0, .ref (a o)), (1, .long x1)] → W p l e (headSpec wsL_refuses ({ frames := 11, cells := 39, slots := 468, locals := 276 } : Room)).room s m ([.ref (a o)] : List Value).toArray below meth c H locs cu su (vx_MQ below (va_Qi (fun r (u : SX11) => (r, u) = rs) (fun u t => mB D s.heap.size (wX11 cy a o S) (wX11 cy a o u) t) (va_A (wX11 cy a o S) s.heap.size)) (fun _ _ _ => False) ([.ref (a o)] : List Value).toArray s 39 468 (va_A (wX11 cy a o S) s.heap.size)) (F0 m 396 ls []) := by
        intro S_48 cu su hcu H locs ls h hP hD hS hl
        rw [hj49] at h
        refine lv_iconst (v := (0 : Int32)) hx hb dL_refuses_396 (by decide) ?_
        exact Jj14 (0 : Int32) S_48 cu su ⟨by omega, by omega⟩ H locs ls h hP hD hS (lv_sub hl [0, 1] rfl)
      refine lv_if_eq (tgt := 396) hx hb dL_refuses_226 (by decide) (fun cc => ?_) (fun cc => ?_)
      · have h := ite_p cc h
        exact Jj49 S_10 cu su ⟨by omega, by omega⟩ H locs ls h hP hD hS (lv_sub hl [1, 2] rfl)
      · have h := ite_n cc h
        refine lv_aload_n hx hb dL_refuses_229 rfl (lv_at hl 1 rfl) ?_
        refine lv_iconst (v := (-1 : Int32)) hx hb dL_refuses_230 (by decide) ?_
        obtain ⟨x50, e51, h⟩ := bd_some h
        refine lcW (Re := []) (S := S_10) (rs := x50) (c2 := (cu + 1)) (s2 := (su + 6)) hG hGX hN hP hD hS hA (fun h1 h2 => vx_runSX (As := [.ref (a o), .int (-1 : Int32)]) (rest := []) ⟨hx, hb, hml, hown, hts⟩ (qL_begin l hl9 D cy tt a o S_10 (-1 : Int32) (H).size x50 e51) (vx_cwSW 2 hts gL_refuses_L_begin rfl rfl rfl (by decide +kernel) ⟨Nat.le_of_ble_eq_true rfl, Nat.le_of_ble_eq_true rfl⟩) ⟨h1, h2⟩ rfl rfl hl.1 rfl (lv_room (Nat.le_of_ble_eq_true rfl)) dL_refuses_231 ⟨show cu + 1 ≤ 39 by omega, show su + 6 ≤ 468 by omega⟩) rfl rfl (fun H locs hP hD hS => ?_)
        refine lv_sipush (v := (-901 : Int32)) hx hb dL_refuses_234 (by decide) ?_
        refine lv_icmp_ne (tgt := 396) hx hb dL_refuses_237 (by decide) (fun cc => ?_) (fun cc => ?_)
        · have h := ite_n cc h
          exact Jj49 x50.2 (cu + 1) (su + 6) ⟨by omega, by omega⟩ H locs ls h hP hD hS (lv_sub hl [1, 2] rfl)
        · have h := ite_p cc h
          refine lv_aload_n hx hb dL_refuses_240 rfl (lv_at hl 1 rfl) ?_
          refine lv_bipush (v := (21 : Int32)) hx hb dL_refuses_241 (by decide) ?_
          obtain ⟨x52, e53, h⟩ := bd_some h
          refine lcW (Re := []) (S := x50.2) (rs := x52) (c2 := (cu + 2)) (s2 := (su + 12)) hG hGX hN hP hD hS hA (fun h1 h2 => vx_runSX (As := [.ref (a o), .int (21 : Int32)]) (rest := []) ⟨hx, hb, hml, hown, hts⟩ (qL_play l hl9 D cy tt a o x50.2 (21 : Int32) (H).size x52 e53) (vx_cwSW 2 hts gL_refuses_L_play rfl rfl rfl (by decide +kernel) ⟨Nat.le_of_ble_eq_true rfl, Nat.le_of_ble_eq_true rfl⟩) ⟨h1, h2⟩ rfl rfl hl.1 rfl (lv_room (Nat.le_of_ble_eq_true rfl)) dL_refuses_243 ⟨show (cu + 1) + 1 ≤ 39 by omega, show (su + 6) + 6 ≤ 468 by omega⟩) rfl rfl (fun H locs hP hD hS => ?_)
          refine lv_sipush (v := (-901 : Int32)) hx hb dL_refuses_246 (by decide) ?_
          refine lv_icmp_ne (tgt := 396) hx hb dL_refuses_249 (by decide) (fun cc => ?_) (fun cc => ?_)
          · have h := ite_n cc h
            exact Jj49 x52.2 (cu + 2) (su + 12) ⟨by omega, by omega⟩ H locs ls h hP hD hS (lv_sub hl [1, 2] rfl)
          · have h := ite_p cc h
            refine lv_aload_n hx hb dL_refuses_252 rfl (lv_at hl 1 rfl) ?_
            refine lv_iload hx hb dL_refuses_253 (lv_at hl 4 rfl) ?_
            refine lv_iconst (v := (0 : Int32)) hx hb dL_refuses_255 (by decide) ?_
            refine lv_bipush (v := (101 : Int32)) hx hb dL_refuses_256 (by decide) ?_
            obtain ⟨x54, e55, h⟩ := bd_some h
            refine lcW (Re := []) (S := x52.2) (rs := x54) (c2 := (cu + 3)) (s2 := (su + 18)) hG hGX hN hP hD hS hA (fun h1 h2 => vx_runSX (As := [.ref (a o), .int x5, .int (0 : Int32), .int (101 : Int32)]) (rest := []) ⟨hx, hb, hml, hown, hts⟩ (qL_mark l hl9 D cy tt a o x52.2 x5 (0 : Int32) (101 : Int32) (H).size x54 e55) (vx_cwSW 4 hts gL_refuses_L_mark rfl rfl rfl (by decide +kernel) ⟨Nat.le_of_ble_eq_true rfl, Nat.le_of_ble_eq_true rfl⟩) ⟨h1, h2⟩ rfl rfl hl.1 rfl (lv_room (Nat.le_of_ble_eq_true rfl)) dL_refuses_258 ⟨show (cu + 2) + 1 ≤ 39 by omega, show (su + 12) + 6 ≤ 468 by omega⟩) rfl rfl (fun H locs hP hD hS => ?_)
            refine lv_sipush (v := (-903 : Int32)) hx hb dL_refuses_261 (by decide) ?_
            refine lv_icmp_ne (tgt := 396) hx hb dL_refuses_264 (by decide) (fun cc => ?_) (fun cc => ?_)
            · have h := ite_n cc h
              exact Jj49 x54.2 (cu + 3) (su + 18) ⟨by omega, by omega⟩ H locs ls h hP hD hS (lv_sub hl [1, 2] rfl)
            · have h := ite_p cc h
              refine lv_aload_n hx hb dL_refuses_267 rfl (lv_at hl 1 rfl) ?_
              refine lv_iconst (v := (0 : Int32)) hx hb dL_refuses_268 (by decide) ?_
              refine lv_iload_n hx hb dL_refuses_269 rfl (lv_at hl 3 rfl) ?_
              refine lv_bipush (v := (101 : Int32)) hx hb dL_refuses_270 (by decide) ?_
              obtain ⟨x56, e57, h⟩ := bd_some h
              refine lcW (Re := []) (S := x54.2) (rs := x56) (c2 := (cu + 4)) (s2 := (su + 24)) hG hGX hN hP hD hS hA (fun h1 h2 => vx_runSX (As := [.ref (a o), .int (0 : Int32), .int x3, .int (101 : Int32)]) (rest := []) ⟨hx, hb, hml, hown, hts⟩ (qL_mark l hl9 D cy tt a o x54.2 (0 : Int32) x3 (101 : Int32) (H).size x56 e57) (vx_cwSW 4 hts gL_refuses_L_mark rfl rfl rfl (by decide +kernel) ⟨Nat.le_of_ble_eq_true rfl, Nat.le_of_ble_eq_true rfl⟩) ⟨h1, h2⟩ rfl rfl hl.1 rfl (lv_room (Nat.le_of_ble_eq_true rfl)) dL_refuses_272 ⟨show (cu + 3) + 1 ≤ 39 by omega, show (su + 18) + 6 ≤ 468 by omega⟩) rfl rfl (fun H locs hP hD hS => ?_)
              refine lv_sipush (v := (-903 : Int32)) hx hb dL_refuses_275 (by decide) ?_
              refine lv_icmp_ne (tgt := 396) hx hb dL_refuses_278 (by decide) (fun cc => ?_) (fun cc => ?_)
              · have h := ite_n cc h
                exact Jj49 x56.2 (cu + 4) (su + 24) ⟨by omega, by omega⟩ H locs ls h hP hD hS (lv_sub hl [1, 2] rfl)
              · have h := ite_p cc h
                refine lv_aload_n hx hb dL_refuses_281 rfl (lv_at hl 1 rfl) ?_
                refine lv_iconst (v := (-1 : Int32)) hx hb dL_refuses_282 (by decide) ?_
                refine lv_iconst (v := (0 : Int32)) hx hb dL_refuses_283 (by decide) ?_
                obtain ⟨x58, e59, h⟩ := bd_some h
                refine lcW (Re := []) (S := x56.2) (rs := x58) (c2 := (cu + 5)) (s2 := (su + 30)) hG hGX hN hP hD hS hA (fun h1 h2 => vx_runSX (As := [.ref (a o), .int (-1 : Int32), .int (0 : Int32)]) (rest := []) ⟨hx, hb, hml, hown, hts⟩ (qL_abstain l hl9 D cy tt a o x56.2 (-1 : Int32) (0 : Int32) (H).size x58 e59) (vx_cwSW 3 hts gL_refuses_L_abstain rfl rfl rfl (by decide +kernel) ⟨Nat.le_of_ble_eq_true rfl, Nat.le_of_ble_eq_true rfl⟩) ⟨h1, h2⟩ rfl rfl hl.1 rfl (lv_room (Nat.le_of_ble_eq_true rfl)) dL_refuses_284 ⟨show (cu + 4) + 1 ≤ 39 by omega, show (su + 24) + 6 ≤ 468 by omega⟩) rfl rfl (fun H locs hP hD hS => ?_)
                refine lv_sipush (v := (-903 : Int32)) hx hb dL_refuses_287 (by decide) ?_
                refine lv_icmp_ne (tgt := 396) hx hb dL_refuses_290 (by decide) (fun cc => ?_) (fun cc => ?_)
                · have h := ite_n cc h
                  exact Jj49 x58.2 (cu + 5) (su + 30) ⟨by omega, by omega⟩ H locs ls h hP hD hS (lv_sub hl [1, 2] rfl)
                · have h := ite_p cc h
                  refine lv_aload_n hx hb dL_refuses_293 rfl (lv_at hl 1 rfl) ?_
                  refine lv_iload_n hx hb dL_refuses_294 rfl (lv_at hl 3 rfl) ?_
                  obtain ⟨x60, e61, h⟩ := bd_some h
                  refine lcW (Re := []) (S := x58.2) (rs := x60) (c2 := (cu + 6)) (s2 := (su + 36)) hG hGX hN hP hD hS hA (fun h1 h2 => vx_runSX (As := [.ref (a o), .int x3]) (rest := []) ⟨hx, hb, hml, hown, hts⟩ (qL_withdraw l hl9 D cy tt a o x58.2 x3 (H).size x60 e61) (vx_cwSW 2 hts gL_refuses_L_withdraw rfl rfl rfl (by decide +kernel) ⟨Nat.le_of_ble_eq_true rfl, Nat.le_of_ble_eq_true rfl⟩) ⟨h1, h2⟩ rfl rfl hl.1 rfl (lv_room (Nat.le_of_ble_eq_true rfl)) dL_refuses_295 ⟨show (cu + 5) + 1 ≤ 39 by omega, show (su + 30) + 6 ≤ 468 by omega⟩) rfl rfl (fun H locs hP hD hS => ?_)
                  refine lv_sipush (v := (-903 : Int32)) hx hb dL_refuses_298 (by decide) ?_
                  refine lv_icmp_ne (tgt := 396) hx hb dL_refuses_301 (by decide) (fun cc => ?_) (fun cc => ?_)
                  · have h := ite_n cc h
                    exact Jj49 x60.2 (cu + 6) (su + 36) ⟨by omega, by omega⟩ H locs ls h hP hD hS (lv_sub hl [1, 2] rfl)
                  · have h := ite_p cc h
                    refine lv_aload_n hx hb dL_refuses_304 rfl (lv_at hl 1 rfl) ?_
                    refine lv_bipush (v := (13 : Int32)) hx hb dL_refuses_305 (by decide) ?_
                    obtain ⟨x62, e63, h⟩ := bd_some h
                    refine lcW (Re := []) (S := x60.2) (rs := (x62, x60.2)) (c2 := (cu + 7)) (s2 := (su + 42)) hG hGX hN hP hD hS hA (fun h1 h2 => vx_runSX (As := [.ref (a o), .int (13 : Int32)]) (rest := []) ⟨hx, hb, hml, hown, hts⟩ (qL_info l hl9 D cy tt a o x60.2 (13 : Int32) (H).size x62 e63) (vx_cwSW 2 hts gL_refuses_L_info rfl rfl rfl (by decide +kernel) ⟨Nat.le_of_ble_eq_true rfl, Nat.le_of_ble_eq_true rfl⟩) ⟨h1, h2⟩ rfl rfl hl.1 rfl (lv_room (Nat.le_of_ble_eq_true rfl)) dL_refuses_307 ⟨show (cu + 6) + 1 ≤ 39 by omega, show (su + 36) + 6 ≤ 468 by omega⟩) rfl rfl (fun H locs hP hD hS => ?_)
                    refine lv_sipush (v := (-901 : Int32)) hx hb dL_refuses_310 (by decide) ?_
                    refine lv_icmp_ne (tgt := 396) hx hb dL_refuses_313 (by decide) (fun cc => ?_) (fun cc => ?_)
                    · have h := ite_n cc h
                      exact Jj49 x60.2 (cu + 7) (su + 42) ⟨by omega, by omega⟩ H locs ls h hP hD hS (lv_sub hl [1, 2] rfl)
                    · have h := ite_p cc h
                      refine lv_aload_n hx hb dL_refuses_316 rfl (lv_at hl 1 rfl) ?_
                      refine lv_iload_n hx hb dL_refuses_317 rfl (lv_at hl 3 rfl) ?_
                      refine lv_bipush (v := (9 : Int32)) hx hb dL_refuses_318 (by decide) ?_
                      obtain ⟨x64, e65, h⟩ := bd_some h
                      refine lcW (Re := []) (S := x60.2) (rs := (x64, x60.2)) (c2 := (cu + 8)) (s2 := (su + 48)) hG hGX hN hP hD hS hA (fun h1 h2 => vx_runSX (As := [.ref (a o), .int x3, .int (9 : Int32)]) (rest := []) ⟨hx, hb, hml, hown, hts⟩ (qL_entrant l hl9 D cy tt a o x60.2 x3 (9 : Int32) (H).size x64 e65) (vx_cwSW 3 hts gL_refuses_L_entrant rfl rfl rfl (by decide +kernel) ⟨Nat.le_of_ble_eq_true rfl, Nat.le_of_ble_eq_true rfl⟩) ⟨h1, h2⟩ rfl rfl hl.1 rfl (lv_room (Nat.le_of_ble_eq_true rfl)) dL_refuses_320 ⟨show (cu + 7) + 1 ≤ 39 by omega, show (su + 42) + 6 ≤ 468 by omega⟩) rfl rfl (fun H locs hP hD hS => ?_)
                      refine lv_sipush (v := (-903 : Int32)) hx hb dL_refuses_323 (by decide) ?_
                      refine lv_icmp_ne (tgt := 396) hx hb dL_refuses_326 (by decide) (fun cc => ?_) (fun cc => ?_)
                      · have h := ite_n cc h
                        exact Jj49 x60.2 (cu + 8) (su + 48) ⟨by omega, by omega⟩ H locs ls h hP hD hS (lv_sub hl [1, 2] rfl)
                      · have h := ite_p cc h
                        refine lv_aload_n hx hb dL_refuses_329 rfl (lv_at hl 1 rfl) ?_
                        refine lv_iload hx hb dL_refuses_330 (lv_at hl 4 rfl) ?_
                        refine lv_iconst (v := (0 : Int32)) hx hb dL_refuses_332 (by decide) ?_
                        refine lv_iconst (v := (1 : Int32)) hx hb dL_refuses_333 (by decide) ?_
                        obtain ⟨x66, e67, h⟩ := bd_some h
                        refine lcW (Re := []) (S := x60.2) (rs := (x66, x60.2)) (c2 := (cu + 9)) (s2 := (su + 54)) hG hGX hN hP hD hS hA (fun h1 h2 => vx_runSX (As := [.ref (a o), .int x5, .int (0 : Int32), .int (1 : Int32)]) (rest := []) ⟨hx, hb, hml, hown, hts⟩ (qL_marked l hl9 D cy tt a o x60.2 x5 (0 : Int32) (1 : Int32) (H).size x66 e67) (vx_cwSW 4 hts gL_refuses_L_marked rfl rfl rfl (by decide +kernel) ⟨Nat.le_of_ble_eq_true rfl, Nat.le_of_ble_eq_true rfl⟩) ⟨h1, h2⟩ rfl rfl hl.1 rfl (lv_room (Nat.le_of_ble_eq_true rfl)) dL_refuses_334 ⟨show (cu + 8) + 1 ≤ 39 by omega, show (su + 48) + 6 ≤ 468 by omega⟩) rfl rfl (fun H locs hP hD hS => ?_)
                        refine lv_sipush (v := (-903 : Int32)) hx hb dL_refuses_337 (by decide) ?_
                        refine lv_icmp_ne (tgt := 396) hx hb dL_refuses_340 (by decide) (fun cc => ?_) (fun cc => ?_)
                        · have h := ite_n cc h
                          exact Jj49 x60.2 (cu + 9) (su + 54) ⟨by omega, by omega⟩ H locs ls h hP hD hS (lv_sub hl [1, 2] rfl)
                        · have h := ite_p cc h
                          refine lv_aload_n hx hb dL_refuses_343 rfl (lv_at hl 1 rfl) ?_
                          refine lv_iload_n hx hb dL_refuses_344 rfl (lv_at hl 3 rfl) ?_
                          refine lv_iconst (v := (0 : Int32)) hx hb dL_refuses_345 (by decide) ?_
                          obtain ⟨x68, e69, h⟩ := bd_some h
                          refine lcW (Re := []) (S := x60.2) (rs := (x68, x60.2)) (c2 := (cu + 10)) (s2 := (su + 60)) hG hGX hN hP hD hS hA (fun h1 h2 => vx_runSX (As := [.ref (a o), .int x3, .int (0 : Int32)]) (rest := []) ⟨hx, hb, hml, hown, hts⟩ (qL_history l hl9 D cy tt a o x60.2 x3 (0 : Int32) (H).size x68 e69) (vx_cwSW 3 hts gL_refuses_L_history rfl rfl rfl (by decide +kernel) ⟨Nat.le_of_ble_eq_true rfl, Nat.le_of_ble_eq_true rfl⟩) ⟨h1, h2⟩ rfl rfl hl.1 rfl (lv_room (Nat.le_of_ble_eq_true rfl)) dL_refuses_346 ⟨show (cu + 9) + 1 ≤ 39 by omega, show (su + 54) + 6 ≤ 468 by omega⟩) rfl rfl (fun H locs hP hD hS => ?_)
                          refine lv_sipush (v := (-903 : Int32)) hx hb dL_refuses_349 (by decide) ?_
                          refine lv_icmp_ne (tgt := 396) hx hb dL_refuses_352 (by decide) (fun cc => ?_) (fun cc => ?_)
                          · have h := ite_n cc h
                            exact Jj49 x60.2 (cu + 10) (su + 60) ⟨by omega, by omega⟩ H locs ls h hP hD hS (lv_sub hl [1, 2] rfl)
                          · have h := ite_p cc h
                            refine lv_aload_n hx hb dL_refuses_355 rfl (lv_at hl 1 rfl) ?_
                            refine lv_iconst (v := (-1 : Int32)) hx hb dL_refuses_356 (by decide) ?_
                            obtain ⟨x70, e71, h⟩ := bd_some h
                            refine lcW (Re := []) (S := x60.2) (rs := x70) (c2 := (cu + 11)) (s2 := (su + 66)) hG hGX hN hP hD hS hA (fun h1 h2 => vx_runSX (As := [.ref (a o), .int (-1 : Int32)]) (rest := []) ⟨hx, hb, hml, hown, hts⟩ (qL_wouldBe l hl9 D cy tt a o x60.2 (-1 : Int32) (H).size x70 e71) (vx_cwSW 2 hts gL_refuses_L_wouldBe rfl rfl rfl (by decide +kernel) ⟨Nat.le_of_ble_eq_true rfl, Nat.le_of_ble_eq_true rfl⟩) ⟨h1, h2⟩ rfl rfl hl.1 rfl (lv_room (Nat.le_of_ble_eq_true rfl)) dL_refuses_357 ⟨show (cu + 10) + 1 ≤ 39 by omega, show (su + 60) + 6 ≤ 468 by omega⟩) rfl rfl (fun H locs hP hD hS => ?_)
                            refine lv_sipush (v := (-901 : Int32)) hx hb dL_refuses_360 (by decide) ?_
                            refine lv_icmp_ne (tgt := 396) hx hb dL_refuses_363 (by decide) (fun cc => ?_) (fun cc => ?_)
                            · have h := ite_n cc h
                              exact Jj49 x70.2 (cu + 11) (su + 66) ⟨by omega, by omega⟩ H locs ls h hP hD hS (lv_sub hl [1, 2] rfl)
                            · have h := ite_p cc h
                              refine lv_aload_n hx hb dL_refuses_366 rfl (lv_at hl 1 rfl) ?_
                              refine lv_iload hx hb dL_refuses_367 (lv_at hl 4 rfl) ?_
                              refine lv_iconst (v := (0 : Int32)) hx hb dL_refuses_369 (by decide) ?_
                              refine lv_iconst (v := (-1 : Int32)) hx hb dL_refuses_370 (by decide) ?_
                              obtain ⟨x72, e73, h⟩ := bd_some h
                              refine lcW (Re := []) (S := x70.2) (rs := (x72, x70.2)) (c2 := (cu + 12)) (s2 := (su + 72)) hG hGX hN hP hD hS hA (fun h1 h2 => vx_runSX (As := [.ref (a o), .int x5, .int (0 : Int32), .int (-1 : Int32)]) (rest := []) ⟨hx, hb, hml, hown, hts⟩ (qL_neededMark l hl9 D cy tt a o x70.2 x5 (0 : Int32) (-1 : Int32) (H).size x72 e73) (vx_cwSW 4 hts gL_refuses_L_neededMark rfl rfl rfl (by decide +kernel) ⟨Nat.le_of_ble_eq_true rfl, Nat.le_of_ble_eq_true rfl⟩) ⟨h1, h2⟩ rfl rfl hl.1 rfl (lv_room (Nat.le_of_ble_eq_true rfl)) dL_refuses_371 ⟨show (cu + 11) + 1 ≤ 39 by omega, show (su + 66) + 6 ≤ 468 by omega⟩) rfl rfl (fun H locs hP hD hS => ?_)
                              refine lv_sipush (v := (-903 : Int32)) hx hb dL_refuses_374 (by decide) ?_
                              refine lv_icmp_ne (tgt := 396) hx hb dL_refuses_377 (by decide) (fun cc => ?_) (fun cc => ?_)
                              · have h := ite_n cc h
                                exact Jj49 x70.2 (cu + 12) (su + 72) ⟨by omega, by omega⟩ H locs ls h hP hD hS (lv_sub hl [1, 2] rfl)
                              · have h := ite_p cc h
                                refine lv_aload_n hx hb dL_refuses_380 rfl (lv_at hl 1 rfl) ?_
                                refine lv_bipush (v := (31 : Int32)) hx hb dL_refuses_381 (by decide) ?_
                                obtain ⟨x74, e75, h⟩ := bd_some h
                                refine lcW (Re := []) (S := x70.2) (rs := x74) (c2 := (cu + 13)) (s2 := (su + 78)) hG hGX hN hP hD hS hA (fun h1 h2 => vx_runSX (As := [.ref (a o), .int (31 : Int32)]) (rest := []) ⟨hx, hb, hml, hown, hts⟩ (qL_type l hl9 D cy tt a o x70.2 (31 : Int32) (H).size x74 e75) (vx_cwSW 2 hts gL_refuses_L_type rfl rfl rfl (by decide +kernel) ⟨Nat.le_of_ble_eq_true rfl, Nat.le_of_ble_eq_true rfl⟩) ⟨h1, h2⟩ rfl rfl hl.1 rfl (lv_room (Nat.le_of_ble_eq_true rfl)) dL_refuses_383 ⟨show (cu + 12) + 1 ≤ 39 by omega, show (su + 72) + 6 ≤ 468 by omega⟩) rfl rfl (fun H locs hP hD hS => ?_)
                                refine lv_sipush (v := (-901 : Int32)) hx hb dL_refuses_386 (by decide) ?_
                                refine lv_icmp_ne (tgt := 396) hx hb dL_refuses_389 (by decide) (fun cc => ?_) (fun cc => ?_)
                                · have h := ite_n cc h
                                  exact Jj49 x74.2 (cu + 13) (su + 78) ⟨by omega, by omega⟩ H locs ls h hP hD hS (lv_sub hl [1, 2] rfl)
                                · have h := ite_p cc h
                                  refine lv_iconst (v := (1 : Int32)) hx hb dL_refuses_392 (by decide) ?_
                                  refine lv_goto (tgt := 397) hx hb dL_refuses_393 (by decide) ?_
                                  exact Jj14 (1 : Int32) x74.2 (cu + 13) (su + 78) ⟨by omega, by omega⟩ H locs ls h hP hD hS (lv_sub hl [1, 2] rfl)
    obtain ⟨j77, hj77, h⟩ := jn_elim h
    have Jj77 : ∀ (S_76 : SX11) (cu su : Nat) (hcu : cu + (21) ≤ 39 ∧ su + 12 * (21) ≤ 468) (H : Heap) (locs : List Loc) (ls : Array Slot), j77 S_76 = some rs → va_P D vwCl (wX11 cy a o S_76) H → va_D (va_A (wX11 cy a o S) s.heap.size) (wX11 cy a o S_76) → va_S (va_A (wX11 cy a o S) s.heap.size) s.heap H locs → lv_has ls 6 [(0, .ref (a o)), (1, .long x1), (3, .int x3), (4, .int x5)] → W p l e (headSpec wsL_refuses ({ frames := 11, cells := 39, slots := 468, locals := 276 } : Room)).room s m ([.ref (a o)] : List Value).toArray below meth c H locs cu su (vx_MQ below (va_Qi (fun r (u : SX11) => (r, u) = rs) (fun u t => mB D s.heap.size (wX11 cy a o S) (wX11 cy a o u) t) (va_A (wX11 cy a o S) s.heap.size)) (fun _ _ _ => False) ([.ref (a o)] : List Value).toArray s 39 468 (va_A (wX11 cy a o S) s.heap.size)) (F0 m 221 ls []) := by
      intro S_76 cu su hcu H locs ls h hP hD hS hl
      rw [hj77] at h
      refine lv_iconst (v := (0 : Int32)) hx hb dL_refuses_221 (by decide) ?_
      exact Jj11 (0 : Int32) S_76 cu su ⟨by omega, by omega⟩ H locs ls h hP hD hS (lv_sub hl [0, 1, 2, 3] rfl)
    refine lv_icmp_ne (tgt := 221) hx hb dL_refuses_30 (by decide) (fun cc => ?_) (fun cc => ?_)
    · have h := ite_n cc h
      exact Jj77 x7.2 (cu + 3) (su + 18) ⟨by omega, by omega⟩ H locs ls h hP hD hS (lv_sub hl [3, 2, 1, 0] rfl)
    · have h := ite_p cc h
      refine lv_aload_n hx hb dL_refuses_33 rfl (lv_at hl 3 rfl) ?_
      refine lv_iconst (v := (0 : Int32)) hx hb dL_refuses_34 (by decide) ?_
      refine lv_iconst (v := (5 : Int32)) hx hb dL_refuses_35 (by decide) ?_
      refine lv_iconst (v := (1 : Int32)) hx hb dL_refuses_36 (by decide) ?_
      obtain ⟨x78, e79, h⟩ := bd_some h
      refine lcW (Re := []) (S := x7.2) (rs := x78) (c2 := (cu + 4)) (s2 := (su + 24)) hG hGX hN hP hD hS hA (fun h1 h2 => vx_runSX (As := [.ref (a o), .int (0 : Int32), .int (5 : Int32), .int (1 : Int32)]) (rest := []) ⟨hx, hb, hml, hown, hts⟩ (qL_addWork l hl9 D cy tt a o x7.2 (0 : Int32) (5 : Int32) (1 : Int32) (H).size x78 e79) (vx_cwSW 4 hts gL_refuses_L_addWork rfl rfl rfl (by decide +kernel) ⟨Nat.le_of_ble_eq_true rfl, Nat.le_of_ble_eq_true rfl⟩) ⟨h1, h2⟩ rfl rfl hl.1 rfl (lv_room (Nat.le_of_ble_eq_true rfl)) dL_refuses_37 ⟨show (cu + 3) + 1 ≤ 39 by omega, show (su + 18) + 6 ≤ 468 by omega⟩) rfl rfl (fun H locs hP hD hS => ?_)
      refine lv_sipush (v := (-901 : Int32)) hx hb dL_refuses_40 (by decide) ?_
      refine lv_icmp_ne (tgt := 221) hx hb dL_refuses_43 (by decide) (fun cc => ?_) (fun cc => ?_)
      · have h := ite_n cc h
        exact Jj77 x78.2 (cu + 4) (su + 24) ⟨by omega, by omega⟩ H locs ls h hP hD hS (lv_sub hl [3, 2, 1, 0] rfl)
      · have h := ite_p cc h
        refine lv_aload_n hx hb dL_refuses_46 rfl (lv_at hl 3 rfl) ?_
        refine lv_iconst (v := (0 : Int32)) hx hb dL_refuses_47 (by decide) ?_
        refine lv_iconst (v := (0 : Int32)) hx hb dL_refuses_48 (by decide) ?_
        refine lv_iconst (v := (0 : Int32)) hx hb dL_refuses_49 (by decide) ?_
        obtain ⟨x80, e81, h⟩ := bd_some h
        refine lcW (Re := []) (S := x78.2) (rs := x80) (c2 := (cu + 5)) (s2 := (su + 30)) hG hGX hN hP hD hS hA (fun h1 h2 => vx_runSX (As := [.ref (a o), .int (0 : Int32), .int (0 : Int32), .int (0 : Int32)]) (rest := []) ⟨hx, hb, hml, hown, hts⟩ (qL_addWork l hl9 D cy tt a o x78.2 (0 : Int32) (0 : Int32) (0 : Int32) (H).size x80 e81) (vx_cwSW 4 hts gL_refuses_L_addWork rfl rfl rfl (by decide +kernel) ⟨Nat.le_of_ble_eq_true rfl, Nat.le_of_ble_eq_true rfl⟩) ⟨h1, h2⟩ rfl rfl hl.1 rfl (lv_room (Nat.le_of_ble_eq_true rfl)) dL_refuses_50 ⟨show (cu + 4) + 1 ≤ 39 by omega, show (su + 24) + 6 ≤ 468 by omega⟩) rfl rfl (fun H locs hP hD hS => ?_)
        refine lv_sipush (v := (-901 : Int32)) hx hb dL_refuses_53 (by decide) ?_
        refine lv_icmp_ne (tgt := 221) hx hb dL_refuses_56 (by decide) (fun cc => ?_) (fun cc => ?_)
        · have h := ite_n cc h
          exact Jj77 x80.2 (cu + 5) (su + 30) ⟨by omega, by omega⟩ H locs ls h hP hD hS (lv_sub hl [3, 2, 1, 0] rfl)
        · have h := ite_p cc h
          refine lv_aload_n hx hb dL_refuses_59 rfl (lv_at hl 3 rfl) ?_
          refine lv_aload_n hx hb dL_refuses_60 rfl (lv_at hl 3 rfl) ?_
          refine lv_iconst (v := (5 : Int32)) hx hb dL_refuses_61 (by decide) ?_
          obtain ⟨x82, e83, h⟩ := bd_some h
          refine lcW (Re := []) (S := x80.2) (rs := (x82, x80.2)) (c2 := (cu + 6)) (s2 := (su + 36)) hG hGX hN hP hD hS hA (fun h1 h2 => vx_runSX (As := [.ref (a o), .int (5 : Int32)]) (rest := [.ref (a o)]) ⟨hx, hb, hml, hown, hts⟩ (qL_info l hl9 D cy tt a o x80.2 (5 : Int32) (H).size x82 e83) (vx_cwSW 2 hts gL_refuses_L_info rfl rfl rfl (by decide +kernel) ⟨Nat.le_of_ble_eq_true rfl, Nat.le_of_ble_eq_true rfl⟩) ⟨h1, h2⟩ rfl rfl hl.1 rfl (lv_room (Nat.le_of_ble_eq_true rfl)) dL_refuses_62 ⟨show (cu + 5) + 1 ≤ 39 by omega, show (su + 30) + 6 ≤ 468 by omega⟩) rfl rfl (fun H locs hP hD hS => ?_)
          refine lv_bipush (v := (9 : Int32)) hx hb dL_refuses_65 (by decide) ?_
          obtain ⟨x84, e85, h⟩ := bd_some h
          refine lcW (Re := []) (S := x80.2) (rs := (x84, x80.2)) (c2 := (cu + 7)) (s2 := (su + 42)) hG hGX hN hP hD hS hA (fun h1 h2 => vx_runSX (As := [.ref (a o), .int x82, .int (9 : Int32)]) (rest := []) ⟨hx, hb, hml, hown, hts⟩ (qL_work l hl9 D cy tt a o x80.2 x82 (9 : Int32) (H).size x84 e85) (vx_cwSW 3 hts gL_refuses_L_work rfl rfl rfl (by decide +kernel) ⟨Nat.le_of_ble_eq_true rfl, Nat.le_of_ble_eq_true rfl⟩) ⟨h1, h2⟩ rfl rfl hl.1 rfl (lv_room (Nat.le_of_ble_eq_true rfl)) dL_refuses_67 ⟨show (cu + 6) + 1 ≤ 39 by omega, show (su + 36) + 6 ≤ 468 by omega⟩) rfl rfl (fun H locs hP hD hS => ?_)
          refine lv_sipush (v := (-903 : Int32)) hx hb dL_refuses_70 (by decide) ?_
          refine lv_icmp_ne (tgt := 221) hx hb dL_refuses_73 (by decide) (fun cc => ?_) (fun cc => ?_)
          · have h := ite_n cc h
            exact Jj77 x80.2 (cu + 7) (su + 42) ⟨by omega, by omega⟩ H locs ls h hP hD hS (lv_sub hl [3, 2, 1, 0] rfl)
          · have h := ite_p cc h
            refine lv_aload_n hx hb dL_refuses_76 rfl (lv_at hl 3 rfl) ?_
            refine lv_iload hx hb dL_refuses_77 (lv_at hl 0 rfl) ?_
            refine lv_iconst (v := (0 : Int32)) hx hb dL_refuses_79 (by decide) ?_
            refine lv_iconst (v := (1 : Int32)) hx hb dL_refuses_80 (by decide) ?_
            obtain ⟨x86, e87, h⟩ := bd_some h
            refine lcW (Re := []) (S := x80.2) (rs := x86) (c2 := (cu + 8)) (s2 := (su + 48)) hG hGX hN hP hD hS hA (fun h1 h2 => vx_runSX (As := [.ref (a o), .int x5, .int (0 : Int32), .int (1 : Int32)]) (rest := []) ⟨hx, hb, hml, hown, hts⟩ (qL_bar l hl9 D cy tt a o x80.2 x5 (0 : Int32) (1 : Int32) (H).size x86 e87) (vx_cwSW 4 hts gL_refuses_L_bar rfl rfl rfl (by decide +kernel) ⟨Nat.le_of_ble_eq_true rfl, Nat.le_of_ble_eq_true rfl⟩) ⟨h1, h2⟩ rfl rfl hl.1 rfl (lv_room (Nat.le_of_ble_eq_true rfl)) dL_refuses_81 ⟨show (cu + 7) + 1 ≤ 39 by omega, show (su + 42) + 6 ≤ 468 by omega⟩) rfl rfl (fun H locs hP hD hS => ?_)
            refine lv_sipush (v := (-903 : Int32)) hx hb dL_refuses_84 (by decide) ?_
            refine lv_icmp_ne (tgt := 221) hx hb dL_refuses_87 (by decide) (fun cc => ?_) (fun cc => ?_)
            · have h := ite_n cc h
              exact Jj77 x86.2 (cu + 8) (su + 48) ⟨by omega, by omega⟩ H locs ls h hP hD hS (lv_sub hl [3, 2, 1, 0] rfl)
            · have h := ite_p cc h
              refine lv_aload_n hx hb dL_refuses_90 rfl (lv_at hl 3 rfl) ?_
              refine lv_iconst (v := (0 : Int32)) hx hb dL_refuses_91 (by decide) ?_
              refine lv_iload_n hx hb dL_refuses_92 rfl (lv_at hl 1 rfl) ?_
              refine lv_iconst (v := (1 : Int32)) hx hb dL_refuses_93 (by decide) ?_
              obtain ⟨x88, e89, h⟩ := bd_some h
              refine lcW (Re := []) (S := x86.2) (rs := x88) (c2 := (cu + 9)) (s2 := (su + 54)) hG hGX hN hP hD hS hA (fun h1 h2 => vx_runSX (As := [.ref (a o), .int (0 : Int32), .int x3, .int (1 : Int32)]) (rest := []) ⟨hx, hb, hml, hown, hts⟩ (qL_bar l hl9 D cy tt a o x86.2 (0 : Int32) x3 (1 : Int32) (H).size x88 e89) (vx_cwSW 4 hts gL_refuses_L_bar rfl rfl rfl (by decide +kernel) ⟨Nat.le_of_ble_eq_true rfl, Nat.le_of_ble_eq_true rfl⟩) ⟨h1, h2⟩ rfl rfl hl.1 rfl (lv_room (Nat.le_of_ble_eq_true rfl)) dL_refuses_94 ⟨show (cu + 8) + 1 ≤ 39 by omega, show (su + 48) + 6 ≤ 468 by omega⟩) rfl rfl (fun H locs hP hD hS => ?_)
              refine lv_sipush (v := (-903 : Int32)) hx hb dL_refuses_97 (by decide) ?_
              refine lv_icmp_ne (tgt := 221) hx hb dL_refuses_100 (by decide) (fun cc => ?_) (fun cc => ?_)
              · have h := ite_n cc h
                exact Jj77 x88.2 (cu + 9) (su + 54) ⟨by omega, by omega⟩ H locs ls h hP hD hS (lv_sub hl [3, 2, 1, 0] rfl)
              · have h := ite_p cc h
                refine lv_aload_n hx hb dL_refuses_103 rfl (lv_at hl 3 rfl) ?_
                refine lv_iconst (v := (3 : Int32)) hx hb dL_refuses_104 (by decide) ?_
                refine lv_iconst (v := (0 : Int32)) hx hb dL_refuses_105 (by decide) ?_
                obtain ⟨x90, e91, h⟩ := bd_some h
                refine lcW (Re := []) (S := x88.2) (rs := x90) (c2 := (cu + 10)) (s2 := (su + 60)) hG hGX hN hP hD hS hA (fun h1 h2 => vx_runSX (As := [.ref (a o), .int (3 : Int32), .int (0 : Int32)]) (rest := []) ⟨hx, hb, hml, hown, hts⟩ (qL_set l hl9 D cy tt a o x88.2 (3 : Int32) (0 : Int32) (H).size x90 e91) (vx_cwSW 3 hts gL_refuses_L_set rfl rfl rfl (by decide +kernel) ⟨Nat.le_of_ble_eq_true rfl, Nat.le_of_ble_eq_true rfl⟩) ⟨h1, h2⟩ rfl rfl hl.1 rfl (lv_room (Nat.le_of_ble_eq_true rfl)) dL_refuses_106 ⟨show (cu + 9) + 1 ≤ 39 by omega, show (su + 54) + 6 ≤ 468 by omega⟩) rfl rfl (fun H locs hP hD hS => ?_)
                refine lv_sipush (v := (-901 : Int32)) hx hb dL_refuses_109 (by decide) ?_
                refine lv_icmp_ne (tgt := 221) hx hb dL_refuses_112 (by decide) (fun cc => ?_) (fun cc => ?_)
                · have h := ite_n cc h
                  exact Jj77 x90.2 (cu + 10) (su + 60) ⟨by omega, by omega⟩ H locs ls h hP hD hS (lv_sub hl [3, 2, 1, 0] rfl)
                · have h := ite_p cc h
                  refine lv_aload_n hx hb dL_refuses_115 rfl (lv_at hl 3 rfl) ?_
                  refine lv_iconst (v := (0 : Int32)) hx hb dL_refuses_116 (by decide) ?_
                  refine lv_iconst (v := (2 : Int32)) hx hb dL_refuses_117 (by decide) ?_
                  obtain ⟨x92, e93, h⟩ := bd_some h
                  refine lcW (Re := []) (S := x90.2) (rs := x92) (c2 := (cu + 11)) (s2 := (su + 66)) hG hGX hN hP hD hS hA (fun h1 h2 => vx_runSX (As := [.ref (a o), .int (0 : Int32), .int (2 : Int32)]) (rest := []) ⟨hx, hb, hml, hown, hts⟩ (qL_set l hl9 D cy tt a o x90.2 (0 : Int32) (2 : Int32) (H).size x92 e93) (vx_cwSW 3 hts gL_refuses_L_set rfl rfl rfl (by decide +kernel) ⟨Nat.le_of_ble_eq_true rfl, Nat.le_of_ble_eq_true rfl⟩) ⟨h1, h2⟩ rfl rfl hl.1 rfl (lv_room (Nat.le_of_ble_eq_true rfl)) dL_refuses_118 ⟨show (cu + 10) + 1 ≤ 39 by omega, show (su + 60) + 6 ≤ 468 by omega⟩) rfl rfl (fun H locs hP hD hS => ?_)
                  refine lv_sipush (v := (-901 : Int32)) hx hb dL_refuses_121 (by decide) ?_
                  refine lv_icmp_ne (tgt := 221) hx hb dL_refuses_124 (by decide) (fun cc => ?_) (fun cc => ?_)
                  · have h := ite_n cc h
                    exact Jj77 x92.2 (cu + 11) (su + 66) ⟨by omega, by omega⟩ H locs ls h hP hD hS (lv_sub hl [3, 2, 1, 0] rfl)
                  · have h := ite_p cc h
                    refine lv_aload_n hx hb dL_refuses_127 rfl (lv_at hl 3 rfl) ?_
                    refine lv_iconst (v := (4 : Int32)) hx hb dL_refuses_128 (by decide) ?_
                    refine lv_bipush (v := (9 : Int32)) hx hb dL_refuses_129 (by decide) ?_
                    refine lv_bipush (v := (9 : Int32)) hx hb dL_refuses_131 (by decide) ?_
                    obtain ⟨x94, e95, h⟩ := bd_some h
                    refine lcW (Re := []) (S := x92.2) (rs := x94) (c2 := (cu + 12)) (s2 := (su + 72)) hG hGX hN hP hD hS hA (fun h1 h2 => vx_runSX (As := [.ref (a o), .int (4 : Int32), .int (9 : Int32), .int (9 : Int32)]) (rest := []) ⟨hx, hb, hml, hown, hts⟩ (qL_setRule l hl9 D cy tt a o x92.2 (4 : Int32) (9 : Int32) (9 : Int32) (H).size x94 e95) (vx_cwSW 4 hts gL_refuses_L_setRule rfl rfl rfl (by decide +kernel) ⟨Nat.le_of_ble_eq_true rfl, Nat.le_of_ble_eq_true rfl⟩) ⟨h1, h2⟩ rfl rfl hl.1 rfl (lv_room (Nat.le_of_ble_eq_true rfl)) dL_refuses_133 ⟨show (cu + 11) + 1 ≤ 39 by omega, show (su + 66) + 6 ≤ 468 by omega⟩) rfl rfl (fun H locs hP hD hS => ?_)
                    refine lv_sipush (v := (-903 : Int32)) hx hb dL_refuses_136 (by decide) ?_
                    refine lv_icmp_ne (tgt := 221) hx hb dL_refuses_139 (by decide) (fun cc => ?_) (fun cc => ?_)
                    · have h := ite_n cc h
                      exact Jj77 x94.2 (cu + 12) (su + 72) ⟨by omega, by omega⟩ H locs ls h hP hD hS (lv_sub hl [3, 2, 1, 0] rfl)
                    · have h := ite_p cc h
                      refine lv_aload_n hx hb dL_refuses_142 rfl (lv_at hl 3 rfl) ?_
                      refine lv_iconst (v := (0 : Int32)) hx hb dL_refuses_143 (by decide) ?_
                      refine lv_iconst (v := (0 : Int32)) hx hb dL_refuses_144 (by decide) ?_
                      refine lv_iconst (v := (0 : Int32)) hx hb dL_refuses_145 (by decide) ?_
                      obtain ⟨x96, e97, h⟩ := bd_some h
                      refine lcW (Re := []) (S := x94.2) (rs := x96) (c2 := (cu + 13)) (s2 := (su + 78)) hG hGX hN hP hD hS hA (fun h1 h2 => vx_runSX (As := [.ref (a o), .int (0 : Int32), .int (0 : Int32), .int (0 : Int32)]) (rest := []) ⟨hx, hb, hml, hown, hts⟩ (qL_setRule l hl9 D cy tt a o x94.2 (0 : Int32) (0 : Int32) (0 : Int32) (H).size x96 e97) (vx_cwSW 4 hts gL_refuses_L_setRule rfl rfl rfl (by decide +kernel) ⟨Nat.le_of_ble_eq_true rfl, Nat.le_of_ble_eq_true rfl⟩) ⟨h1, h2⟩ rfl rfl hl.1 rfl (lv_room (Nat.le_of_ble_eq_true rfl)) dL_refuses_146 ⟨show (cu + 12) + 1 ≤ 39 by omega, show (su + 72) + 6 ≤ 468 by omega⟩) rfl rfl (fun H locs hP hD hS => ?_)
                      refine lv_sipush (v := (-901 : Int32)) hx hb dL_refuses_149 (by decide) ?_
                      refine lv_icmp_ne (tgt := 221) hx hb dL_refuses_152 (by decide) (fun cc => ?_) (fun cc => ?_)
                      · have h := ite_n cc h
                        exact Jj77 x96.2 (cu + 13) (su + 78) ⟨by omega, by omega⟩ H locs ls h hP hD hS (lv_sub hl [3, 2, 1, 0] rfl)
                      · have h := ite_p cc h
                        refine lv_aload_n hx hb dL_refuses_155 rfl (lv_at hl 3 rfl) ?_
                        refine lv_iconst (v := (0 : Int32)) hx hb dL_refuses_156 (by decide) ?_
                        refine lv_bipush (v := (6 : Int32)) hx hb dL_refuses_157 (by decide) ?_
                        obtain ⟨x98, e99, h⟩ := bd_some h
                        refine lcW (Re := []) (S := x96.2) (rs := (x98, x96.2)) (c2 := (cu + 14)) (s2 := (su + 84)) hG hGX hN hP hD hS hA (fun h1 h2 => vx_runSX (As := [.ref (a o), .int (0 : Int32), .int (6 : Int32)]) (rest := []) ⟨hx, hb, hml, hown, hts⟩ (qL_rule l hl9 D cy tt a o x96.2 (0 : Int32) (6 : Int32) (H).size x98 e99) (vx_cwSW 3 hts gL_refuses_L_rule rfl rfl rfl (by decide +kernel) ⟨Nat.le_of_ble_eq_true rfl, Nat.le_of_ble_eq_true rfl⟩) ⟨h1, h2⟩ rfl rfl hl.1 rfl (lv_room (Nat.le_of_ble_eq_true rfl)) dL_refuses_159 ⟨show (cu + 13) + 1 ≤ 39 by omega, show (su + 78) + 6 ≤ 468 by omega⟩) rfl rfl (fun H locs hP hD hS => ?_)
                        refine lv_sipush (v := (-901 : Int32)) hx hb dL_refuses_162 (by decide) ?_
                        refine lv_icmp_ne (tgt := 221) hx hb dL_refuses_165 (by decide) (fun cc => ?_) (fun cc => ?_)
                        · have h := ite_n cc h
                          exact Jj77 x96.2 (cu + 14) (su + 84) ⟨by omega, by omega⟩ H locs ls h hP hD hS (lv_sub hl [3, 2, 1, 0] rfl)
                        · have h := ite_p cc h
                          refine lv_aload_n hx hb dL_refuses_168 rfl (lv_at hl 3 rfl) ?_
                          refine lv_iload_n hx hb dL_refuses_169 rfl (lv_at hl 1 rfl) ?_
                          refine lv_iconst (v := (0 : Int32)) hx hb dL_refuses_170 (by decide) ?_
                          obtain ⟨x100, e101, h⟩ := bd_some h
                          refine lcW (Re := []) (S := x96.2) (rs := x100) (c2 := (cu + 15)) (s2 := (su + 90)) hG hGX hN hP hD hS hA (fun h1 h2 => vx_runSX (As := [.ref (a o), .int x3, .int (0 : Int32)]) (rest := []) ⟨hx, hb, hml, hown, hts⟩ (qL_setProgram l hl9 D cy tt a o x96.2 x3 (0 : Int32) (H).size x100 e101) (vx_cwSW 3 hts gL_refuses_L_setProgram rfl rfl rfl (by decide +kernel) ⟨Nat.le_of_ble_eq_true rfl, Nat.le_of_ble_eq_true rfl⟩) ⟨h1, h2⟩ rfl rfl hl.1 rfl (lv_room (Nat.le_of_ble_eq_true rfl)) dL_refuses_171 ⟨show (cu + 14) + 1 ≤ 39 by omega, show (su + 84) + 6 ≤ 468 by omega⟩) rfl rfl (fun H locs hP hD hS => ?_)
                          refine lv_sipush (v := (-903 : Int32)) hx hb dL_refuses_174 (by decide) ?_
                          refine lv_icmp_ne (tgt := 221) hx hb dL_refuses_177 (by decide) (fun cc => ?_) (fun cc => ?_)
                          · have h := ite_n cc h
                            exact Jj77 x100.2 (cu + 15) (su + 90) ⟨by omega, by omega⟩ H locs ls h hP hD hS (lv_sub hl [3, 2, 1, 0] rfl)
                          · have h := ite_p cc h
                            refine lv_aload_n hx hb dL_refuses_180 rfl (lv_at hl 3 rfl) ?_
                            refine lv_iload_n hx hb dL_refuses_181 rfl (lv_at hl 1 rfl) ?_
                            refine lv_iconst (v := (0 : Int32)) hx hb dL_refuses_182 (by decide) ?_
                            obtain ⟨x102, e103, h⟩ := bd_some h
                            refine lcW (Re := []) (S := x100.2) (rs := x102) (c2 := (cu + 16)) (s2 := (su + 96)) hG hGX hN hP hD hS hA (fun h1 h2 => vx_runSX (As := [.ref (a o), .int x3, .int (0 : Int32)]) (rest := []) ⟨hx, hb, hml, hown, hts⟩ (qL_clearProgram l hl9 D cy tt a o x100.2 x3 (0 : Int32) (H).size x102 e103) (vx_cwSW 3 hts gL_refuses_L_clearProgram rfl rfl rfl (by decide +kernel) ⟨Nat.le_of_ble_eq_true rfl, Nat.le_of_ble_eq_true rfl⟩) ⟨h1, h2⟩ rfl rfl hl.1 rfl (lv_room (Nat.le_of_ble_eq_true rfl)) dL_refuses_183 ⟨show (cu + 15) + 1 ≤ 39 by omega, show (su + 90) + 6 ≤ 468 by omega⟩) rfl rfl (fun H locs hP hD hS => ?_)
                            refine lv_sipush (v := (-903 : Int32)) hx hb dL_refuses_186 (by decide) ?_
                            refine lv_icmp_ne (tgt := 221) hx hb dL_refuses_189 (by decide) (fun cc => ?_) (fun cc => ?_)
                            · have h := ite_n cc h
                              exact Jj77 x102.2 (cu + 16) (su + 96) ⟨by omega, by omega⟩ H locs ls h hP hD hS (lv_sub hl [3, 2, 1, 0] rfl)
                            · have h := ite_p cc h
                              refine lv_aload_n hx hb dL_refuses_192 rfl (lv_at hl 3 rfl) ?_
                              refine lv_iconst (v := (-1 : Int32)) hx hb dL_refuses_193 (by decide) ?_
                              refine lv_iconst (v := (0 : Int32)) hx hb dL_refuses_194 (by decide) ?_
                              refine lv_iconst (v := (0 : Int32)) hx hb dL_refuses_195 (by decide) ?_
                              obtain ⟨x104, e105, h⟩ := bd_some h
                              refine lcW (Re := []) (S := x102.2) (rs := (x104, x102.2)) (c2 := (cu + 17)) (s2 := (su + 102)) hG hGX hN hP hD hS hA (fun h1 h2 => vx_runSX (As := [.ref (a o), .int (-1 : Int32), .int (0 : Int32), .int (0 : Int32)]) (rest := []) ⟨hx, hb, hml, hown, hts⟩ (qL_program l hl9 D cy tt a o x102.2 (-1 : Int32) (0 : Int32) (0 : Int32) (H).size x104 e105) (vx_cwSW 4 hts gL_refuses_L_program rfl rfl rfl (by decide +kernel) ⟨Nat.le_of_ble_eq_true rfl, Nat.le_of_ble_eq_true rfl⟩) ⟨h1, h2⟩ rfl rfl hl.1 rfl (lv_room (Nat.le_of_ble_eq_true rfl)) dL_refuses_196 ⟨show (cu + 16) + 1 ≤ 39 by omega, show (su + 96) + 6 ≤ 468 by omega⟩) rfl rfl (fun H locs hP hD hS => ?_)
                              refine lv_sipush (v := (-903 : Int32)) hx hb dL_refuses_199 (by decide) ?_
                              refine lv_icmp_ne (tgt := 221) hx hb dL_refuses_202 (by decide) (fun cc => ?_) (fun cc => ?_)
                              · have h := ite_n cc h
                                exact Jj77 x102.2 (cu + 17) (su + 102) ⟨by omega, by omega⟩ H locs ls h hP hD hS (lv_sub hl [3, 2, 1, 0] rfl)
                              · have h := ite_p cc h
                                refine lv_aload_n hx hb dL_refuses_205 rfl (lv_at hl 3 rfl) ?_
                                refine lv_iconst (v := (0 : Int32)) hx hb dL_refuses_206 (by decide) ?_
                                refine lv_iconst (v := (4 : Int32)) hx hb dL_refuses_207 (by decide) ?_
                                obtain ⟨x106, e107, h⟩ := bd_some h
                                refine lcW (Re := []) (S := x102.2) (rs := (x106, x102.2)) (c2 := (cu + 18)) (s2 := (su + 108)) hG hGX hN hP hD hS hA (fun h1 h2 => vx_runSX (As := [.ref (a o), .int (0 : Int32), .int (4 : Int32)]) (rest := []) ⟨hx, hb, hml, hown, hts⟩ (qL_flaw l hl9 D cy tt a o x102.2 (0 : Int32) (4 : Int32) (H).size x106 e107) (vx_cwSW 3 hts gL_refuses_L_flaw rfl rfl rfl (by decide +kernel) ⟨Nat.le_of_ble_eq_true rfl, Nat.le_of_ble_eq_true rfl⟩) ⟨h1, h2⟩ rfl rfl hl.1 rfl (lv_room (Nat.le_of_ble_eq_true rfl)) dL_refuses_208 ⟨show (cu + 17) + 1 ≤ 39 by omega, show (su + 102) + 6 ≤ 468 by omega⟩) rfl rfl (fun H locs hP hD hS => ?_)
                                refine lv_sipush (v := (-903 : Int32)) hx hb dL_refuses_211 (by decide) ?_
                                refine lv_icmp_ne (tgt := 221) hx hb dL_refuses_214 (by decide) (fun cc => ?_) (fun cc => ?_)
                                · have h := ite_n cc h
                                  exact Jj77 x102.2 (cu + 18) (su + 108) ⟨by omega, by omega⟩ H locs ls h hP hD hS (lv_sub hl [3, 2, 1, 0] rfl)
                                · have h := ite_p cc h
                                  refine lv_iconst (v := (1 : Int32)) hx hb dL_refuses_217 (by decide) ?_
                                  refine lv_goto (tgt := 222) hx hb dL_refuses_218 (by decide) ?_
                                  exact Jj11 (1 : Int32) x102.2 (cu + 18) (su + 108) ⟨by omega, by omega⟩ H locs ls h hP hD hS (lv_sub hl [3, 2, 1, 0] rfl)
  exact start 0 0 ⟨by omega, by omega⟩
