set_option maxHeartbeats 8000000 in
set_option maxRecDepth 100000 in
theorem law_body {p : Program} {l : Launch} {e : Env} {s : State} {m : MethodId} {below : List Frame} {meth : Method} {c : Code} {D : va_G} {cy : Nat → ClassId} {tt : Nat → Nat} {b L : Nat} {xs : Nat → Int32} {a : Nat → Nat} {o : Nat} (C : lX p l s m c b L xs D cy tt) (hr : meth.sig.returnType = ret) (hlocks : meth.locks = false) (S : SX11) (c9 : Int32 → Int32) (hc9 : c9 = ceF L xs) (hL9 : L < 2147483648) (rs : Int32) (hrs : rs = 1) (h : DL_law c9 S = some rs) (H : Heap) (locs : List Loc) (ls : Array Slot) (hP : va_P D vwCl (wX11 cy a o S) H) (hD : va_D (fun q : Nat => s.heap.size ≤ q) (wX11 cy a o S)) (hS : va_S (fun q : Nat => s.heap.size ≤ q) s.heap H locs) (hl : lv_has ls 17 [(1, .ref (a o)), (0, .ref b)]) (cu su : Nat) (hcu : cu + (566449) ≤ 600130 ∧ su + 12 * (566449) ≤ 7301080) : W p l e room_1 s m #[Value.ref b] below meth c H locs cu su (lw_Z below #[Value.ref b] s) (F0 m 8 ls []) := by
  obtain ⟨hx, hb, hml, hown, hts, hX, hbl, hl9, hG, hGX, hN⟩ := C
  have hK := hG.1
  have hA : ∀ q : Nat, s.heap.size ≤ q → (fun q : Nat => s.heap.size ≤ q) q := fun _ h => h
  rw [DL_law] at h
  refine lv_aload_n hx hb dL_law_8 rfl (lv_at hl 0 rfl) ?_
  obtain ⟨x1, e2, h⟩ := bd_some h
  refine lcW (Re := []) (S := S) (rs := x1) (c2 := (cu + 39)) (s2 := (su + 468)) hG hGX hN hP hD hS hA (fun h1 h2 => vx_runS (As := [.ref (a o)]) (rest := []) ⟨hx, hb, hml, hown, hts⟩ (qL_refuses l hl9 D cy tt a o S  (H).size x1 e2) (va_cwS 1 hts gL_law_L_refuses rfl rfl rfl (by decide +kernel) ⟨Nat.le_of_ble_eq_true rfl, Nat.le_of_ble_eq_true rfl⟩) ⟨h1, h2⟩ rfl rfl hl.1 rfl (lv_room (Nat.le_of_ble_eq_true rfl)) dL_law_9 ⟨show cu + 39 ≤ 600130 by omega, show su + 468 ≤ 7301080 by omega⟩) rfl rfl (fun H locs hP hD hS => ?_)
  obtain ⟨j4, hj4, h⟩ := jn_elim h
  have Jj4 : ∀ (S_3 : SX11) (cu su : Nat) (hcu : cu + (0) ≤ 600130 ∧ su + 12 * (0) ≤ 7301080) (H : Heap) (locs : List Loc) (ls : Array Slot), j4 S_3 = some rs → va_P D vwCl (wX11 cy a o S_3) H → va_D (fun q : Nat => s.heap.size ≤ q) (wX11 cy a o S_3) → va_S (fun q : Nat => s.heap.size ≤ q) s.heap H locs → lv_has ls 17 [] → W p l e room_1 s m #[Value.ref b] below meth c H locs cu su (lw_Z below #[Value.ref b] s) (F0 m 50 ls []) := by
    intro S_3 cu su hcu H locs ls h hP hD hS hl
    rw [hj4] at h
    refine lv_iconst (v := (0 : Int32)) hx hb dL_law_50 (by decide) ?_
    have hv : (0 : Int32) = 1 := (some_in h).trans hrs
    rw [hv]
    refine va_forget (fun q hq => hS.2.2 q hq) ?_
    refine W.widen (k := 600130) (n := 7301080) (by omega) (by omega) ?_
    exact lw_ret hx hb hr hlocks dL_law_51
  refine lv_if_eq (tgt := 50) hx hb dL_law_12 (by decide) (fun cc => ?_) (fun cc => ?_)
  · have h := ite_p cc h
    exact Jj4 x1.2 (cu + 39) (su + 468) ⟨by omega, by omega⟩ H locs ls h hP hD hS (lv_sub hl [] rfl)
  · have h := ite_n cc h
    refine lv_aload_n hx hb dL_law_15 rfl (lv_at hl 0 rfl) ?_
    obtain ⟨x5, e6, h⟩ := bd_some h
    refine lcW (Re := []) (S := x1.2) (rs := x5) (c2 := (cu + 40)) (s2 := (su + 474)) hG hGX hN hP hD hS hA (fun h1 h2 => vx_runSX (As := [.ref (a o)]) (rest := []) ⟨hx, hb, hml, hown, hts⟩ (qL_undo l hl9 D cy tt a o x1.2  (H).size x5 e6) (vx_cwSW 1 hts gL_law_L_undo rfl rfl rfl (by decide +kernel) ⟨Nat.le_of_ble_eq_true rfl, Nat.le_of_ble_eq_true rfl⟩) ⟨h1, h2⟩ rfl rfl hl.1 rfl (lv_room (Nat.le_of_ble_eq_true rfl)) dL_law_16 ⟨show (cu + 39) + 1 ≤ 600130 by omega, show (su + 468) + 6 ≤ 7301080 by omega⟩) rfl rfl (fun H locs hP hD hS => ?_)
    refine lv_sipush (v := (-902 : Int32)) hx hb dL_law_19 (by decide) ?_
    refine lv_icmp_ne (tgt := 50) hx hb dL_law_22 (by decide) (fun cc => ?_) (fun cc => ?_)
    · have h := ite_n cc h
      exact Jj4 x5.2 (cu + 40) (su + 474) ⟨by omega, by omega⟩ H locs ls h hP hD hS (lv_sub hl [] rfl)
    · have h := ite_p cc h
      refine lv_aload_n hx hb dL_law_25 rfl (lv_at hl 0 rfl) ?_
      obtain ⟨x7, e8, h⟩ := bd_some h
      refine lcW (Re := []) (S := x5.2) (rs := (x7, x5.2)) (c2 := (cu + 714)) (s2 := (su + 8562)) hG hGX hN hP hD hS hA (fun h1 h2 => vx_runS (As := [.ref (a o)]) (rest := []) ⟨hx, hb, hml, hown, hts⟩ (qL_sound l hl9 D cy tt a o x5.2  (H).size x7 e8) (va_cwS 1 hts gL_law_L_sound rfl rfl rfl (by decide +kernel) ⟨Nat.le_of_ble_eq_true rfl, Nat.le_of_ble_eq_true rfl⟩) ⟨h1, h2⟩ rfl rfl hl.1 rfl (lv_room (Nat.le_of_ble_eq_true rfl)) dL_law_26 ⟨show (cu + 40) + 674 ≤ 600130 by omega, show (su + 474) + 8088 ≤ 7301080 by omega⟩) rfl rfl (fun H locs hP hD hS => ?_)
      refine lv_if_eq (tgt := 50) hx hb dL_law_29 (by decide) (fun cc => ?_) (fun cc => ?_)
      · have h := ite_p cc h
        exact Jj4 x5.2 (cu + 714) (su + 8562) ⟨by omega, by omega⟩ H locs ls h hP hD hS (lv_sub hl [] rfl)
      · have h := ite_n cc h
        refine lv_aload_n hx hb dL_law_32 rfl (lv_at hl 0 rfl) ?_
        obtain ⟨x9, e10, h⟩ := bd_some h
        refine lcW (Re := []) (S := x5.2) (rs := x9) (c2 := (cu + 715)) (s2 := (su + 8568)) hG hGX hN hP hD hS hA (fun h1 h2 => vx_runSX (As := [.ref (a o)]) (rest := []) ⟨hx, hb, hml, hown, hts⟩ (qL_close l hl9 D cy tt a o x5.2  (H).size x9 e10) (vx_cwSW 1 hts gL_law_L_close rfl rfl rfl (by decide +kernel) ⟨Nat.le_of_ble_eq_true rfl, Nat.le_of_ble_eq_true rfl⟩) ⟨h1, h2⟩ rfl rfl hl.1 rfl (lv_room (Nat.le_of_ble_eq_true rfl)) dL_law_33 ⟨show (cu + 714) + 1 ≤ 600130 by omega, show (su + 8562) + 6 ≤ 7301080 by omega⟩) rfl rfl (fun H locs hP hD hS => ?_)
        refine lv_sipush (v := (-902 : Int32)) hx hb dL_law_36 (by decide) ?_
        refine lv_icmp_ne (tgt := 50) hx hb dL_law_39 (by decide) (fun cc => ?_) (fun cc => ?_)
        · have h := ite_n cc h
          exact Jj4 x9.2 (cu + 715) (su + 8568) ⟨by omega, by omega⟩ H locs ls h hP hD hS (lv_sub hl [] rfl)
        · have h := ite_p cc h
          refine lv_aload_n hx hb dL_law_42 rfl (lv_at hl 0 rfl) ?_
          obtain ⟨x11, e12, h⟩ := bd_some h
          refine pcV (As := []) (rest := []) (q0 := 0) (ci := 11) (qX11_strangestJuror l D cy a o (gX11_now x9.2)  x11 e12) ⟨hx, hb, hml, hown, hts⟩ (cwV 0 hts gL_law_X11_strangestJuror rfl rfl rfl (by decide +kernel) ⟨Nat.le_of_ble_eq_true rfl, Nat.le_of_ble_eq_true rfl⟩) hG (P_now (cutP hP (pmA [] (wX11 cy a o x9.2)))) rfl rfl rfl hl.1 rfl (Nat.le_of_ble_eq_true rfl) dL_law_43 ⟨show (cu + 715) ≤ 600130 by omega, show (su + 8568) ≤ 7301080 by omega⟩ ?_
          refine lv_iconst (v := (-1 : Int32)) hx hb dL_law_46 (by decide) ?_
          refine lv_icmp_eq (tgt := 52) hx hb dL_law_47 (by decide) (fun cc => ?_) (fun cc => ?_)
          · have h := ite_p cc h
            refine lv_aload_n hx hb dL_law_52 rfl (lv_at hl 1 rfl) ?_
            refine lv_iconst (v := (0 : Int32)) hx hb dL_law_53 (by decide) ?_
            obtain ⟨g15, h⟩ := gd_some h
            refine pcC (As := [.ref b, .int (0 : Int32)]) (rest := []) (qL_cl l b L xs hL9 c9 hc9 (0 : Int32) (of_decide_eq_true g15)) ⟨hx, hb, hml, hown, hts⟩ (va_cwS 2 hts gL_law_L_cell rfl rfl rfl (by decide +kernel) ⟨Nat.le_of_ble_eq_true rfl, Nat.le_of_ble_eq_true rfl⟩) hX hbl hS rfl hl.1 rfl (Nat.le_of_ble_eq_true rfl) dL_law_54 ⟨show (cu + 715) ≤ 600130 by omega, show (su + 8568) ≤ 7301080 by omega⟩ ?_
            refine lv_istore_n (lv' := [(2, .int (c9 (0 : Int32))), (1, .ref (a o)), (0, .ref b)]) hx hb dL_law_57 rfl hl (by decide) rfl (fun ls hl => ?_)
            refine lv_iconst (v := (4 : Int32)) hx hb dL_law_58 (by decide) ?_
            refine lv_iload_n hx hb dL_law_59 rfl (lv_at hl 0 rfl) ?_
            refine lv_bipush (v := (6 : Int32)) hx hb dL_law_60 (by decide) ?_
            obtain ⟨x16, e17, h⟩ := bd_some h
            refine pcS (As := [.int (c9 (0 : Int32)), .int (6 : Int32)]) (rest := [.int (4 : Int32)]) (qL_low l D cy  (c9 (0 : Int32)) (6 : Int32) x16 e17) ⟨hx, hb, hml, hown, hts⟩ (va_cwS 2 hts gL_law_L_low rfl rfl rfl (by decide +kernel) ⟨Nat.le_of_ble_eq_true rfl, Nat.le_of_ble_eq_true rfl⟩) hG (hP.sub [] rfl) rfl hl.1 rfl (Nat.le_of_ble_eq_true rfl) dL_law_62 ⟨show (cu + 715) ≤ 600130 by omega, show (su + 8568) ≤ 7301080 by omega⟩ ?_
            refine lv_iadd hx hb dL_law_65 ?_
            refine lv_istore_n (lv' := [(3, .int ((4 : Int32) + x16)), (2, .int (c9 (0 : Int32))), (1, .ref (a o)), (0, .ref b)]) hx hb dL_law_66 rfl hl (by decide) rfl (fun ls hl => ?_)
            refine lv_iconst (v := (0 : Int32)) hx hb dL_law_67 (by decide) ?_
            refine lv_istore (lv' := [(4, .int (0 : Int32)), (3, .int ((4 : Int32) + x16)), (2, .int (c9 (0 : Int32))), (1, .ref (a o)), (0, .ref b)]) hx hb dL_law_68 hl (by decide) rfl (fun ls hl => ?_)
            obtain ⟨j19, hj19, h⟩ := jn_elim h
            have Jj19 : ∀ (S_18 : SX11) (cu su : Nat) (hcu : cu + (0) ≤ 600130 ∧ su + 12 * (0) ≤ 7301080) (H : Heap) (locs : List Loc) (ls : Array Slot), j19 S_18 = some rs → va_P D vwCl (wX11 cy a o S_18) H → va_D (fun q : Nat => s.heap.size ≤ q) (wX11 cy a o S_18) → va_S (fun q : Nat => s.heap.size ≤ q) s.heap H locs → lv_has ls 17 [] → W p l e room_1 s m #[Value.ref b] below meth c H locs cu su (lw_Z below #[Value.ref b] s) (F0 m 148 ls []) := by
              intro S_18 cu su hcu H locs ls h hP hD hS hl
              rw [hj19] at h
              refine lv_iconst (v := (0 : Int32)) hx hb dL_law_148 (by decide) ?_
              have hv : (0 : Int32) = 1 := (some_in h).trans hrs
              rw [hv]
              refine va_forget (fun q hq => hS.2.2 q hq) ?_
              refine W.widen (k := 600130) (n := 7301080) (by omega) (by omega) ?_
              exact lw_ret hx hb hr hlocks dL_law_149
            have L388 : ∀ (c2_20 : Int32) (c3_21 : Int32) (k23 : SX11 → Option (Int32)) (hk23 : ∀ (S_24 : SX11) (cu su : Nat) (hcu : cu + (0) ≤ 600130 ∧ su + 12 * (0) ≤ 7301080) (H : Heap) (locs : List Loc) (ls : Array Slot), k23 S_24 = some rs → va_P D vwCl (wX11 cy a o S_24) H → va_D (fun q : Nat => s.heap.size ≤ q) (wX11 cy a o S_24) → va_S (fun q : Nat => s.heap.size ≤ q) s.heap H locs → lv_has ls 17 [] → W p l e room_1 s m #[Value.ref b] below meth c H locs cu su (lw_Z below #[Value.ref b] s) (F0 m 148 ls [])) (k25 : SX11 → Option (Int32)) (hk25 : ∀ (S_26 : SX11) (cu su : Nat) (hcu : cu + (565714) ≤ 600130 ∧ su + 12 * (565714) ≤ 7301080) (H : Heap) (locs : List Loc) (ls : Array Slot), k25 S_26 = some rs → va_P D vwCl (wX11 cy a o S_26) H → va_D (fun q : Nat => s.heap.size ≤ q) (wX11 cy a o S_26) → va_S (fun q : Nat => s.heap.size ≤ q) s.heap H locs → lv_has ls 17 [(0, .ref b), (1, .ref (a o)), (2, .int c2_20), (3, .int c3_21)] → W p l e room_1 s m #[Value.ref b] below meth c H locs cu su (lw_Z below #[Value.ref b] s) (F0 m 156 ls [])) (f70 : Nat) (v4_372 : Int32) (S_22 : SX11) (cu su : Nat) (hcu : cu + (f70 * 2 + 565714) ≤ 600130 ∧ su + 12 * (f70 * 2 + 565714) ≤ 7301080) (H : Heap) (locs : List Loc) (ls : Array Slot), DL_law_L70 c9 c2_20 c3_21 k23 k25 f70 v4_372 S_22 = some rs → va_P D vwCl (wX11 cy a o S_22) H → va_D (fun q : Nat => s.heap.size ≤ q) (wX11 cy a o S_22) → va_S (fun q : Nat => s.heap.size ≤ q) s.heap H locs → lv_has ls 17 [(0, .ref b), (1, .ref (a o)), (2, .int c2_20), (3, .int c3_21), (4, .int v4_372)] → W p l e room_1 s m #[Value.ref b] below meth c H locs cu su (lw_Z below #[Value.ref b] s) (F0 m 70 ls []) := by
              intro c2_20 c3_21 k23 hk23 k25 hk25 f70
              induction f70 with
              | zero =>
                intro v4_372 S_22 cu su hcu H locs ls h hP hD hS hl
                rw [DL_law_L70] at h
                cases h
              | succ f70 ih70 =>
                intro v4_372 S_22 cu su hcu H locs ls h hP hD hS hl
                rw [DL_law_L70] at h
                refine lv_iload hx hb dL_law_70 (lv_at hl 4 rfl) ?_
                refine lv_iload_n hx hb dL_law_72 rfl (lv_at hl 3 rfl) ?_
                refine lv_icmp_ge (tgt := 156) hx hb dL_law_73 (by decide) (fun cc => ?_) (fun cc => ?_)
                · have h := ite_p cc h
                  exact hk25 S_22 cu su ⟨by omega, by omega⟩ H locs ls h hP hD hS (lv_sub hl [0, 1, 2, 3] rfl)
                · have h := ite_n cc h
                  refine lv_aload_n hx hb dL_law_76 rfl (lv_at hl 0 rfl) ?_
                  refine lv_iconst (v := (1 : Int32)) hx hb dL_law_77 (by decide) ?_
                  refine lv_iload hx hb dL_law_78 (lv_at hl 4 rfl) ?_
                  refine lv_iconst (v := (4 : Int32)) hx hb dL_law_80 (by decide) ?_
                  refine lv_irem hx hb dL_law_81 (by decide) ?_
                  refine lv_iadd hx hb dL_law_82 ?_
                  obtain ⟨g375, h⟩ := gd_some h
                  refine pcC (As := [.ref b, .int ((1 : Int32) + (v4_372 - v4_372 / (4 : Int32) * (4 : Int32)))]) (rest := []) (qL_cl l b L xs hL9 c9 hc9 ((1 : Int32) + (v4_372 - v4_372 / (4 : Int32) * (4 : Int32))) (of_decide_eq_true g375)) ⟨hx, hb, hml, hown, hts⟩ (va_cwS 2 hts gL_law_L_cell rfl rfl rfl (by decide +kernel) ⟨Nat.le_of_ble_eq_true rfl, Nat.le_of_ble_eq_true rfl⟩) hX hbl hS rfl hl.1 rfl (Nat.le_of_ble_eq_true rfl) dL_law_83 ⟨show cu ≤ 600130 by omega, show su ≤ 7301080 by omega⟩ ?_
                  refine lv_iconst (v := (2 : Int32)) hx hb dL_law_86 (by decide) ?_
                  refine lv_iload hx hb dL_law_87 (lv_at hl 4 rfl) ?_
                  refine lv_imul hx hb dL_law_89 ?_
                  refine lv_ishr hx hb dL_law_90 ?_
                  refine lv_istore (lv' := [(5, .int ((c9 ((1 : Int32) + (v4_372 - v4_372 / (4 : Int32) * (4 : Int32)))) >>> (((2 : Int32) * v4_372) &&& 31))), (0, .ref b), (1, .ref (a o)), (2, .int c2_20), (3, .int c3_21), (4, .int v4_372)]) hx hb dL_law_91 hl (by decide) rfl (fun ls hl => ?_)
                  refine lv_aload_n hx hb dL_law_93 rfl (lv_at hl 2 rfl) ?_
                  refine lv_iload hx hb dL_law_94 (lv_at hl 0 rfl) ?_
                  refine lv_iconst (v := (5 : Int32)) hx hb dL_law_96 (by decide) ?_
                  obtain ⟨x376, e377, h⟩ := bd_some h
                  refine pcS (As := [.int ((c9 ((1 : Int32) + (v4_372 - v4_372 / (4 : Int32) * (4 : Int32)))) >>> (((2 : Int32) * v4_372) &&& 31)), .int (5 : Int32)]) (rest := [.ref (a o)]) (qL_low l D cy  ((c9 ((1 : Int32) + (v4_372 - v4_372 / (4 : Int32) * (4 : Int32)))) >>> (((2 : Int32) * v4_372) &&& 31)) (5 : Int32) x376 e377) ⟨hx, hb, hml, hown, hts⟩ (va_cwS 2 hts gL_law_L_low rfl rfl rfl (by decide +kernel) ⟨Nat.le_of_ble_eq_true rfl, Nat.le_of_ble_eq_true rfl⟩) hG (hP.sub [] rfl) rfl hl.1 rfl (Nat.le_of_ble_eq_true rfl) dL_law_97 ⟨show cu ≤ 600130 by omega, show su ≤ 7301080 by omega⟩ ?_
                  refine lv_iload hx hb dL_law_100 (lv_at hl 0 rfl) ?_
                  refine lv_iconst (v := (3 : Int32)) hx hb dL_law_102 (by decide) ?_
                  refine lv_ishr hx hb dL_law_103 ?_
                  refine lv_iconst (v := (3 : Int32)) hx hb dL_law_104 (by decide) ?_
                  obtain ⟨x378, e379, h⟩ := bd_some h
                  refine pcS (As := [.int (((c9 ((1 : Int32) + (v4_372 - v4_372 / (4 : Int32) * (4 : Int32)))) >>> (((2 : Int32) * v4_372) &&& 31)) >>> ((3 : Int32) &&& 31)), .int (3 : Int32)]) (rest := [.int x376, .ref (a o)]) (qL_low l D cy  (((c9 ((1 : Int32) + (v4_372 - v4_372 / (4 : Int32) * (4 : Int32)))) >>> (((2 : Int32) * v4_372) &&& 31)) >>> ((3 : Int32) &&& 31)) (3 : Int32) x378 e379) ⟨hx, hb, hml, hown, hts⟩ (va_cwS 2 hts gL_law_L_low rfl rfl rfl (by decide +kernel) ⟨Nat.le_of_ble_eq_true rfl, Nat.le_of_ble_eq_true rfl⟩) hG (hP.sub [] rfl) rfl hl.1 rfl (Nat.le_of_ble_eq_true rfl) dL_law_105 ⟨show cu ≤ 600130 by omega, show su ≤ 7301080 by omega⟩ ?_
                  refine lv_iconst (v := (5 : Int32)) hx hb dL_law_108 (by decide) ?_
                  refine lv_iload hx hb dL_law_109 (lv_at hl 0 rfl) ?_
                  refine lv_iconst (v := (5 : Int32)) hx hb dL_law_111 (by decide) ?_
                  refine lv_ishr hx hb dL_law_112 ?_
                  refine lv_bipush (v := (30 : Int32)) hx hb dL_law_113 (by decide) ?_
                  obtain ⟨x380, e381, h⟩ := bd_some h
                  refine pcS (As := [.int (((c9 ((1 : Int32) + (v4_372 - v4_372 / (4 : Int32) * (4 : Int32)))) >>> (((2 : Int32) * v4_372) &&& 31)) >>> ((5 : Int32) &&& 31)), .int (30 : Int32)]) (rest := [.int (5 : Int32), .int x378, .int x376, .ref (a o)]) (qL_low l D cy  (((c9 ((1 : Int32) + (v4_372 - v4_372 / (4 : Int32) * (4 : Int32)))) >>> (((2 : Int32) * v4_372) &&& 31)) >>> ((5 : Int32) &&& 31)) (30 : Int32) x380 e381) ⟨hx, hb, hml, hown, hts⟩ (va_cwS 2 hts gL_law_L_low rfl rfl rfl (by decide +kernel) ⟨Nat.le_of_ble_eq_true rfl, Nat.le_of_ble_eq_true rfl⟩) hG (hP.sub [] rfl) rfl hl.1 rfl (Nat.le_of_ble_eq_true rfl) dL_law_115 ⟨show cu ≤ 600130 by omega, show su ≤ 7301080 by omega⟩ ?_
                  refine lv_iadd hx hb dL_law_118 ?_
                  obtain ⟨x382, e383, h⟩ := bd_some h
                  refine lcW (Re := []) (S := S_22) (rs := x382) (c2 := (cu + 1)) (s2 := (su + 6)) hG hGX hN hP hD hS hA (fun h1 h2 => vx_runSX (As := [.ref (a o), .int x376, .int x378, .int ((5 : Int32) + x380)]) (rest := []) ⟨hx, hb, hml, hown, hts⟩ (qL_addWork l hl9 D cy tt a o S_22 x376 x378 ((5 : Int32) + x380) (H).size x382 e383) (vx_cwSW 4 hts gL_law_L_addWork rfl rfl rfl (by decide +kernel) ⟨Nat.le_of_ble_eq_true rfl, Nat.le_of_ble_eq_true rfl⟩) ⟨h1, h2⟩ rfl rfl hl.1 rfl (lv_room (Nat.le_of_ble_eq_true rfl)) dL_law_119 ⟨show cu + 1 ≤ 600130 by omega, show su + 6 ≤ 7301080 by omega⟩) rfl rfl (fun H locs hP hD hS => ?_)
                  refine lv_iload hx hb dL_law_122 (lv_at hl 5 rfl) ?_
                  refine lv_icmp_ne (tgt := 148) hx hb dL_law_124 (by decide) (fun cc => ?_) (fun cc => ?_)
                  · have h := ite_n cc h
                    exact hk23 x382.2 (cu + 1) (su + 6) ⟨by omega, by omega⟩ H locs ls h hP hD hS (lv_sub hl [] rfl)
                  · have h := ite_p cc h
                    refine lv_aload_n hx hb dL_law_127 rfl (lv_at hl 2 rfl) ?_
                    refine lv_iload hx hb dL_law_128 (lv_at hl 5 rfl) ?_
                    refine lv_iconst (v := (2 : Int32)) hx hb dL_law_130 (by decide) ?_
                    obtain ⟨x384, e385, h⟩ := bd_some h
                    refine lcW (Re := []) (S := x382.2) (rs := (x384, x382.2)) (c2 := (cu + 2)) (s2 := (su + 12)) hG hGX hN hP hD hS hA (fun h1 h2 => vx_runSX (As := [.ref (a o), .int v4_372, .int (2 : Int32)]) (rest := []) ⟨hx, hb, hml, hown, hts⟩ (qL_work l hl9 D cy tt a o x382.2 v4_372 (2 : Int32) (H).size x384 e385) (vx_cwSW 3 hts gL_law_L_work rfl rfl rfl (by decide +kernel) ⟨Nat.le_of_ble_eq_true rfl, Nat.le_of_ble_eq_true rfl⟩) ⟨h1, h2⟩ rfl rfl hl.1 rfl (lv_room (Nat.le_of_ble_eq_true rfl)) dL_law_131 ⟨show (cu + 1) + 1 ≤ 600130 by omega, show (su + 6) + 6 ≤ 7301080 by omega⟩) rfl rfl (fun H locs hP hD hS => ?_)
                    refine lv_iconst (v := (5 : Int32)) hx hb dL_law_134 (by decide) ?_
                    refine lv_iload hx hb dL_law_135 (lv_at hl 0 rfl) ?_
                    refine lv_iconst (v := (5 : Int32)) hx hb dL_law_137 (by decide) ?_
                    refine lv_ishr hx hb dL_law_138 ?_
                    refine lv_bipush (v := (30 : Int32)) hx hb dL_law_139 (by decide) ?_
                    obtain ⟨x386, e387, h⟩ := bd_some h
                    refine pcS (As := [.int (((c9 ((1 : Int32) + (v4_372 - v4_372 / (4 : Int32) * (4 : Int32)))) >>> (((2 : Int32) * v4_372) &&& 31)) >>> ((5 : Int32) &&& 31)), .int (30 : Int32)]) (rest := [.int (5 : Int32), .int x384]) (qL_low l D cy  (((c9 ((1 : Int32) + (v4_372 - v4_372 / (4 : Int32) * (4 : Int32)))) >>> (((2 : Int32) * v4_372) &&& 31)) >>> ((5 : Int32) &&& 31)) (30 : Int32) x386 e387) ⟨hx, hb, hml, hown, hts⟩ (va_cwS 2 hts gL_law_L_low rfl rfl rfl (by decide +kernel) ⟨Nat.le_of_ble_eq_true rfl, Nat.le_of_ble_eq_true rfl⟩) hG (hP.sub [] rfl) rfl hl.1 rfl (Nat.le_of_ble_eq_true rfl) dL_law_141 ⟨show (cu + 2) ≤ 600130 by omega, show (su + 12) ≤ 7301080 by omega⟩ ?_
                    refine lv_iadd hx hb dL_law_144 ?_
                    refine lv_icmp_eq (tgt := 150) hx hb dL_law_145 (by decide) (fun cc => ?_) (fun cc => ?_)
                    · have h := ite_p cc h
                      refine lv_iinc (v := (v4_372 + (1 : Int32))) (lv' := [(4, .int (v4_372 + (1 : Int32))), (5, .int ((c9 ((1 : Int32) + (v4_372 - v4_372 / (4 : Int32) * (4 : Int32)))) >>> (((2 : Int32) * v4_372) &&& 31))), (0, .ref b), (1, .ref (a o)), (2, .int c2_20), (3, .int c3_21)]) hx hb dL_law_150 hl (k := 5) rfl (by rfl) (by decide) rfl (fun ls hl => ?_)
                      refine lv_goto (tgt := 70) hx hb dL_law_153 (by decide) ?_
                      exact ih70 (v4_372 + (1 : Int32)) x382.2 (cu + 2) (su + 12) ⟨by omega, by omega⟩ H locs ls h hP hD hS (lv_sub hl [2, 3, 4, 5, 0] rfl)
                    · have h := ite_n cc h
                      exact hk23 x382.2 (cu + 2) (su + 12) ⟨by omega, by omega⟩ H locs ls h hP hD hS (lv_sub hl [] rfl)
            refine L388 (c9 (0 : Int32)) ((4 : Int32) + x16) _ Jj19 _ ?_ 10 (0 : Int32) x9.2 (cu + 715) (su + 8568) ⟨by omega, by omega⟩ H locs ls h hP hD hS (lv_sub hl [4, 3, 2, 1, 0] rfl)
            intro S_27 cu su hcu H locs ls h hP hD hS hl
            refine lv_iconst (v := (2 : Int32)) hx hb dL_law_156 (by decide) ?_
            refine lv_iload_n hx hb dL_law_157 rfl (lv_at hl 2 rfl) ?_
            refine lv_iconst (v := (3 : Int32)) hx hb dL_law_158 (by decide) ?_
            refine lv_ishr hx hb dL_law_159 ?_
            refine lv_bipush (v := (9 : Int32)) hx hb dL_law_160 (by decide) ?_
            obtain ⟨x28, e29, h⟩ := bd_some h
            refine pcS (As := [.int ((c9 (0 : Int32)) >>> ((3 : Int32) &&& 31)), .int (9 : Int32)]) (rest := [.int (2 : Int32)]) (qL_low l D cy  ((c9 (0 : Int32)) >>> ((3 : Int32) &&& 31)) (9 : Int32) x28 e29) ⟨hx, hb, hml, hown, hts⟩ (va_cwS 2 hts gL_law_L_low rfl rfl rfl (by decide +kernel) ⟨Nat.le_of_ble_eq_true rfl, Nat.le_of_ble_eq_true rfl⟩) hG (hP.sub [] rfl) rfl hl.1 rfl (Nat.le_of_ble_eq_true rfl) dL_law_162 ⟨show cu ≤ 600130 by omega, show su ≤ 7301080 by omega⟩ ?_
            refine lv_iadd hx hb dL_law_165 ?_
            refine lv_istore (lv' := [(4, .int ((2 : Int32) + x28)), (0, .ref b), (1, .ref (a o)), (2, .int (c9 (0 : Int32))), (3, .int ((4 : Int32) + x16))]) hx hb dL_law_166 hl (by decide) rfl (fun ls hl => ?_)
            refine lv_iconst (v := (0 : Int32)) hx hb dL_law_168 (by decide) ?_
            refine lv_istore (lv' := [(5, .int (0 : Int32)), (4, .int ((2 : Int32) + x28)), (0, .ref b), (1, .ref (a o)), (2, .int (c9 (0 : Int32))), (3, .int ((4 : Int32) + x16))]) hx hb dL_law_169 hl (by decide) rfl (fun ls hl => ?_)
            obtain ⟨j31, hj31, h⟩ := jn_elim h
            have Jj31 : ∀ (S_30 : SX11) (cu su : Nat) (hcu : cu + (0) ≤ 600130 ∧ su + 12 * (0) ≤ 7301080) (H : Heap) (locs : List Loc) (ls : Array Slot), j31 S_30 = some rs → va_P D vwCl (wX11 cy a o S_30) H → va_D (fun q : Nat => s.heap.size ≤ q) (wX11 cy a o S_30) → va_S (fun q : Nat => s.heap.size ≤ q) s.heap H locs → lv_has ls 17 [] → W p l e room_1 s m #[Value.ref b] below meth c H locs cu su (lw_Z below #[Value.ref b] s) (F0 m 198 ls []) := by
              intro S_30 cu su hcu H locs ls h hP hD hS hl
              rw [hj31] at h
              refine lv_iconst (v := (0 : Int32)) hx hb dL_law_198 (by decide) ?_
              have hv : (0 : Int32) = 1 := (some_in h).trans hrs
              rw [hv]
              refine va_forget (fun q hq => hS.2.2 q hq) ?_
              refine W.widen (k := 600130) (n := 7301080) (by omega) (by omega) ?_
              exact lw_ret hx hb hr hlocks dL_law_199
            have L371 : ∀ (c2_32 : Int32) (c3_33 : Int32) (c4_34 : Int32) (k36 : SX11 → Option (Int32)) (hk36 : ∀ (S_37 : SX11) (cu su : Nat) (hcu : cu + (0) ≤ 600130 ∧ su + 12 * (0) ≤ 7301080) (H : Heap) (locs : List Loc) (ls : Array Slot), k36 S_37 = some rs → va_P D vwCl (wX11 cy a o S_37) H → va_D (fun q : Nat => s.heap.size ≤ q) (wX11 cy a o S_37) → va_S (fun q : Nat => s.heap.size ≤ q) s.heap H locs → lv_has ls 17 [] → W p l e room_1 s m #[Value.ref b] below meth c H locs cu su (lw_Z below #[Value.ref b] s) (F0 m 198 ls [])) (k38 : SX11 → Option (Int32)) (hk38 : ∀ (S_39 : SX11) (cu su : Nat) (hcu : cu + (565692) ≤ 600130 ∧ su + 12 * (565692) ≤ 7301080) (H : Heap) (locs : List Loc) (ls : Array Slot), k38 S_39 = some rs → va_P D vwCl (wX11 cy a o S_39) H → va_D (fun q : Nat => s.heap.size ≤ q) (wX11 cy a o S_39) → va_S (fun q : Nat => s.heap.size ≤ q) s.heap H locs → lv_has ls 17 [(0, .ref b), (1, .ref (a o)), (2, .int c2_32), (3, .int c3_33), (4, .int c4_34)] → W p l e room_1 s m #[Value.ref b] below meth c H locs cu su (lw_Z below #[Value.ref b] s) (F0 m 206 ls [])) (f171 : Nat) (v5_366 : Int32) (S_35 : SX11) (cu su : Nat) (hcu : cu + (f171 * 2 + 565692) ≤ 600130 ∧ su + 12 * (f171 * 2 + 565692) ≤ 7301080) (H : Heap) (locs : List Loc) (ls : Array Slot), DL_law_L171 c9 c2_32 c3_33 c4_34 k36 k38 f171 v5_366 S_35 = some rs → va_P D vwCl (wX11 cy a o S_35) H → va_D (fun q : Nat => s.heap.size ≤ q) (wX11 cy a o S_35) → va_S (fun q : Nat => s.heap.size ≤ q) s.heap H locs → lv_has ls 17 [(0, .ref b), (1, .ref (a o)), (2, .int c2_32), (3, .int c3_33), (4, .int c4_34), (5, .int v5_366)] → W p l e room_1 s m #[Value.ref b] below meth c H locs cu su (lw_Z below #[Value.ref b] s) (F0 m 171 ls []) := by
              intro c2_32 c3_33 c4_34 k36 hk36 k38 hk38 f171
              induction f171 with
              | zero =>
                intro v5_366 S_35 cu su hcu H locs ls h hP hD hS hl
                rw [DL_law_L171] at h
                cases h
              | succ f171 ih171 =>
                intro v5_366 S_35 cu su hcu H locs ls h hP hD hS hl
                rw [DL_law_L171] at h
                refine lv_iload hx hb dL_law_171 (lv_at hl 5 rfl) ?_
                refine lv_iload hx hb dL_law_173 (lv_at hl 4 rfl) ?_
                refine lv_icmp_ge (tgt := 206) hx hb dL_law_175 (by decide) (fun cc => ?_) (fun cc => ?_)
                · have h := ite_p cc h
                  exact hk38 S_35 cu su ⟨by omega, by omega⟩ H locs ls h hP hD hS (lv_sub hl [0, 1, 2, 3, 4] rfl)
                · have h := ite_n cc h
                  refine lv_aload_n hx hb dL_law_178 rfl (lv_at hl 1 rfl) ?_
                  obtain ⟨x367, e368, h⟩ := bd_some h
                  refine lcW (Re := []) (S := S_35) (rs := x367) (c2 := (cu + 1)) (s2 := (su + 6)) hG hGX hN hP hD hS hA (fun h1 h2 => vx_runSX (As := [.ref (a o)]) (rest := []) ⟨hx, hb, hml, hown, hts⟩ (qL_addEntrant l hl9 D cy tt a o S_35  (H).size x367 e368) (vx_cwSW 1 hts gL_law_L_addEntrant rfl rfl rfl (by decide +kernel) ⟨Nat.le_of_ble_eq_true rfl, Nat.le_of_ble_eq_true rfl⟩) ⟨h1, h2⟩ rfl rfl hl.1 rfl (lv_room (Nat.le_of_ble_eq_true rfl)) dL_law_179 ⟨show cu + 1 ≤ 600130 by omega, show su + 6 ≤ 7301080 by omega⟩) rfl rfl (fun H locs hP hD hS => ?_)
                  refine lv_iload hx hb dL_law_182 (lv_at hl 5 rfl) ?_
                  refine lv_icmp_ne (tgt := 198) hx hb dL_law_184 (by decide) (fun cc => ?_) (fun cc => ?_)
                  · have h := ite_n cc h
                    exact hk36 x367.2 (cu + 1) (su + 6) ⟨by omega, by omega⟩ H locs ls h hP hD hS (lv_sub hl [] rfl)
                  · have h := ite_p cc h
                    refine lv_aload_n hx hb dL_law_187 rfl (lv_at hl 1 rfl) ?_
                    refine lv_iload hx hb dL_law_188 (lv_at hl 5 rfl) ?_
                    refine lv_iconst (v := (0 : Int32)) hx hb dL_law_190 (by decide) ?_
                    obtain ⟨x369, e370, h⟩ := bd_some h
                    refine lcW (Re := []) (S := x367.2) (rs := (x369, x367.2)) (c2 := (cu + 2)) (s2 := (su + 12)) hG hGX hN hP hD hS hA (fun h1 h2 => vx_runSX (As := [.ref (a o), .int v5_366, .int (0 : Int32)]) (rest := []) ⟨hx, hb, hml, hown, hts⟩ (qL_entrant l hl9 D cy tt a o x367.2 v5_366 (0 : Int32) (H).size x369 e370) (vx_cwSW 3 hts gL_law_L_entrant rfl rfl rfl (by decide +kernel) ⟨Nat.le_of_ble_eq_true rfl, Nat.le_of_ble_eq_true rfl⟩) ⟨h1, h2⟩ rfl rfl hl.1 rfl (lv_room (Nat.le_of_ble_eq_true rfl)) dL_law_191 ⟨show (cu + 1) + 1 ≤ 600130 by omega, show (su + 6) + 6 ≤ 7301080 by omega⟩) rfl rfl (fun H locs hP hD hS => ?_)
                    refine lv_iconst (v := (1 : Int32)) hx hb dL_law_194 (by decide) ?_
                    refine lv_icmp_eq (tgt := 200) hx hb dL_law_195 (by decide) (fun cc => ?_) (fun cc => ?_)
                    · have h := ite_p cc h
                      refine lv_iinc (v := (v5_366 + (1 : Int32))) (lv' := [(5, .int (v5_366 + (1 : Int32))), (0, .ref b), (1, .ref (a o)), (2, .int c2_32), (3, .int c3_33), (4, .int c4_34)]) hx hb dL_law_200 hl (k := 5) rfl (by rfl) (by decide) rfl (fun ls hl => ?_)
                      refine lv_goto (tgt := 171) hx hb dL_law_203 (by decide) ?_
                      exact ih171 (v5_366 + (1 : Int32)) x367.2 (cu + 2) (su + 12) ⟨by omega, by omega⟩ H locs ls h hP hD hS (lv_sub hl [1, 2, 3, 4, 5, 0] rfl)
                    · have h := ite_n cc h
                      exact hk36 x367.2 (cu + 2) (su + 12) ⟨by omega, by omega⟩ H locs ls h hP hD hS (lv_sub hl [] rfl)
            refine L371 (c9 (0 : Int32)) ((4 : Int32) + x16) ((2 : Int32) + x28) _ Jj31 _ ?_ 11 (0 : Int32) S_27 cu su ⟨by omega, by omega⟩ H locs ls h hP hD hS (lv_sub hl [2, 3, 4, 5, 1, 0] rfl)
            intro S_40 cu su hcu H locs ls h hP hD hS hl
            refine lv_aload_n hx hb dL_law_206 rfl (lv_at hl 1 rfl) ?_
            refine lv_iconst (v := (0 : Int32)) hx hb dL_law_207 (by decide) ?_
            refine lv_iconst (v := (3 : Int32)) hx hb dL_law_208 (by decide) ?_
            refine lv_iload_n hx hb dL_law_209 rfl (lv_at hl 2 rfl) ?_
            refine lv_bipush (v := (7 : Int32)) hx hb dL_law_210 (by decide) ?_
            refine lv_ishr hx hb dL_law_212 ?_
            refine lv_iconst (v := (5 : Int32)) hx hb dL_law_213 (by decide) ?_
            obtain ⟨x41, e42, h⟩ := bd_some h
            refine pcS (As := [.int ((c9 (0 : Int32)) >>> ((7 : Int32) &&& 31)), .int (5 : Int32)]) (rest := [.int (3 : Int32), .int (0 : Int32), .ref (a o)]) (qL_low l D cy  ((c9 (0 : Int32)) >>> ((7 : Int32) &&& 31)) (5 : Int32) x41 e42) ⟨hx, hb, hml, hown, hts⟩ (va_cwS 2 hts gL_law_L_low rfl rfl rfl (by decide +kernel) ⟨Nat.le_of_ble_eq_true rfl, Nat.le_of_ble_eq_true rfl⟩) hG (hP.sub [] rfl) rfl hl.1 rfl (Nat.le_of_ble_eq_true rfl) dL_law_214 ⟨show cu ≤ 600130 by omega, show su ≤ 7301080 by omega⟩ ?_
            refine lv_iadd hx hb dL_law_217 ?_
            obtain ⟨x43, e44, h⟩ := bd_some h
            refine lcW (Re := []) (S := S_40) (rs := x43) (c2 := (cu + 1)) (s2 := (su + 6)) hG hGX hN hP hD hS hA (fun h1 h2 => vx_runSX (As := [.ref (a o), .int (0 : Int32), .int ((3 : Int32) + x41)]) (rest := []) ⟨hx, hb, hml, hown, hts⟩ (qL_set l hl9 D cy tt a o S_40 (0 : Int32) ((3 : Int32) + x41) (H).size x43 e44) (vx_cwSW 3 hts gL_law_L_set rfl rfl rfl (by decide +kernel) ⟨Nat.le_of_ble_eq_true rfl, Nat.le_of_ble_eq_true rfl⟩) ⟨h1, h2⟩ rfl rfl hl.1 rfl (lv_room (Nat.le_of_ble_eq_true rfl)) dL_law_218 ⟨show cu + 1 ≤ 600130 by omega, show su + 6 ≤ 7301080 by omega⟩) rfl rfl (fun H locs hP hD hS => ?_)
            refine lv_iconst (v := (5 : Int32)) hx hb dL_law_221 (by decide) ?_
            obtain ⟨j46, hj46, h⟩ := jn_elim h
            have Jj46 : ∀ (S_45 : SX11) (cu su : Nat) (hcu : cu + (0) ≤ 600130 ∧ su + 12 * (0) ≤ 7301080) (H : Heap) (locs : List Loc) (ls : Array Slot), j46 S_45 = some rs → va_P D vwCl (wX11 cy a o S_45) H → va_D (fun q : Nat => s.heap.size ≤ q) (wX11 cy a o S_45) → va_S (fun q : Nat => s.heap.size ≤ q) s.heap H locs → lv_has ls 17 [] → W p l e room_1 s m #[Value.ref b] below meth c H locs cu su (lw_Z below #[Value.ref b] s) (F0 m 244 ls []) := by
              intro S_45 cu su hcu H locs ls h hP hD hS hl
              rw [hj46] at h
              refine lv_iconst (v := (0 : Int32)) hx hb dL_law_244 (by decide) ?_
              have hv : (0 : Int32) = 1 := (some_in h).trans hrs
              rw [hv]
              refine va_forget (fun q hq => hS.2.2 q hq) ?_
              refine W.widen (k := 600130) (n := 7301080) (by omega) (by omega) ?_
              exact lw_ret hx hb hr hlocks dL_law_245
            refine lv_icmp_ne (tgt := 244) hx hb dL_law_222 (by decide) (fun cc => ?_) (fun cc => ?_)
            · have h := ite_n cc h
              exact Jj46 x43.2 (cu + 1) (su + 6) ⟨by omega, by omega⟩ H locs ls h hP hD hS (lv_sub hl [] rfl)
            · have h := ite_p cc h
              refine lv_aload_n hx hb dL_law_225 rfl (lv_at hl 1 rfl) ?_
              refine lv_iconst (v := (1 : Int32)) hx hb dL_law_226 (by decide) ?_
              refine lv_iconst (v := (1 : Int32)) hx hb dL_law_227 (by decide) ?_
              refine lv_iload_n hx hb dL_law_228 rfl (lv_at hl 2 rfl) ?_
              refine lv_bipush (v := (10 : Int32)) hx hb dL_law_229 (by decide) ?_
              refine lv_ishr hx hb dL_law_231 ?_
              refine lv_iconst (v := (4 : Int32)) hx hb dL_law_232 (by decide) ?_
              obtain ⟨x47, e48, h⟩ := bd_some h
              refine pcS (As := [.int ((c9 (0 : Int32)) >>> ((10 : Int32) &&& 31)), .int (4 : Int32)]) (rest := [.int (1 : Int32), .int (1 : Int32), .ref (a o)]) (qL_low l D cy  ((c9 (0 : Int32)) >>> ((10 : Int32) &&& 31)) (4 : Int32) x47 e48) ⟨hx, hb, hml, hown, hts⟩ (va_cwS 2 hts gL_law_L_low rfl rfl rfl (by decide +kernel) ⟨Nat.le_of_ble_eq_true rfl, Nat.le_of_ble_eq_true rfl⟩) hG (hP.sub [] rfl) rfl hl.1 rfl (Nat.le_of_ble_eq_true rfl) dL_law_233 ⟨show (cu + 1) ≤ 600130 by omega, show (su + 6) ≤ 7301080 by omega⟩ ?_
              refine lv_iadd hx hb dL_law_236 ?_
              obtain ⟨x49, e50, h⟩ := bd_some h
              refine lcW (Re := []) (S := x43.2) (rs := x49) (c2 := (cu + 2)) (s2 := (su + 12)) hG hGX hN hP hD hS hA (fun h1 h2 => vx_runSX (As := [.ref (a o), .int (1 : Int32), .int ((1 : Int32) + x47)]) (rest := []) ⟨hx, hb, hml, hown, hts⟩ (qL_set l hl9 D cy tt a o x43.2 (1 : Int32) ((1 : Int32) + x47) (H).size x49 e50) (vx_cwSW 3 hts gL_law_L_set rfl rfl rfl (by decide +kernel) ⟨Nat.le_of_ble_eq_true rfl, Nat.le_of_ble_eq_true rfl⟩) ⟨h1, h2⟩ rfl rfl hl.1 rfl (lv_room (Nat.le_of_ble_eq_true rfl)) dL_law_237 ⟨show (cu + 1) + 1 ≤ 600130 by omega, show (su + 6) + 6 ≤ 7301080 by omega⟩) rfl rfl (fun H locs hP hD hS => ?_)
              refine lv_iconst (v := (1 : Int32)) hx hb dL_law_240 (by decide) ?_
              refine lv_icmp_eq (tgt := 246) hx hb dL_law_241 (by decide) (fun cc => ?_) (fun cc => ?_)
              · have h := ite_p cc h
                refine lv_aload_n hx hb dL_law_246 rfl (lv_at hl 1 rfl) ?_
                refine lv_iconst (v := (0 : Int32)) hx hb dL_law_247 (by decide) ?_
                obtain ⟨x51, e52, h⟩ := bd_some h
                refine lcW (Re := []) (S := x49.2) (rs := (x51, x49.2)) (c2 := (cu + 3)) (s2 := (su + 18)) hG hGX hN hP hD hS hA (fun h1 h2 => vx_runSX (As := [.ref (a o), .int (0 : Int32)]) (rest := []) ⟨hx, hb, hml, hown, hts⟩ (qL_info l hl9 D cy tt a o x49.2 (0 : Int32) (H).size x51 e52) (vx_cwSW 2 hts gL_law_L_info rfl rfl rfl (by decide +kernel) ⟨Nat.le_of_ble_eq_true rfl, Nat.le_of_ble_eq_true rfl⟩) ⟨h1, h2⟩ rfl rfl hl.1 rfl (lv_room (Nat.le_of_ble_eq_true rfl)) dL_law_248 ⟨show (cu + 2) + 1 ≤ 600130 by omega, show (su + 12) + 6 ≤ 7301080 by omega⟩) rfl rfl (fun H locs hP hD hS => ?_)
                refine lv_istore (lv' := [(5, .int x51), (0, .ref b), (1, .ref (a o)), (2, .int (c9 (0 : Int32))), (3, .int ((4 : Int32) + x16)), (4, .int ((2 : Int32) + x28))]) hx hb dL_law_251 hl (by decide) rfl (fun ls hl => ?_)
                refine lv_iconst (v := (0 : Int32)) hx hb dL_law_253 (by decide) ?_
                refine lv_istore (lv' := [(6, .int (0 : Int32)), (5, .int x51), (0, .ref b), (1, .ref (a o)), (2, .int (c9 (0 : Int32))), (3, .int ((4 : Int32) + x16)), (4, .int ((2 : Int32) + x28))]) hx hb dL_law_254 hl (by decide) rfl (fun ls hl => ?_)
                obtain ⟨j54, hj54, h⟩ := jn_elim h
                have Jj54 : ∀ (S_53 : SX11) (cu su : Nat) (hcu : cu + (0) ≤ 600130 ∧ su + 12 * (0) ≤ 7301080) (H : Heap) (locs : List Loc) (ls : Array Slot), j54 S_53 = some rs → va_P D vwCl (wX11 cy a o S_53) H → va_D (fun q : Nat => s.heap.size ≤ q) (wX11 cy a o S_53) → va_S (fun q : Nat => s.heap.size ≤ q) s.heap H locs → lv_has ls 17 [] → W p l e room_1 s m #[Value.ref b] below meth c H locs cu su (lw_Z below #[Value.ref b] s) (F0 m 413 ls []) := by
                  intro S_53 cu su hcu H locs ls h hP hD hS hl
                  rw [hj54] at h
                  refine lv_iconst (v := (0 : Int32)) hx hb dL_law_413 (by decide) ?_
                  have hv : (0 : Int32) = 1 := (some_in h).trans hrs
                  rw [hv]
                  refine va_forget (fun q hq => hS.2.2 q hq) ?_
                  refine W.widen (k := 600130) (n := 7301080) (by omega) (by omega) ?_
                  exact lw_ret hx hb hr hlocks dL_law_414
                have L365 : ∀ (c2_55 : Int32) (c3_56 : Int32) (c4_57 : Int32) (c5_58 : Int32) (k60 : SX11 → Option (Int32)) (hk60 : ∀ (S_61 : SX11) (cu su : Nat) (hcu : cu + (0) ≤ 600130 ∧ su + 12 * (0) ≤ 7301080) (H : Heap) (locs : List Loc) (ls : Array Slot), k60 S_61 = some rs → va_P D vwCl (wX11 cy a o S_61) H → va_D (fun q : Nat => s.heap.size ≤ q) (wX11 cy a o S_61) → va_S (fun q : Nat => s.heap.size ≤ q) s.heap H locs → lv_has ls 17 [] → W p l e room_1 s m #[Value.ref b] below meth c H locs cu su (lw_Z below #[Value.ref b] s) (F0 m 413 ls [])) (k62 : SX11 → Option (Int32)) (hk62 : ∀ (S_63 : SX11) (cu su : Nat) (hcu : cu + (565469) ≤ 600130 ∧ su + 12 * (565469) ≤ 7301080) (H : Heap) (locs : List Loc) (ls : Array Slot), k62 S_63 = some rs → va_P D vwCl (wX11 cy a o S_63) H → va_D (fun q : Nat => s.heap.size ≤ q) (wX11 cy a o S_63) → va_S (fun q : Nat => s.heap.size ≤ q) s.heap H locs → lv_has ls 17 [(0, .ref b), (1, .ref (a o)), (2, .int c2_55), (4, .int c4_57), (5, .int c5_58)] → W p l e room_1 s m #[Value.ref b] below meth c H locs cu su (lw_Z below #[Value.ref b] s) (F0 m 427 ls [])) (f256 : Nat) (v6_321 : Int32) (S_59 : SX11) (cu su : Nat) (hcu : cu + (f256 * 20 + 565469) ≤ 600130 ∧ su + 12 * (f256 * 20 + 565469) ≤ 7301080) (H : Heap) (locs : List Loc) (ls : Array Slot), DL_law_L256 c9 c2_55 c3_56 c4_57 c5_58 k60 k62 f256 v6_321 S_59 = some rs → va_P D vwCl (wX11 cy a o S_59) H → va_D (fun q : Nat => s.heap.size ≤ q) (wX11 cy a o S_59) → va_S (fun q : Nat => s.heap.size ≤ q) s.heap H locs → lv_has ls 17 [(0, .ref b), (1, .ref (a o)), (2, .int c2_55), (3, .int c3_56), (4, .int c4_57), (5, .int c5_58), (6, .int v6_321)] → W p l e room_1 s m #[Value.ref b] below meth c H locs cu su (lw_Z below #[Value.ref b] s) (F0 m 256 ls []) := by
                  intro c2_55 c3_56 c4_57 c5_58 k60 hk60 k62 hk62 f256
                  induction f256 with
                  | zero =>
                    intro v6_321 S_59 cu su hcu H locs ls h hP hD hS hl
                    rw [DL_law_L256] at h
                    cases h
                  | succ f256 ih256 =>
                    intro v6_321 S_59 cu su hcu H locs ls h hP hD hS hl
                    rw [DL_law_L256] at h
                    refine lv_iload hx hb dL_law_256 (lv_at hl 6 rfl) ?_
                    refine lv_iload hx hb dL_law_258 (lv_at hl 4 rfl) ?_
                    refine lv_icmp_ge (tgt := 427) hx hb dL_law_260 (by decide) (fun cc => ?_) (fun cc => ?_)
                    · have h := ite_p cc h
                      exact hk62 S_59 cu su ⟨by omega, by omega⟩ H locs ls h hP hD hS (lv_sub hl [0, 1, 2, 4, 5] rfl)
                    · have h := ite_n cc h
                      refine lv_iconst (v := (0 : Int32)) hx hb dL_law_263 (by decide) ?_
                      refine lv_istore (lv' := [(7, .int (0 : Int32)), (0, .ref b), (1, .ref (a o)), (2, .int c2_55), (3, .int c3_56), (4, .int c4_57), (5, .int c5_58), (6, .int v6_321)]) hx hb dL_law_264 hl (by decide) rfl (fun ls hl => ?_)
                      have L364 : ∀ (c2_322 : Int32) (c3_323 : Int32) (c4_324 : Int32) (c5_325 : Int32) (c6_326 : Int32) (k328 : SX11 → Option (Int32)) (hk328 : ∀ (S_329 : SX11) (cu su : Nat) (hcu : cu + (0) ≤ 600130 ∧ su + 12 * (0) ≤ 7301080) (H : Heap) (locs : List Loc) (ls : Array Slot), k328 S_329 = some rs → va_P D vwCl (wX11 cy a o S_329) H → va_D (fun q : Nat => s.heap.size ≤ q) (wX11 cy a o S_329) → va_S (fun q : Nat => s.heap.size ≤ q) s.heap H locs → lv_has ls 17 [] → W p l e room_1 s m #[Value.ref b] below meth c H locs cu su (lw_Z below #[Value.ref b] s) (F0 m 413 ls [])) (k330 : SX11 → Option (Int32)) (hk330 : ∀ (S_331 : SX11) (cu su : Nat) (hcu : cu + (f256 * 20 + 565469) ≤ 600130 ∧ su + 12 * (f256 * 20 + 565469) ≤ 7301080) (H : Heap) (locs : List Loc) (ls : Array Slot), k330 S_331 = some rs → va_P D vwCl (wX11 cy a o S_331) H → va_D (fun q : Nat => s.heap.size ≤ q) (wX11 cy a o S_331) → va_S (fun q : Nat => s.heap.size ≤ q) s.heap H locs → lv_has ls 17 [(0, .ref b), (1, .ref (a o)), (2, .int c2_322), (3, .int c3_323), (4, .int c4_324), (5, .int c5_325), (6, .int c6_326)] → W p l e room_1 s m #[Value.ref b] below meth c H locs cu su (lw_Z below #[Value.ref b] s) (F0 m 421 ls [])) (f266 : Nat) (v7_333 : Int32) (S_327 : SX11) (cu su : Nat) (hcu : cu + (f266 * 5 + f256 * 20 + 565469) ≤ 600130 ∧ su + 12 * (f266 * 5 + f256 * 20 + 565469) ≤ 7301080) (H : Heap) (locs : List Loc) (ls : Array Slot), DL_law_L266 c9 c2_322 c3_323 c4_324 c5_325 c6_326 k328 k330 f266 v7_333 S_327 = some rs → va_P D vwCl (wX11 cy a o S_327) H → va_D (fun q : Nat => s.heap.size ≤ q) (wX11 cy a o S_327) → va_S (fun q : Nat => s.heap.size ≤ q) s.heap H locs → lv_has ls 17 [(0, .ref b), (1, .ref (a o)), (2, .int c2_322), (3, .int c3_323), (4, .int c4_324), (5, .int c5_325), (6, .int c6_326), (7, .int v7_333)] → W p l e room_1 s m #[Value.ref b] below meth c H locs cu su (lw_Z below #[Value.ref b] s) (F0 m 266 ls []) := by
                        intro c2_322 c3_323 c4_324 c5_325 c6_326 k328 hk328 k330 hk330 f266
                        induction f266 with
                        | zero =>
                          intro v7_333 S_327 cu su hcu H locs ls h hP hD hS hl
                          rw [DL_law_L266] at h
                          cases h
                        | succ f266 ih266 =>
                          intro v7_333 S_327 cu su hcu H locs ls h hP hD hS hl
                          rw [DL_law_L266] at h
                          refine lv_iload hx hb dL_law_266 (lv_at hl 7 rfl) ?_
                          refine lv_iconst (v := (3 : Int32)) hx hb dL_law_268 (by decide) ?_
                          refine lv_icmp_ge (tgt := 421) hx hb dL_law_269 (by decide) (fun cc => ?_) (fun cc => ?_)
                          · have h := ite_p cc h
                            exact hk330 S_327 cu su ⟨by omega, by omega⟩ H locs ls h hP hD hS (lv_sub hl [0, 1, 2, 3, 4, 5, 6] rfl)
                          · have h := ite_n cc h
                            refine lv_aload_n hx hb dL_law_272 rfl (lv_at hl 0 rfl) ?_
                            refine lv_iconst (v := (5 : Int32)) hx hb dL_law_273 (by decide) ?_
                            refine lv_iload hx hb dL_law_274 (lv_at hl 6 rfl) ?_
                            refine lv_iconst (v := (3 : Int32)) hx hb dL_law_276 (by decide) ?_
                            refine lv_iload hx hb dL_law_277 (lv_at hl 7 rfl) ?_
                            refine lv_imul hx hb dL_law_279 ?_
                            refine lv_iadd hx hb dL_law_280 ?_
                            refine lv_bipush (v := (8 : Int32)) hx hb dL_law_281 (by decide) ?_
                            refine lv_irem hx hb dL_law_283 (by decide) ?_
                            refine lv_iadd hx hb dL_law_284 ?_
                            obtain ⟨g336, h⟩ := gd_some h
                            refine pcC (As := [.ref b, .int ((5 : Int32) + ((c6_326 + ((3 : Int32) * v7_333)) - (c6_326 + ((3 : Int32) * v7_333)) / (8 : Int32) * (8 : Int32)))]) (rest := []) (qL_cl l b L xs hL9 c9 hc9 ((5 : Int32) + ((c6_326 + ((3 : Int32) * v7_333)) - (c6_326 + ((3 : Int32) * v7_333)) / (8 : Int32) * (8 : Int32))) (of_decide_eq_true g336)) ⟨hx, hb, hml, hown, hts⟩ (va_cwS 2 hts gL_law_L_cell rfl rfl rfl (by decide +kernel) ⟨Nat.le_of_ble_eq_true rfl, Nat.le_of_ble_eq_true rfl⟩) hX hbl hS rfl hl.1 rfl (Nat.le_of_ble_eq_true rfl) dL_law_285 ⟨show cu ≤ 600130 by omega, show su ≤ 7301080 by omega⟩ ?_
                            refine lv_iload hx hb dL_law_288 (lv_at hl 6 rfl) ?_
                            refine lv_ishr hx hb dL_law_290 ?_
                            refine lv_istore (lv' := [(8, .int ((c9 ((5 : Int32) + ((c6_326 + ((3 : Int32) * v7_333)) - (c6_326 + ((3 : Int32) * v7_333)) / (8 : Int32) * (8 : Int32)))) >>> (c6_326 &&& 31))), (0, .ref b), (1, .ref (a o)), (2, .int c2_322), (3, .int c3_323), (4, .int c4_324), (5, .int c5_325), (6, .int c6_326), (7, .int v7_333)]) hx hb dL_law_291 hl (by decide) rfl (fun ls hl => ?_)
                            refine lv_iload hx hb dL_law_293 (lv_at hl 0 rfl) ?_
                            refine lv_iload_n hx hb dL_law_295 rfl (lv_at hl 4 rfl) ?_
                            obtain ⟨x337, e338, h⟩ := bd_some h
                            refine pcS (As := [.int ((c9 ((5 : Int32) + ((c6_326 + ((3 : Int32) * v7_333)) - (c6_326 + ((3 : Int32) * v7_333)) / (8 : Int32) * (8 : Int32)))) >>> (c6_326 &&& 31)), .int c3_323]) (rest := []) (qL_low l D cy  ((c9 ((5 : Int32) + ((c6_326 + ((3 : Int32) * v7_333)) - (c6_326 + ((3 : Int32) * v7_333)) / (8 : Int32) * (8 : Int32)))) >>> (c6_326 &&& 31)) c3_323 x337 e338) ⟨hx, hb, hml, hown, hts⟩ (va_cwS 2 hts gL_law_L_low rfl rfl rfl (by decide +kernel) ⟨Nat.le_of_ble_eq_true rfl, Nat.le_of_ble_eq_true rfl⟩) hG (hP.sub [] rfl) rfl hl.1 rfl (Nat.le_of_ble_eq_true rfl) dL_law_296 ⟨show cu ≤ 600130 by omega, show su ≤ 7301080 by omega⟩ ?_
                            refine lv_istore (lv' := [(9, .int x337), (8, .int ((c9 ((5 : Int32) + ((c6_326 + ((3 : Int32) * v7_333)) - (c6_326 + ((3 : Int32) * v7_333)) / (8 : Int32) * (8 : Int32)))) >>> (c6_326 &&& 31))), (0, .ref b), (1, .ref (a o)), (2, .int c2_322), (3, .int c3_323), (4, .int c4_324), (5, .int c5_325), (6, .int c6_326), (7, .int v7_333)]) hx hb dL_law_299 hl (by decide) rfl (fun ls hl => ?_)
                            refine lv_iload hx hb dL_law_301 (lv_at hl 1 rfl) ?_
                            refine lv_iconst (v := (4 : Int32)) hx hb dL_law_303 (by decide) ?_
                            refine lv_ishr hx hb dL_law_304 ?_
                            refine lv_iload_n hx hb dL_law_305 rfl (lv_at hl 5 rfl) ?_
                            obtain ⟨x339, e340, h⟩ := bd_some h
                            refine pcS (As := [.int (((c9 ((5 : Int32) + ((c6_326 + ((3 : Int32) * v7_333)) - (c6_326 + ((3 : Int32) * v7_333)) / (8 : Int32) * (8 : Int32)))) >>> (c6_326 &&& 31)) >>> ((4 : Int32) &&& 31)), .int c3_323]) (rest := []) (qL_low l D cy  (((c9 ((5 : Int32) + ((c6_326 + ((3 : Int32) * v7_333)) - (c6_326 + ((3 : Int32) * v7_333)) / (8 : Int32) * (8 : Int32)))) >>> (c6_326 &&& 31)) >>> ((4 : Int32) &&& 31)) c3_323 x339 e340) ⟨hx, hb, hml, hown, hts⟩ (va_cwS 2 hts gL_law_L_low rfl rfl rfl (by decide +kernel) ⟨Nat.le_of_ble_eq_true rfl, Nat.le_of_ble_eq_true rfl⟩) hG (hP.sub [] rfl) rfl hl.1 rfl (Nat.le_of_ble_eq_true rfl) dL_law_306 ⟨show cu ≤ 600130 by omega, show su ≤ 7301080 by omega⟩ ?_
                            refine lv_istore (lv' := [(10, .int x339), (9, .int x337), (8, .int ((c9 ((5 : Int32) + ((c6_326 + ((3 : Int32) * v7_333)) - (c6_326 + ((3 : Int32) * v7_333)) / (8 : Int32) * (8 : Int32)))) >>> (c6_326 &&& 31))), (0, .ref b), (1, .ref (a o)), (2, .int c2_322), (3, .int c3_323), (4, .int c4_324), (5, .int c5_325), (6, .int c6_326), (7, .int v7_333)]) hx hb dL_law_309 hl (by decide) rfl (fun ls hl => ?_)
                            refine lv_aload_n hx hb dL_law_311 rfl (lv_at hl 4 rfl) ?_
                            obtain ⟨x341, e342, h⟩ := bd_some h
                            refine smVi (As := []) (rest := []) (ws' := (wX11 cy a o x341.2)) (q0 := 0) (ci := 11) (qX11_clearText l D cy a o S_327 (H).size x341 e342) ⟨hx, hb, hml, hown, hts⟩ (cwV 0 hts gL_law_X11_clearText rfl rfl rfl (by decide +kernel) ⟨Nat.le_of_ble_eq_true rfl, Nat.le_of_ble_eq_true rfl⟩) hG hP hD hS hA (pmA [] (wX11 cy a o S_327)) (pmA [] (wX11 cy a o x341.2)) rfl rfl rfl hl.1 rfl (Nat.le_of_ble_eq_true rfl) dL_law_312 ⟨show cu ≤ 600130 by omega, show su ≤ 7301080 by omega⟩ (fun H locs hP hD hS => ?_)
                            refine lv_pop hx hb dL_law_315 rfl ?_
                            refine lv_aload_n hx hb dL_law_316 rfl (lv_at hl 4 rfl) ?_
                            refine lv_bipush (v := (48 : Int32)) hx hb dL_law_317 (by decide) ?_
                            refine lv_iload hx hb dL_law_319 (lv_at hl 1 rfl) ?_
                            refine lv_iadd hx hb dL_law_321 ?_
                            obtain ⟨x343, e344, h⟩ := bd_some h
                            refine lcW (Re := []) (S := x341.2) (rs := x343) (c2 := (cu + 1)) (s2 := (su + 6)) hG hGX hN hP hD hS hA (fun h1 h2 => vx_runSX (As := [.ref (a o), .int ((48 : Int32) + x337)]) (rest := []) ⟨hx, hb, hml, hown, hts⟩ (qL_type l hl9 D cy tt a o x341.2 ((48 : Int32) + x337) (H).size x343 e344) (vx_cwSW 2 hts gL_law_L_type rfl rfl rfl (by decide +kernel) ⟨Nat.le_of_ble_eq_true rfl, Nat.le_of_ble_eq_true rfl⟩) ⟨h1, h2⟩ rfl rfl hl.1 rfl (lv_room (Nat.le_of_ble_eq_true rfl)) dL_law_322 ⟨show cu + 1 ≤ 600130 by omega, show su + 6 ≤ 7301080 by omega⟩) rfl rfl (fun H locs hP hD hS => ?_)
                            obtain ⟨j347, hj347, h⟩ := jn_elim h
                            have Jj347 : ∀ (x345 : Int32) (S_346 : SX11) (cu su : Nat) (hcu : cu + (f266 * 5 + f256 * 20 + 565471) ≤ 600130 ∧ su + 12 * (f266 * 5 + f256 * 20 + 565471) ≤ 7301080) (H : Heap) (locs : List Loc) (ls : Array Slot), j347 x345 S_346 = some rs → va_P D vwCl (wX11 cy a o S_346) H → va_D (fun q : Nat => s.heap.size ≤ q) (wX11 cy a o S_346) → va_S (fun q : Nat => s.heap.size ≤ q) s.heap H locs → lv_has ls 17 [(0, .ref b), (1, .ref (a o)), (2, .int c2_322), (3, .int c3_323), (4, .int c4_324), (5, .int c5_325), (6, .int c6_326), (7, .int v7_333), (9, .int x337), (10, .int x339)] → W p l e room_1 s m #[Value.ref b] below meth c H locs cu su (lw_Z below #[Value.ref b] s) (F0 m 361 ls [.int x345]) := by
                              intro x345 S_346 cu su hcu H locs ls h hP hD hS hl
                              rw [hj347] at h
                              refine lv_istore (lv' := [(11, .int x345), (0, .ref b), (1, .ref (a o)), (2, .int c2_322), (3, .int c3_323), (4, .int c4_324), (5, .int c5_325), (6, .int c6_326), (7, .int v7_333), (9, .int x337), (10, .int x339)]) hx hb dL_law_361 hl (by decide) rfl (fun ls hl => ?_)
                              refine lv_iload hx hb dL_law_363 (lv_at hl 0 rfl) ?_
                              refine lv_if_eq (tgt := 413) hx hb dL_law_365 (by decide) (fun cc => ?_) (fun cc => ?_)
                              · have h := ite_p cc h
                                exact hk328 S_346 cu su ⟨by omega, by omega⟩ H locs ls h hP hD hS (lv_sub hl [] rfl)
                              · have h := ite_n cc h
                                refine lv_aload_n hx hb dL_law_368 rfl (lv_at hl 2 rfl) ?_
                                obtain ⟨x348, e349, h⟩ := bd_some h
                                refine smVi (As := []) (rest := []) (ws' := (wX11 cy a o x348.2)) (q0 := 0) (ci := 11) (qX11_fault l D cy a o S_346 (H).size x348 e349) ⟨hx, hb, hml, hown, hts⟩ (cwV 0 hts gL_law_X11_fault rfl rfl rfl (by decide +kernel) ⟨Nat.le_of_ble_eq_true rfl, Nat.le_of_ble_eq_true rfl⟩) hG hP hD hS hA (pmA [] (wX11 cy a o S_346)) (pmA [] (wX11 cy a o x348.2)) rfl rfl rfl hl.1 rfl (Nat.le_of_ble_eq_true rfl) dL_law_369 ⟨show cu ≤ 600130 by omega, show su ≤ 7301080 by omega⟩ (fun H locs hP hD hS => ?_)
                                refine lv_iconst (v := (-1 : Int32)) hx hb dL_law_372 (by decide) ?_
                                refine lv_icmp_ne (tgt := 413) hx hb dL_law_373 (by decide) (fun cc => ?_) (fun cc => ?_)
                                · have h := ite_n cc h
                                  exact hk328 x348.2 cu su ⟨by omega, by omega⟩ H locs ls h hP hD hS (lv_sub hl [] rfl)
                                · have h := ite_p cc h
                                  refine lv_aload_n hx hb dL_law_376 rfl (lv_at hl 2 rfl) ?_
                                  refine lv_iload hx hb dL_law_377 (lv_at hl 7 rfl) ?_
                                  refine lv_iload hx hb dL_law_379 (lv_at hl 8 rfl) ?_
                                  obtain ⟨x350, e351, h⟩ := bd_some h
                                  refine lcW (Re := []) (S := x348.2) (rs := x350) (c2 := (cu + 1)) (s2 := (su + 6)) hG hGX hN hP hD hS hA (fun h1 h2 => vx_runSX (As := [.ref (a o), .int c6_326, .int v7_333]) (rest := []) ⟨hx, hb, hml, hown, hts⟩ (qL_setProgram l hl9 D cy tt a o x348.2 c6_326 v7_333 (H).size x350 e351) (vx_cwSW 3 hts gL_law_L_setProgram rfl rfl rfl (by decide +kernel) ⟨Nat.le_of_ble_eq_true rfl, Nat.le_of_ble_eq_true rfl⟩) ⟨h1, h2⟩ rfl rfl hl.1 rfl (lv_room (Nat.le_of_ble_eq_true rfl)) dL_law_381 ⟨show cu + 1 ≤ 600130 by omega, show su + 6 ≤ 7301080 by omega⟩) rfl rfl (fun H locs hP hD hS => ?_)
                                  refine lv_iload hx hb dL_law_384 (lv_at hl 9 rfl) ?_
                                  refine lv_iload hx hb dL_law_386 (lv_at hl 10 rfl) ?_
                                  obtain ⟨j353, hj353, h⟩ := jn_elim h
                                  have Jj353 : ∀ (x352 : Int32) (cu su : Nat) (hcu : cu + (f266 * 5 + f256 * 20 + 565470) ≤ 600130 ∧ su + 12 * (f266 * 5 + f256 * 20 + 565470) ≤ 7301080) (ls : Array Slot), j353 x352 = some rs → lv_has ls 17 [(0, .ref b), (1, .ref (a o)), (2, .int c2_322), (3, .int c3_323), (4, .int c4_324), (5, .int c5_325), (6, .int c6_326), (7, .int v7_333), (9, .int x337)] → W p l e room_1 s m #[Value.ref b] below meth c H locs cu su (lw_Z below #[Value.ref b] s) (F0 m 396 ls [.int x352, .int x350.1]) := by
                                    intro x352 cu su hcu ls h hl
                                    rw [hj353] at h
                                    refine lv_icmp_ne (tgt := 413) hx hb dL_law_396 (by decide) (fun cc => ?_) (fun cc => ?_)
                                    · have h := ite_n cc h
                                      exact hk328 x350.2 cu su ⟨by omega, by omega⟩ H locs ls h hP hD hS (lv_sub hl [] rfl)
                                    · have h := ite_p cc h
                                      refine lv_aload_n hx hb dL_law_399 rfl (lv_at hl 1 rfl) ?_
                                      refine lv_iload hx hb dL_law_400 (lv_at hl 6 rfl) ?_
                                      refine lv_iload hx hb dL_law_402 (lv_at hl 7 rfl) ?_
                                      refine lv_iconst (v := (0 : Int32)) hx hb dL_law_404 (by decide) ?_
                                      obtain ⟨x354, e355, h⟩ := bd_some h
                                      refine lcW (Re := []) (S := x350.2) (rs := (x354, x350.2)) (c2 := (cu + 1)) (s2 := (su + 6)) hG hGX hN hP hD hS hA (fun h1 h2 => vx_runSX (As := [.ref (a o), .int c6_326, .int v7_333, .int (0 : Int32)]) (rest := []) ⟨hx, hb, hml, hown, hts⟩ (qL_program l hl9 D cy tt a o x350.2 c6_326 v7_333 (0 : Int32) (H).size x354 e355) (vx_cwSW 4 hts gL_law_L_program rfl rfl rfl (by decide +kernel) ⟨Nat.le_of_ble_eq_true rfl, Nat.le_of_ble_eq_true rfl⟩) ⟨h1, h2⟩ rfl rfl hl.1 rfl (lv_room (Nat.le_of_ble_eq_true rfl)) dL_law_405 ⟨show cu + 1 ≤ 600130 by omega, show su + 6 ≤ 7301080 by omega⟩) rfl rfl (fun H locs hP hD hS => ?_)
                                      refine lv_iload hx hb dL_law_408 (lv_at hl 8 rfl) ?_
                                      refine lv_icmp_eq (tgt := 415) hx hb dL_law_410 (by decide) (fun cc => ?_) (fun cc => ?_)
                                      · have h := ite_p cc h
                                        refine lv_iinc (v := (v7_333 + (1 : Int32))) (lv' := [(7, .int (v7_333 + (1 : Int32))), (0, .ref b), (1, .ref (a o)), (2, .int c2_322), (3, .int c3_323), (4, .int c4_324), (5, .int c5_325), (6, .int c6_326), (9, .int x337)]) hx hb dL_law_415 hl (k := 7) rfl (by rfl) (by decide) rfl (fun ls hl => ?_)
                                        refine lv_goto (tgt := 266) hx hb dL_law_418 (by decide) ?_
                                        exact ih266 (v7_333 + (1 : Int32)) x350.2 (cu + 1) (su + 6) ⟨by omega, by omega⟩ H locs ls h hP hD hS (lv_sub hl [1, 2, 3, 4, 5, 6, 7, 0] rfl)
                                      · have h := ite_n cc h
                                        exact hk328 x350.2 (cu + 1) (su + 6) ⟨by omega, by omega⟩ H locs ls h hP hD hS (lv_sub hl [] rfl)
                                  refine lv_icmp_ne (tgt := 395) hx hb dL_law_388 (by decide) (fun cc => ?_) (fun cc => ?_)
                                  · have h := ite_n cc h
                                    refine lv_iconst (v := (2 : Int32)) hx hb dL_law_395 (by decide) ?_
                                    exact Jj353 (2 : Int32) (cu + 1) (su + 6) ⟨by omega, by omega⟩ ls h (lv_sub hl [1, 2, 3, 4, 5, 6, 7, 8, 9] rfl)
                                  · have h := ite_p cc h
                                    refine lv_iconst (v := (1 : Int32)) hx hb dL_law_391 (by decide) ?_
                                    refine lv_goto (tgt := 396) hx hb dL_law_392 (by decide) ?_
                                    exact Jj353 (1 : Int32) (cu + 1) (su + 6) ⟨by omega, by omega⟩ ls h (lv_sub hl [1, 2, 3, 4, 5, 6, 7, 8, 9] rfl)
                            obtain ⟨j357, hj357, h⟩ := jn_elim h
                            have Jj357 : ∀ (S_356 : SX11) (cu su : Nat) (hcu : cu + (f266 * 5 + f256 * 20 + 565471) ≤ 600130 ∧ su + 12 * (f266 * 5 + f256 * 20 + 565471) ≤ 7301080) (H : Heap) (locs : List Loc) (ls : Array Slot), j357 S_356 = some rs → va_P D vwCl (wX11 cy a o S_356) H → va_D (fun q : Nat => s.heap.size ≤ q) (wX11 cy a o S_356) → va_S (fun q : Nat => s.heap.size ≤ q) s.heap H locs → lv_has ls 17 [(0, .ref b), (1, .ref (a o)), (2, .int c2_322), (3, .int c3_323), (4, .int c4_324), (5, .int c5_325), (6, .int c6_326), (7, .int v7_333), (9, .int x337), (10, .int x339)] → W p l e room_1 s m #[Value.ref b] below meth c H locs cu su (lw_Z below #[Value.ref b] s) (F0 m 360 ls []) := by
                              intro S_356 cu su hcu H locs ls h hP hD hS hl
                              rw [hj357] at h
                              refine lv_iconst (v := (0 : Int32)) hx hb dL_law_360 (by decide) ?_
                              exact Jj347 (0 : Int32) S_356 cu su ⟨by omega, by omega⟩ H locs ls h hP hD hS (lv_sub hl [0, 1, 2, 3, 4, 5, 6, 7, 8, 9] rfl)
                            refine lv_if_le (tgt := 360) hx hb dL_law_325 (by decide) (fun cc => ?_) (fun cc => ?_)
                            · have h := ite_p cc h
                              exact Jj357 x343.2 (cu + 1) (su + 6) ⟨by omega, by omega⟩ H locs ls h hP hD hS (lv_sub hl [3, 4, 5, 6, 7, 8, 9, 10, 1, 0] rfl)
                            · have h := ite_n cc h
                              refine lv_iload hx hb dL_law_328 (lv_at hl 1 rfl) ?_
                              refine lv_iload hx hb dL_law_330 (lv_at hl 0 rfl) ?_
                              obtain ⟨j359, hj359, h⟩ := jn_elim h
                              have Jj359 : ∀ (S_358 : SX11) (cu su : Nat) (hcu : cu + (f266 * 5 + f256 * 20 + 565471) ≤ 600130 ∧ su + 12 * (f266 * 5 + f256 * 20 + 565471) ≤ 7301080) (H : Heap) (locs : List Loc) (ls : Array Slot), j359 S_358 = some rs → va_P D vwCl (wX11 cy a o S_358) H → va_D (fun q : Nat => s.heap.size ≤ q) (wX11 cy a o S_358) → va_S (fun q : Nat => s.heap.size ≤ q) s.heap H locs → lv_has ls 17 [(0, .ref b), (1, .ref (a o)), (2, .int c2_322), (3, .int c3_323), (4, .int c4_324), (5, .int c5_325), (6, .int c6_326), (7, .int v7_333), (9, .int x337), (10, .int x339)] → W p l e room_1 s m #[Value.ref b] below meth c H locs cu su (lw_Z below #[Value.ref b] s) (F0 m 356 ls []) := by
                                intro S_358 cu su hcu H locs ls h hP hD hS hl
                                rw [hj359] at h
                                refine lv_iconst (v := (1 : Int32)) hx hb dL_law_356 (by decide) ?_
                                refine lv_goto (tgt := 361) hx hb dL_law_357 (by decide) ?_
                                exact Jj347 (1 : Int32) S_358 cu su ⟨by omega, by omega⟩ H locs ls h hP hD hS (lv_sub hl [0, 1, 2, 3, 4, 5, 6, 7, 8, 9] rfl)
                              refine lv_icmp_eq (tgt := 356) hx hb dL_law_332 (by decide) (fun cc => ?_) (fun cc => ?_)
                              · have h := ite_p cc h
                                exact Jj359 x343.2 (cu + 1) (su + 6) ⟨by omega, by omega⟩ H locs ls h hP hD hS (lv_sub hl [3, 4, 5, 6, 7, 8, 9, 10, 1, 0] rfl)
                              · have h := ite_n cc h
                                refine lv_aload_n hx hb dL_law_335 rfl (lv_at hl 4 rfl) ?_
                                refine lv_bipush (v := (44 : Int32)) hx hb dL_law_336 (by decide) ?_
                                obtain ⟨x360, e361, h⟩ := bd_some h
                                refine lcW (Re := []) (S := x343.2) (rs := x360) (c2 := (cu + 2)) (s2 := (su + 12)) hG hGX hN hP hD hS hA (fun h1 h2 => vx_runSX (As := [.ref (a o), .int (44 : Int32)]) (rest := []) ⟨hx, hb, hml, hown, hts⟩ (qL_type l hl9 D cy tt a o x343.2 (44 : Int32) (H).size x360 e361) (vx_cwSW 2 hts gL_law_L_type rfl rfl rfl (by decide +kernel) ⟨Nat.le_of_ble_eq_true rfl, Nat.le_of_ble_eq_true rfl⟩) ⟨h1, h2⟩ rfl rfl hl.1 rfl (lv_room (Nat.le_of_ble_eq_true rfl)) dL_law_338 ⟨show (cu + 1) + 1 ≤ 600130 by omega, show (su + 6) + 6 ≤ 7301080 by omega⟩) rfl rfl (fun H locs hP hD hS => ?_)
                                refine lv_if_le (tgt := 360) hx hb dL_law_341 (by decide) (fun cc => ?_) (fun cc => ?_)
                                · have h := ite_p cc h
                                  exact Jj357 x360.2 (cu + 2) (su + 12) ⟨by omega, by omega⟩ H locs ls h hP hD hS (lv_sub hl [3, 4, 5, 6, 7, 8, 9, 10, 1, 0] rfl)
                                · have h := ite_n cc h
                                  refine lv_aload_n hx hb dL_law_344 rfl (lv_at hl 4 rfl) ?_
                                  refine lv_bipush (v := (48 : Int32)) hx hb dL_law_345 (by decide) ?_
                                  refine lv_iload hx hb dL_law_347 (lv_at hl 0 rfl) ?_
                                  refine lv_iadd hx hb dL_law_349 ?_
                                  obtain ⟨x362, e363, h⟩ := bd_some h
                                  refine lcW (Re := []) (S := x360.2) (rs := x362) (c2 := (cu + 3)) (s2 := (su + 18)) hG hGX hN hP hD hS hA (fun h1 h2 => vx_runSX (As := [.ref (a o), .int ((48 : Int32) + x339)]) (rest := []) ⟨hx, hb, hml, hown, hts⟩ (qL_type l hl9 D cy tt a o x360.2 ((48 : Int32) + x339) (H).size x362 e363) (vx_cwSW 2 hts gL_law_L_type rfl rfl rfl (by decide +kernel) ⟨Nat.le_of_ble_eq_true rfl, Nat.le_of_ble_eq_true rfl⟩) ⟨h1, h2⟩ rfl rfl hl.1 rfl (lv_room (Nat.le_of_ble_eq_true rfl)) dL_law_350 ⟨show (cu + 2) + 1 ≤ 600130 by omega, show (su + 12) + 6 ≤ 7301080 by omega⟩) rfl rfl (fun H locs hP hD hS => ?_)
                                  refine lv_if_le (tgt := 360) hx hb dL_law_353 (by decide) (fun cc => ?_) (fun cc => ?_)
                                  · have h := ite_p cc h
                                    exact Jj357 x362.2 (cu + 3) (su + 18) ⟨by omega, by omega⟩ H locs ls h hP hD hS (lv_sub hl [3, 4, 5, 6, 7, 8, 9, 10, 1, 0] rfl)
                                  · have h := ite_n cc h
                                    exact Jj359 x362.2 (cu + 3) (su + 18) ⟨by omega, by omega⟩ H locs ls h hP hD hS (lv_sub hl [3, 4, 5, 6, 7, 8, 9, 10, 1, 0] rfl)
                      refine L364 c2_55 c3_56 c4_57 c5_58 v6_321 _ hk60 _ ?_ 4 (0 : Int32) S_59 cu su ⟨by omega, by omega⟩ H locs ls h hP hD hS (lv_sub hl [1, 2, 3, 4, 5, 6, 7, 0] rfl)
                      intro S_332 cu su hcu H locs ls h hP hD hS hl
                      refine lv_iinc (v := (v6_321 + (1 : Int32))) (lv' := [(6, .int (v6_321 + (1 : Int32))), (0, .ref b), (1, .ref (a o)), (2, .int c2_55), (3, .int c3_56), (4, .int c4_57), (5, .int c5_58)]) hx hb dL_law_421 hl (k := 6) rfl (by rfl) (by decide) rfl (fun ls hl => ?_)
                      refine lv_goto (tgt := 256) hx hb dL_law_424 (by decide) ?_
                      exact ih256 (v6_321 + (1 : Int32)) S_332 cu su ⟨by omega, by omega⟩ H locs ls h hP hD hS (lv_sub hl [1, 2, 3, 4, 5, 6, 0] rfl)
                refine L365 (c9 (0 : Int32)) ((4 : Int32) + x16) ((2 : Int32) + x28) x51 _ Jj54 _ ?_ 11 (0 : Int32) x49.2 (cu + 3) (su + 18) ⟨by omega, by omega⟩ H locs ls h hP hD hS (lv_sub hl [2, 3, 4, 5, 6, 1, 0] rfl)
                intro S_64 cu su hcu H locs ls h hP hD hS hl
                refine lv_iconst (v := (0 : Int32)) hx hb dL_law_427 (by decide) ?_
                refine lv_istore (lv' := [(6, .int (0 : Int32)), (0, .ref b), (1, .ref (a o)), (2, .int (c9 (0 : Int32))), (4, .int ((2 : Int32) + x28)), (5, .int x51)]) hx hb dL_law_428 hl (by decide) rfl (fun ls hl => ?_)
                obtain ⟨j66, hj66, h⟩ := jn_elim h
                have Jj66 : ∀ (S_65 : SX11) (cu su : Nat) (hcu : cu + (0) ≤ 600130 ∧ su + 12 * (0) ≤ 7301080) (H : Heap) (locs : List Loc) (ls : Array Slot), j66 S_65 = some rs → va_P D vwCl (wX11 cy a o S_65) H → va_D (fun q : Nat => s.heap.size ≤ q) (wX11 cy a o S_65) → va_S (fun q : Nat => s.heap.size ≤ q) s.heap H locs → lv_has ls 17 [] → W p l e room_1 s m #[Value.ref b] below meth c H locs cu su (lw_Z below #[Value.ref b] s) (F0 m 591 ls []) := by
                  intro S_65 cu su hcu H locs ls h hP hD hS hl
                  rw [hj66] at h
                  refine lv_iconst (v := (0 : Int32)) hx hb dL_law_591 (by decide) ?_
                  have hv : (0 : Int32) = 1 := (some_in h).trans hrs
                  rw [hv]
                  refine va_forget (fun q hq => hS.2.2 q hq) ?_
                  refine W.widen (k := 600130) (n := 7301080) (by omega) (by omega) ?_
                  exact lw_ret hx hb hr hlocks dL_law_592
                have L320 : ∀ (c2_67 : Int32) (c4_68 : Int32) (c5_69 : Int32) (k71 : SX11 → Option (Int32)) (hk71 : ∀ (S_72 : SX11) (cu su : Nat) (hcu : cu + (0) ≤ 600130 ∧ su + 12 * (0) ≤ 7301080) (H : Heap) (locs : List Loc) (ls : Array Slot), k71 S_72 = some rs → va_P D vwCl (wX11 cy a o S_72) H → va_D (fun q : Nat => s.heap.size ≤ q) (wX11 cy a o S_72) → va_S (fun q : Nat => s.heap.size ≤ q) s.heap H locs → lv_has ls 17 [] → W p l e room_1 s m #[Value.ref b] below meth c H locs cu su (lw_Z below #[Value.ref b] s) (F0 m 591 ls [])) (k73 : SX11 → Option (Int32)) (hk73 : ∀ (S_74 : SX11) (cu su : Nat) (hcu : cu + (565442) ≤ 600130 ∧ su + 12 * (565442) ≤ 7301080) (H : Heap) (locs : List Loc) (ls : Array Slot), k73 S_74 = some rs → va_P D vwCl (wX11 cy a o S_74) H → va_D (fun q : Nat => s.heap.size ≤ q) (wX11 cy a o S_74) → va_S (fun q : Nat => s.heap.size ≤ q) s.heap H locs → lv_has ls 17 [(0, .ref b), (1, .ref (a o)), (2, .int c2_67), (4, .int c4_68), (5, .int c5_69)] → W p l e room_1 s m #[Value.ref b] below meth c H locs cu su (lw_Z below #[Value.ref b] s) (F0 m 599 ls [])) (f430 : Nat) (v6_293 : Int32) (S_70 : SX11) (cu su : Nat) (hcu : cu + (f430 * 3 + 565442) ≤ 600130 ∧ su + 12 * (f430 * 3 + 565442) ≤ 7301080) (H : Heap) (locs : List Loc) (ls : Array Slot), DL_law_L430 c9 c2_67 c4_68 c5_69 k71 k73 f430 v6_293 S_70 = some rs → va_P D vwCl (wX11 cy a o S_70) H → va_D (fun q : Nat => s.heap.size ≤ q) (wX11 cy a o S_70) → va_S (fun q : Nat => s.heap.size ≤ q) s.heap H locs → lv_has ls 17 [(0, .ref b), (1, .ref (a o)), (2, .int c2_67), (4, .int c4_68), (5, .int c5_69), (6, .int v6_293)] → W p l e room_1 s m #[Value.ref b] below meth c H locs cu su (lw_Z below #[Value.ref b] s) (F0 m 430 ls []) := by
                  intro c2_67 c4_68 c5_69 k71 hk71 k73 hk73 f430
                  induction f430 with
                  | zero =>
                    intro v6_293 S_70 cu su hcu H locs ls h hP hD hS hl
                    rw [DL_law_L430] at h
                    cases h
                  | succ f430 ih430 =>
                    intro v6_293 S_70 cu su hcu H locs ls h hP hD hS hl
                    rw [DL_law_L430] at h
                    refine lv_iload hx hb dL_law_430 (lv_at hl 5 rfl) ?_
                    refine lv_bipush (v := (8 : Int32)) hx hb dL_law_432 (by decide) ?_
                    refine lv_icmp_ge (tgt := 599) hx hb dL_law_434 (by decide) (fun cc => ?_) (fun cc => ?_)
                    · have h := ite_p cc h
                      exact hk73 S_70 cu su ⟨by omega, by omega⟩ H locs ls h hP hD hS (lv_sub hl [0, 1, 2, 3, 4] rfl)
                    · have h := ite_n cc h
                      refine lv_aload_n hx hb dL_law_437 rfl (lv_at hl 0 rfl) ?_
                      refine lv_bipush (v := (13 : Int32)) hx hb dL_law_438 (by decide) ?_
                      refine lv_iload hx hb dL_law_440 (lv_at hl 5 rfl) ?_
                      refine lv_iadd hx hb dL_law_442 ?_
                      obtain ⟨g296, h⟩ := gd_some h
                      refine pcC (As := [.ref b, .int ((13 : Int32) + v6_293)]) (rest := []) (qL_cl l b L xs hL9 c9 hc9 ((13 : Int32) + v6_293) (of_decide_eq_true g296)) ⟨hx, hb, hml, hown, hts⟩ (va_cwS 2 hts gL_law_L_cell rfl rfl rfl (by decide +kernel) ⟨Nat.le_of_ble_eq_true rfl, Nat.le_of_ble_eq_true rfl⟩) hX hbl hS rfl hl.1 rfl (Nat.le_of_ble_eq_true rfl) dL_law_443 ⟨show cu ≤ 600130 by omega, show su ≤ 7301080 by omega⟩ ?_
                      refine lv_istore (lv' := [(7, .int (c9 ((13 : Int32) + v6_293))), (0, .ref b), (1, .ref (a o)), (2, .int c2_67), (4, .int c4_68), (5, .int c5_69), (6, .int v6_293)]) hx hb dL_law_446 hl (by decide) rfl (fun ls hl => ?_)
                      refine lv_iload hx hb dL_law_448 (lv_at hl 0 rfl) ?_
                      refine lv_iconst (v := (3 : Int32)) hx hb dL_law_450 (by decide) ?_
                      obtain ⟨x297, e298, h⟩ := bd_some h
                      refine pcS (As := [.int (c9 ((13 : Int32) + v6_293)), .int (3 : Int32)]) (rest := []) (qL_low l D cy  (c9 ((13 : Int32) + v6_293)) (3 : Int32) x297 e298) ⟨hx, hb, hml, hown, hts⟩ (va_cwS 2 hts gL_law_L_low rfl rfl rfl (by decide +kernel) ⟨Nat.le_of_ble_eq_true rfl, Nat.le_of_ble_eq_true rfl⟩) hG (hP.sub [] rfl) rfl hl.1 rfl (Nat.le_of_ble_eq_true rfl) dL_law_451 ⟨show cu ≤ 600130 by omega, show su ≤ 7301080 by omega⟩ ?_
                      refine lv_istore (lv' := [(8, .int x297), (7, .int (c9 ((13 : Int32) + v6_293))), (0, .ref b), (1, .ref (a o)), (2, .int c2_67), (4, .int c4_68), (5, .int c5_69), (6, .int v6_293)]) hx hb dL_law_454 hl (by decide) rfl (fun ls hl => ?_)
                      refine lv_iload hx hb dL_law_456 (lv_at hl 1 rfl) ?_
                      refine lv_iconst (v := (2 : Int32)) hx hb dL_law_458 (by decide) ?_
                      refine lv_ishr hx hb dL_law_459 ?_
                      refine lv_bipush (v := (6 : Int32)) hx hb dL_law_460 (by decide) ?_
                      obtain ⟨x299, e300, h⟩ := bd_some h
                      refine pcS (As := [.int ((c9 ((13 : Int32) + v6_293)) >>> ((2 : Int32) &&& 31)), .int (6 : Int32)]) (rest := []) (qL_low l D cy  ((c9 ((13 : Int32) + v6_293)) >>> ((2 : Int32) &&& 31)) (6 : Int32) x299 e300) ⟨hx, hb, hml, hown, hts⟩ (va_cwS 2 hts gL_law_L_low rfl rfl rfl (by decide +kernel) ⟨Nat.le_of_ble_eq_true rfl, Nat.le_of_ble_eq_true rfl⟩) hG (hP.sub [] rfl) rfl hl.1 rfl (Nat.le_of_ble_eq_true rfl) dL_law_462 ⟨show cu ≤ 600130 by omega, show su ≤ 7301080 by omega⟩ ?_
                      refine lv_istore (lv' := [(9, .int x299), (8, .int x297), (7, .int (c9 ((13 : Int32) + v6_293))), (0, .ref b), (1, .ref (a o)), (2, .int c2_67), (4, .int c4_68), (5, .int c5_69), (6, .int v6_293)]) hx hb dL_law_465 hl (by decide) rfl (fun ls hl => ?_)
                      refine lv_iload hx hb dL_law_467 (lv_at hl 0 rfl) ?_
                      obtain ⟨j303, hj303, h⟩ := jn_elim h
                      have Jj303 : ∀ (x301 : Int32) (S_302 : SX11) (cu su : Nat) (hcu : cu + (f430 * 3 + 565445) ≤ 600130 ∧ su + 12 * (f430 * 3 + 565445) ≤ 7301080) (H : Heap) (locs : List Loc) (ls : Array Slot), j303 x301 S_302 = some rs → va_P D vwCl (wX11 cy a o S_302) H → va_D (fun q : Nat => s.heap.size ≤ q) (wX11 cy a o S_302) → va_S (fun q : Nat => s.heap.size ≤ q) s.heap H locs → lv_has ls 17 [(0, .ref b), (1, .ref (a o)), (2, .int c2_67), (4, .int c4_68), (5, .int c5_69), (6, .int v6_293), (8, .int x297), (9, .int x299)] → W p l e room_1 s m #[Value.ref b] below meth c H locs cu su (lw_Z below #[Value.ref b] s) (F0 m 551 ls [.int x301]) := by
                        intro x301 S_302 cu su hcu H locs ls h hP hD hS hl
                        rw [hj303] at h
                        refine lv_istore (lv' := [(10, .int x301), (0, .ref b), (1, .ref (a o)), (2, .int c2_67), (4, .int c4_68), (5, .int c5_69), (6, .int v6_293), (8, .int x297), (9, .int x299)]) hx hb dL_law_551 hl (by decide) rfl (fun ls hl => ?_)
                        refine lv_aload_n hx hb dL_law_553 rfl (lv_at hl 2 rfl) ?_
                        refine lv_iload hx hb dL_law_554 (lv_at hl 7 rfl) ?_
                        refine lv_iload hx hb dL_law_556 (lv_at hl 8 rfl) ?_
                        obtain ⟨x304, e305, h⟩ := bd_some h
                        refine lcW (Re := []) (S := S_302) (rs := (x304, S_302)) (c2 := (cu + 1)) (s2 := (su + 6)) hG hGX hN hP hD hS hA (fun h1 h2 => vx_runSX (As := [.ref (a o), .int x297, .int x299]) (rest := []) ⟨hx, hb, hml, hown, hts⟩ (qL_rule l hl9 D cy tt a o S_302 x297 x299 (H).size x304 e305) (vx_cwSW 3 hts gL_law_L_rule rfl rfl rfl (by decide +kernel) ⟨Nat.le_of_ble_eq_true rfl, Nat.le_of_ble_eq_true rfl⟩) ⟨h1, h2⟩ rfl rfl hl.1 rfl (lv_room (Nat.le_of_ble_eq_true rfl)) dL_law_558 ⟨show cu + 1 ≤ 600130 by omega, show su + 6 ≤ 7301080 by omega⟩) rfl rfl (fun H locs hP hD hS => ?_)
                        refine lv_istore (lv' := [(11, .int x304), (10, .int x301), (0, .ref b), (1, .ref (a o)), (2, .int c2_67), (4, .int c4_68), (5, .int c5_69), (6, .int v6_293), (8, .int x297), (9, .int x299)]) hx hb dL_law_561 hl (by decide) rfl (fun ls hl => ?_)
                        refine lv_aload_n hx hb dL_law_563 rfl (lv_at hl 3 rfl) ?_
                        refine lv_iload hx hb dL_law_564 (lv_at hl 8 rfl) ?_
                        refine lv_iload hx hb dL_law_566 (lv_at hl 9 rfl) ?_
                        refine lv_iload hx hb dL_law_568 (lv_at hl 1 rfl) ?_
                        obtain ⟨x306, e307, h⟩ := bd_some h
                        refine lcW (Re := []) (S := S_302) (rs := x306) (c2 := (cu + 2)) (s2 := (su + 12)) hG hGX hN hP hD hS hA (fun h1 h2 => vx_runSX (As := [.ref (a o), .int x297, .int x299, .int x301]) (rest := []) ⟨hx, hb, hml, hown, hts⟩ (qL_setRule l hl9 D cy tt a o S_302 x297 x299 x301 (H).size x306 e307) (vx_cwSW 4 hts gL_law_L_setRule rfl rfl rfl (by decide +kernel) ⟨Nat.le_of_ble_eq_true rfl, Nat.le_of_ble_eq_true rfl⟩) ⟨h1, h2⟩ rfl rfl hl.1 rfl (lv_room (Nat.le_of_ble_eq_true rfl)) dL_law_570 ⟨show (cu + 1) + 1 ≤ 600130 by omega, show (su + 6) + 6 ≤ 7301080 by omega⟩) rfl rfl (fun H locs hP hD hS => ?_)
                        refine lv_iload hx hb dL_law_573 (lv_at hl 0 rfl) ?_
                        refine lv_icmp_ne (tgt := 591) hx hb dL_law_575 (by decide) (fun cc => ?_) (fun cc => ?_)
                        · have h := ite_n cc h
                          exact hk71 x306.2 (cu + 2) (su + 12) ⟨by omega, by omega⟩ H locs ls h hP hD hS (lv_sub hl [] rfl)
                        · have h := ite_p cc h
                          refine lv_aload_n hx hb dL_law_578 rfl (lv_at hl 3 rfl) ?_
                          refine lv_iload hx hb dL_law_579 (lv_at hl 8 rfl) ?_
                          refine lv_iload hx hb dL_law_581 (lv_at hl 9 rfl) ?_
                          obtain ⟨x308, e309, h⟩ := bd_some h
                          refine lcW (Re := []) (S := x306.2) (rs := (x308, x306.2)) (c2 := (cu + 3)) (s2 := (su + 18)) hG hGX hN hP hD hS hA (fun h1 h2 => vx_runSX (As := [.ref (a o), .int x297, .int x299]) (rest := []) ⟨hx, hb, hml, hown, hts⟩ (qL_rule l hl9 D cy tt a o x306.2 x297 x299 (H).size x308 e309) (vx_cwSW 3 hts gL_law_L_rule rfl rfl rfl (by decide +kernel) ⟨Nat.le_of_ble_eq_true rfl, Nat.le_of_ble_eq_true rfl⟩) ⟨h1, h2⟩ rfl rfl hl.1 rfl (lv_room (Nat.le_of_ble_eq_true rfl)) dL_law_583 ⟨show (cu + 2) + 1 ≤ 600130 by omega, show (su + 12) + 6 ≤ 7301080 by omega⟩) rfl rfl (fun H locs hP hD hS => ?_)
                          refine lv_iload hx hb dL_law_586 (lv_at hl 1 rfl) ?_
                          refine lv_icmp_eq (tgt := 593) hx hb dL_law_588 (by decide) (fun cc => ?_) (fun cc => ?_)
                          · have h := ite_p cc h
                            refine lv_iinc (v := (v6_293 + (1 : Int32))) (lv' := [(6, .int (v6_293 + (1 : Int32))), (11, .int x304), (10, .int x301), (0, .ref b), (1, .ref (a o)), (2, .int c2_67), (4, .int c4_68), (5, .int c5_69), (8, .int x297), (9, .int x299)]) hx hb dL_law_593 hl (k := 7) rfl (by rfl) (by decide) rfl (fun ls hl => ?_)
                            refine lv_goto (tgt := 430) hx hb dL_law_596 (by decide) ?_
                            exact ih430 (v6_293 + (1 : Int32)) x306.2 (cu + 3) (su + 18) ⟨by omega, by omega⟩ H locs ls h hP hD hS (lv_sub hl [3, 4, 5, 6, 7, 0] rfl)
                          · have h := ite_n cc h
                            exact hk71 x306.2 (cu + 3) (su + 18) ⟨by omega, by omega⟩ H locs ls h hP hD hS (lv_sub hl [] rfl)
                      refine lv_if_ne (tgt := 486) hx hb dL_law_469 (by decide) (fun cc => ?_) (fun cc => ?_)
                      · have h := ite_n cc h
                        refine lv_iload hx hb dL_law_486 (lv_at hl 0 rfl) ?_
                        refine lv_iconst (v := (1 : Int32)) hx hb dL_law_488 (by decide) ?_
                        refine lv_icmp_ne (tgt := 507) hx hb dL_law_489 (by decide) (fun cc => ?_) (fun cc => ?_)
                        · have h := ite_n cc h
                          refine lv_iload hx hb dL_law_507 (lv_at hl 0 rfl) ?_
                          refine lv_iconst (v := (2 : Int32)) hx hb dL_law_509 (by decide) ?_
                          refine lv_icmp_ne (tgt := 524) hx hb dL_law_510 (by decide) (fun cc => ?_) (fun cc => ?_)
                          · have h := ite_n cc h
                            refine lv_iload hx hb dL_law_524 (lv_at hl 0 rfl) ?_
                            refine lv_iconst (v := (4 : Int32)) hx hb dL_law_526 (by decide) ?_
                            refine lv_icmp_ne (tgt := 541) hx hb dL_law_527 (by decide) (fun cc => ?_) (fun cc => ?_)
                            · have h := ite_n cc h
                              refine lv_iconst (v := (1 : Int32)) hx hb dL_law_541 (by decide) ?_
                              refine lv_iload hx hb dL_law_542 (lv_at hl 2 rfl) ?_
                              refine lv_iconst (v := (5 : Int32)) hx hb dL_law_544 (by decide) ?_
                              refine lv_ishr hx hb dL_law_545 ?_
                              refine lv_iconst (v := (4 : Int32)) hx hb dL_law_546 (by decide) ?_
                              obtain ⟨x310, e311, h⟩ := bd_some h
                              refine pcS (As := [.int ((c9 ((13 : Int32) + v6_293)) >>> ((5 : Int32) &&& 31)), .int (4 : Int32)]) (rest := [.int (1 : Int32)]) (qL_low l D cy  ((c9 ((13 : Int32) + v6_293)) >>> ((5 : Int32) &&& 31)) (4 : Int32) x310 e311) ⟨hx, hb, hml, hown, hts⟩ (va_cwS 2 hts gL_law_L_low rfl rfl rfl (by decide +kernel) ⟨Nat.le_of_ble_eq_true rfl, Nat.le_of_ble_eq_true rfl⟩) hG (hP.sub [] rfl) rfl hl.1 rfl (Nat.le_of_ble_eq_true rfl) dL_law_547 ⟨show cu ≤ 600130 by omega, show su ≤ 7301080 by omega⟩ ?_
                              refine lv_iadd hx hb dL_law_550 ?_
                              exact Jj303 ((1 : Int32) + x310) S_70 cu su ⟨by omega, by omega⟩ H locs ls h hP hD hS (lv_sub hl [3, 4, 5, 6, 7, 8, 1, 0] rfl)
                            · have h := ite_p cc h
                              refine lv_iload hx hb dL_law_530 (lv_at hl 2 rfl) ?_
                              refine lv_iconst (v := (5 : Int32)) hx hb dL_law_532 (by decide) ?_
                              refine lv_ishr hx hb dL_law_533 ?_
                              refine lv_iconst (v := (2 : Int32)) hx hb dL_law_534 (by decide) ?_
                              obtain ⟨x312, e313, h⟩ := bd_some h
                              refine pcS (As := [.int ((c9 ((13 : Int32) + v6_293)) >>> ((5 : Int32) &&& 31)), .int (2 : Int32)]) (rest := []) (qL_low l D cy  ((c9 ((13 : Int32) + v6_293)) >>> ((5 : Int32) &&& 31)) (2 : Int32) x312 e313) ⟨hx, hb, hml, hown, hts⟩ (va_cwS 2 hts gL_law_L_low rfl rfl rfl (by decide +kernel) ⟨Nat.le_of_ble_eq_true rfl, Nat.le_of_ble_eq_true rfl⟩) hG (hP.sub [] rfl) rfl hl.1 rfl (Nat.le_of_ble_eq_true rfl) dL_law_535 ⟨show cu ≤ 600130 by omega, show su ≤ 7301080 by omega⟩ ?_
                              refine lv_goto (tgt := 551) hx hb dL_law_538 (by decide) ?_
                              exact Jj303 x312 S_70 cu su ⟨by omega, by omega⟩ H locs ls h hP hD hS (lv_sub hl [3, 4, 5, 6, 7, 8, 1, 0] rfl)
                          · have h := ite_p cc h
                            refine lv_iload hx hb dL_law_513 (lv_at hl 2 rfl) ?_
                            refine lv_iconst (v := (5 : Int32)) hx hb dL_law_515 (by decide) ?_
                            refine lv_ishr hx hb dL_law_516 ?_
                            refine lv_iconst (v := (4 : Int32)) hx hb dL_law_517 (by decide) ?_
                            obtain ⟨x314, e315, h⟩ := bd_some h
                            refine pcS (As := [.int ((c9 ((13 : Int32) + v6_293)) >>> ((5 : Int32) &&& 31)), .int (4 : Int32)]) (rest := []) (qL_low l D cy  ((c9 ((13 : Int32) + v6_293)) >>> ((5 : Int32) &&& 31)) (4 : Int32) x314 e315) ⟨hx, hb, hml, hown, hts⟩ (va_cwS 2 hts gL_law_L_low rfl rfl rfl (by decide +kernel) ⟨Nat.le_of_ble_eq_true rfl, Nat.le_of_ble_eq_true rfl⟩) hG (hP.sub [] rfl) rfl hl.1 rfl (Nat.le_of_ble_eq_true rfl) dL_law_518 ⟨show cu ≤ 600130 by omega, show su ≤ 7301080 by omega⟩ ?_
                            refine lv_goto (tgt := 551) hx hb dL_law_521 (by decide) ?_
                            exact Jj303 x314 S_70 cu su ⟨by omega, by omega⟩ H locs ls h hP hD hS (lv_sub hl [3, 4, 5, 6, 7, 8, 1, 0] rfl)
                        · have h := ite_p cc h
                          refine lv_bipush (v := (30 : Int32)) hx hb dL_law_492 (by decide) ?_
                          refine lv_iload hx hb dL_law_494 (lv_at hl 2 rfl) ?_
                          refine lv_iconst (v := (5 : Int32)) hx hb dL_law_496 (by decide) ?_
                          refine lv_ishr hx hb dL_law_497 ?_
                          refine lv_bipush (v := (100 : Int32)) hx hb dL_law_498 (by decide) ?_
                          obtain ⟨x316, e317, h⟩ := bd_some h
                          refine pcS (As := [.int ((c9 ((13 : Int32) + v6_293)) >>> ((5 : Int32) &&& 31)), .int (100 : Int32)]) (rest := [.int (30 : Int32)]) (qL_low l D cy  ((c9 ((13 : Int32) + v6_293)) >>> ((5 : Int32) &&& 31)) (100 : Int32) x316 e317) ⟨hx, hb, hml, hown, hts⟩ (va_cwS 2 hts gL_law_L_low rfl rfl rfl (by decide +kernel) ⟨Nat.le_of_ble_eq_true rfl, Nat.le_of_ble_eq_true rfl⟩) hG (hP.sub [] rfl) rfl hl.1 rfl (Nat.le_of_ble_eq_true rfl) dL_law_500 ⟨show cu ≤ 600130 by omega, show su ≤ 7301080 by omega⟩ ?_
                          refine lv_iadd hx hb dL_law_503 ?_
                          refine lv_goto (tgt := 551) hx hb dL_law_504 (by decide) ?_
                          exact Jj303 ((30 : Int32) + x316) S_70 cu su ⟨by omega, by omega⟩ H locs ls h hP hD hS (lv_sub hl [3, 4, 5, 6, 7, 8, 1, 0] rfl)
                      · have h := ite_p cc h
                        refine lv_iconst (v := (1 : Int32)) hx hb dL_law_472 (by decide) ?_
                        refine lv_iload hx hb dL_law_473 (lv_at hl 2 rfl) ?_
                        refine lv_iconst (v := (5 : Int32)) hx hb dL_law_475 (by decide) ?_
                        refine lv_ishr hx hb dL_law_476 ?_
                        refine lv_bipush (v := (12 : Int32)) hx hb dL_law_477 (by decide) ?_
                        obtain ⟨x318, e319, h⟩ := bd_some h
                        refine pcS (As := [.int ((c9 ((13 : Int32) + v6_293)) >>> ((5 : Int32) &&& 31)), .int (12 : Int32)]) (rest := [.int (1 : Int32)]) (qL_low l D cy  ((c9 ((13 : Int32) + v6_293)) >>> ((5 : Int32) &&& 31)) (12 : Int32) x318 e319) ⟨hx, hb, hml, hown, hts⟩ (va_cwS 2 hts gL_law_L_low rfl rfl rfl (by decide +kernel) ⟨Nat.le_of_ble_eq_true rfl, Nat.le_of_ble_eq_true rfl⟩) hG (hP.sub [] rfl) rfl hl.1 rfl (Nat.le_of_ble_eq_true rfl) dL_law_479 ⟨show cu ≤ 600130 by omega, show su ≤ 7301080 by omega⟩ ?_
                        refine lv_iadd hx hb dL_law_482 ?_
                        refine lv_goto (tgt := 551) hx hb dL_law_483 (by decide) ?_
                        exact Jj303 ((1 : Int32) + x318) S_70 cu su ⟨by omega, by omega⟩ H locs ls h hP hD hS (lv_sub hl [3, 4, 5, 6, 7, 8, 1, 0] rfl)
                refine L320 (c9 (0 : Int32)) ((2 : Int32) + x28) x51 _ Jj66 _ ?_ 9 (0 : Int32) S_64 cu su ⟨by omega, by omega⟩ H locs ls h hP hD hS (lv_sub hl [1, 2, 3, 4, 5, 0] rfl)
                intro S_75 cu su hcu H locs ls h hP hD hS hl
                refine lv_aload_n hx hb dL_law_599 rfl (lv_at hl 1 rfl) ?_
                obtain ⟨x76, e77, h⟩ := bd_some h
                refine lcW (Re := []) (S := S_75) (rs := (x76, S_75)) (c2 := (cu + 10868)) (s2 := (su + 130416)) hG hGX hN hP hD hS hA (fun h1 h2 => vx_runS (As := [.ref (a o)]) (rest := []) ⟨hx, hb, hml, hown, hts⟩ (qL_flaws l hl9 D cy tt a o S_75  (H).size x76 e77) (va_cwS 1 hts gL_law_L_flaws rfl rfl rfl (by decide +kernel) ⟨Nat.le_of_ble_eq_true rfl, Nat.le_of_ble_eq_true rfl⟩) ⟨h1, h2⟩ rfl rfl hl.1 rfl (lv_room (Nat.le_of_ble_eq_true rfl)) dL_law_600 ⟨show cu + 10868 ≤ 600130 by omega, show su + 130416 ≤ 7301080 by omega⟩) rfl rfl (fun H locs hP hD hS => ?_)
                obtain ⟨j79, hj79, h⟩ := jn_elim h
                have Jj79 : ∀ (S_78 : SX11) (cu su : Nat) (hcu : cu + (0) ≤ 600130 ∧ su + 12 * (0) ≤ 7301080) (H : Heap) (locs : List Loc) (ls : Array Slot), j79 S_78 = some rs → va_P D vwCl (wX11 cy a o S_78) H → va_D (fun q : Nat => s.heap.size ≤ q) (wX11 cy a o S_78) → va_S (fun q : Nat => s.heap.size ≤ q) s.heap H locs → lv_has ls 17 [] → W p l e room_1 s m #[Value.ref b] below meth c H locs cu su (lw_Z below #[Value.ref b] s) (F0 m 613 ls []) := by
                  intro S_78 cu su hcu H locs ls h hP hD hS hl
                  rw [hj79] at h
                  refine lv_iconst (v := (0 : Int32)) hx hb dL_law_613 (by decide) ?_
                  have hv : (0 : Int32) = 1 := (some_in h).trans hrs
                  rw [hv]
                  refine va_forget (fun q hq => hS.2.2 q hq) ?_
                  refine W.widen (k := 600130) (n := 7301080) (by omega) (by omega) ?_
                  exact lw_ret hx hb hr hlocks dL_law_614
                refine lv_if_eq (tgt := 613) hx hb dL_law_603 (by decide) (fun cc => ?_) (fun cc => ?_)
                · have h := ite_p cc h
                  exact Jj79 S_75 (cu + 10868) (su + 130416) ⟨by omega, by omega⟩ H locs ls h hP hD hS (lv_sub hl [] rfl)
                · have h := ite_n cc h
                  refine lv_aload_n hx hb dL_law_606 rfl (lv_at hl 1 rfl) ?_
                  obtain ⟨x80, e81, h⟩ := bd_some h
                  refine lcW (Re := []) (S := S_75) (rs := (x80, S_75)) (c2 := (cu + 11542)) (s2 := (su + 138504)) hG hGX hN hP hD hS hA (fun h1 h2 => vx_runS (As := [.ref (a o)]) (rest := []) ⟨hx, hb, hml, hown, hts⟩ (qL_sound l hl9 D cy tt a o S_75  (H).size x80 e81) (va_cwS 1 hts gL_law_L_sound rfl rfl rfl (by decide +kernel) ⟨Nat.le_of_ble_eq_true rfl, Nat.le_of_ble_eq_true rfl⟩) ⟨h1, h2⟩ rfl rfl hl.1 rfl (lv_room (Nat.le_of_ble_eq_true rfl)) dL_law_607 ⟨show (cu + 10868) + 674 ≤ 600130 by omega, show (su + 130416) + 8088 ≤ 7301080 by omega⟩) rfl rfl (fun H locs hP hD hS => ?_)
                  refine lv_if_ne (tgt := 615) hx hb dL_law_610 (by decide) (fun cc => ?_) (fun cc => ?_)
                  · have h := ite_n cc h
                    refine lv_iconst (v := (0 : Int32)) hx hb dL_law_615 (by decide) ?_
                    refine lv_istore (lv' := [(6, .int (0 : Int32)), (0, .ref b), (1, .ref (a o)), (2, .int (c9 (0 : Int32))), (4, .int ((2 : Int32) + x28)), (5, .int x51)]) hx hb dL_law_616 hl (by decide) rfl (fun ls hl => ?_)
                    refine lv_iconst (v := (0 : Int32)) hx hb dL_law_618 (by decide) ?_
                    refine lv_istore (lv' := [(7, .int (0 : Int32)), (6, .int (0 : Int32)), (0, .ref b), (1, .ref (a o)), (2, .int (c9 (0 : Int32))), (4, .int ((2 : Int32) + x28)), (5, .int x51)]) hx hb dL_law_619 hl (by decide) rfl (fun ls hl => ?_)
                    have L292 : ∀ (c2_82 : Int32) (c4_83 : Int32) (c5_84 : Int32) (k86 : Int32 → SX11 → Option (Int32)) (hk86 : ∀ (v6_87 : Int32) (S_88 : SX11) (cu su : Nat) (hcu : cu + (553889) ≤ 600130 ∧ su + 12 * (553889) ≤ 7301080) (H : Heap) (locs : List Loc) (ls : Array Slot), k86 v6_87 S_88 = some rs → va_P D vwCl (wX11 cy a o S_88) H → va_D (fun q : Nat => s.heap.size ≤ q) (wX11 cy a o S_88) → va_S (fun q : Nat => s.heap.size ≤ q) s.heap H locs → lv_has ls 17 [(0, .ref b), (1, .ref (a o)), (2, .int c2_82), (4, .int c4_83), (5, .int c5_84), (6, .int v6_87)] → W p l e room_1 s m #[Value.ref b] below meth c H locs cu su (lw_Z below #[Value.ref b] s) (F0 m 654 ls [])) (f621 : Nat) (v6_286 : Int32) (v7_287 : Int32) (S_85 : SX11) (cu su : Nat) (hcu : cu + (f621 * 1 + 553889) ≤ 600130 ∧ su + 12 * (f621 * 1 + 553889) ≤ 7301080) (H : Heap) (locs : List Loc) (ls : Array Slot), DL_law_L621 c9 c2_82 c4_83 c5_84 k86 f621 v6_286 v7_287 S_85 = some rs → va_P D vwCl (wX11 cy a o S_85) H → va_D (fun q : Nat => s.heap.size ≤ q) (wX11 cy a o S_85) → va_S (fun q : Nat => s.heap.size ≤ q) s.heap H locs → lv_has ls 17 [(0, .ref b), (1, .ref (a o)), (2, .int c2_82), (4, .int c4_83), (5, .int c5_84), (6, .int v6_286), (7, .int v7_287)] → W p l e room_1 s m #[Value.ref b] below meth c H locs cu su (lw_Z below #[Value.ref b] s) (F0 m 621 ls []) := by
                      intro c2_82 c4_83 c5_84 k86 hk86 f621
                      induction f621 with
                      | zero =>
                        intro v6_286 v7_287 S_85 cu su hcu H locs ls h hP hD hS hl
                        rw [DL_law_L621] at h
                        cases h
                      | succ f621 ih621 =>
                        intro v6_286 v7_287 S_85 cu su hcu H locs ls h hP hD hS hl
                        rw [DL_law_L621] at h
                        refine lv_iload hx hb dL_law_621 (lv_at hl 6 rfl) ?_
                        refine lv_iload hx hb dL_law_623 (lv_at hl 3 rfl) ?_
                        refine lv_icmp_ge (tgt := 654) hx hb dL_law_625 (by decide) (fun cc => ?_) (fun cc => ?_)
                        · have h := ite_p cc h
                          exact hk86 v6_286 S_85 cu su ⟨by omega, by omega⟩ H locs ls h hP hD hS (lv_sub hl [0, 1, 2, 3, 4, 5] rfl)
                        · have h := ite_n cc h
                          refine lv_iload hx hb dL_law_628 (lv_at hl 5 rfl) ?_
                          refine lv_aload_n hx hb dL_law_630 rfl (lv_at hl 1 rfl) ?_
                          refine lv_iload hx hb dL_law_631 (lv_at hl 6 rfl) ?_
                          refine lv_iconst (v := (0 : Int32)) hx hb dL_law_633 (by decide) ?_
                          obtain ⟨x288, e289, h⟩ := bd_some h
                          refine lcW (Re := []) (S := S_85) (rs := (x288, S_85)) (c2 := (cu + 1)) (s2 := (su + 6)) hG hGX hN hP hD hS hA (fun h1 h2 => vx_runSX (As := [.ref (a o), .int v7_287, .int (0 : Int32)]) (rest := [.int v6_286]) ⟨hx, hb, hml, hown, hts⟩ (qL_flaw l hl9 D cy tt a o S_85 v7_287 (0 : Int32) (H).size x288 e289) (vx_cwSW 3 hts gL_law_L_flaw rfl rfl rfl (by decide +kernel) ⟨Nat.le_of_ble_eq_true rfl, Nat.le_of_ble_eq_true rfl⟩) ⟨h1, h2⟩ rfl rfl hl.1 rfl (lv_room (Nat.le_of_ble_eq_true rfl)) dL_law_634 ⟨show cu + 1 ≤ 600130 by omega, show su + 6 ≤ 7301080 by omega⟩) rfl rfl (fun H locs hP hD hS => ?_)
                          obtain ⟨j291, hj291, h⟩ := jn_elim h
                          have Jj291 : ∀ (x290 : Int32) (cu su : Nat) (hcu : cu + (f621 * 1 + 553889) ≤ 600130 ∧ su + 12 * (f621 * 1 + 553889) ≤ 7301080) (ls : Array Slot), j291 x290 = some rs → lv_has ls 17 [(0, .ref b), (1, .ref (a o)), (2, .int c2_82), (4, .int c4_83), (5, .int c5_84), (7, .int v7_287)] → W p l e room_1 s m #[Value.ref b] below meth c H locs cu su (lw_Z below #[Value.ref b] s) (F0 m 645 ls [.int x290, .int v6_286]) := by
                            intro x290 cu su hcu ls h hl
                            rw [hj291] at h
                            refine lv_iadd hx hb dL_law_645 ?_
                            refine lv_istore (lv' := [(6, .int (v6_286 + x290)), (0, .ref b), (1, .ref (a o)), (2, .int c2_82), (4, .int c4_83), (5, .int c5_84), (7, .int v7_287)]) hx hb dL_law_646 hl (by decide) rfl (fun ls hl => ?_)
                            refine lv_iinc (v := (v7_287 + (1 : Int32))) (lv' := [(7, .int (v7_287 + (1 : Int32))), (6, .int (v6_286 + x290)), (0, .ref b), (1, .ref (a o)), (2, .int c2_82), (4, .int c4_83), (5, .int c5_84)]) hx hb dL_law_648 hl (k := 6) rfl (by rfl) (by decide) rfl (fun ls hl => ?_)
                            refine lv_goto (tgt := 621) hx hb dL_law_651 (by decide) ?_
                            exact ih621 (v6_286 + x290) (v7_287 + (1 : Int32)) S_85 cu su ⟨by omega, by omega⟩ H locs ls h hP hD hS (lv_sub hl [2, 3, 4, 5, 6, 1, 0] rfl)
                          refine lv_if_ne (tgt := 644) hx hb dL_law_637 (by decide) (fun cc => ?_) (fun cc => ?_)
                          · have h := ite_n cc h
                            refine lv_iconst (v := (0 : Int32)) hx hb dL_law_644 (by decide) ?_
                            exact Jj291 (0 : Int32) (cu + 1) (su + 6) ⟨by omega, by omega⟩ ls h (lv_sub hl [0, 1, 2, 3, 4, 6] rfl)
                          · have h := ite_p cc h
                            refine lv_iconst (v := (1 : Int32)) hx hb dL_law_640 (by decide) ?_
                            refine lv_goto (tgt := 645) hx hb dL_law_641 (by decide) ?_
                            exact Jj291 (1 : Int32) (cu + 1) (su + 6) ⟨by omega, by omega⟩ ls h (lv_sub hl [0, 1, 2, 3, 4, 6] rfl)
                    refine L292 (c9 (0 : Int32)) ((2 : Int32) + x28) x51 _ ?_ 11 (0 : Int32) (0 : Int32) S_75 (cu + 11542) (su + 138504) ⟨by omega, by omega⟩ H locs ls h hP hD hS (lv_sub hl [2, 3, 4, 5, 6, 1, 0] rfl)
                    intro v6_89 S_90 cu su hcu H locs ls h hP hD hS hl
                    refine lv_aload_n hx hb dL_law_654 rfl (lv_at hl 1 rfl) ?_
                    refine lv_iload_n hx hb dL_law_655 rfl (lv_at hl 2 rfl) ?_
                    refine lv_iconst (v := (2 : Int32)) hx hb dL_law_656 (by decide) ?_
                    refine lv_ishr hx hb dL_law_657 ?_
                    refine lv_ldc (v := (2147483647 : Int32)) hx hb hown (hts (.constant RL 8 (2147483647 : Int32)) (by decide +kernel)) dL_law_658 ?_
                    refine lv_iand hx hb dL_law_660 ?_
                    obtain ⟨x91, e92, h⟩ := bd_some h
                    refine lcW (Re := []) (S := S_90) (rs := x91) (c2 := (cu + 1)) (s2 := (su + 6)) hG hGX hN hP hD hS hA (fun h1 h2 => vx_runSX (As := [.ref (a o), .int (((c9 (0 : Int32)) >>> ((2 : Int32) &&& 31)) &&& (2147483647 : Int32))]) (rest := []) ⟨hx, hb, hml, hown, hts⟩ (qL_begin l hl9 D cy tt a o S_90 (((c9 (0 : Int32)) >>> ((2 : Int32) &&& 31)) &&& (2147483647 : Int32)) (H).size x91 e92) (vx_cwSW 2 hts gL_law_L_begin rfl rfl rfl (by decide +kernel) ⟨Nat.le_of_ble_eq_true rfl, Nat.le_of_ble_eq_true rfl⟩) ⟨h1, h2⟩ rfl rfl hl.1 rfl (lv_room (Nat.le_of_ble_eq_true rfl)) dL_law_661 ⟨show cu + 1 ≤ 600130 by omega, show su + 6 ≤ 7301080 by omega⟩) rfl rfl (fun H locs hP hD hS => ?_)
                    refine lv_iload hx hb dL_law_664 (lv_at hl 5 rfl) ?_
                    obtain ⟨j94, hj94, h⟩ := jn_elim h
                    have Jj94 : ∀ (S_93 : SX11) (cu su : Nat) (hcu : cu + (0) ≤ 600130 ∧ su + 12 * (0) ≤ 7301080) (H : Heap) (locs : List Loc) (ls : Array Slot), j94 S_93 = some rs → va_P D vwCl (wX11 cy a o S_93) H → va_D (fun q : Nat => s.heap.size ≤ q) (wX11 cy a o S_93) → va_S (fun q : Nat => s.heap.size ≤ q) s.heap H locs → lv_has ls 17 [] → W p l e room_1 s m #[Value.ref b] below meth c H locs cu su (lw_Z below #[Value.ref b] s) (F0 m 716 ls []) := by
                      intro S_93 cu su hcu H locs ls h hP hD hS hl
                      rw [hj94] at h
                      refine lv_iconst (v := (0 : Int32)) hx hb dL_law_716 (by decide) ?_
                      have hv : (0 : Int32) = 1 := (some_in h).trans hrs
                      rw [hv]
                      refine va_forget (fun q hq => hS.2.2 q hq) ?_
                      refine W.widen (k := 600130) (n := 7301080) (by omega) (by omega) ?_
                      exact lw_ret hx hb hr hlocks dL_law_717
                    refine lv_icmp_ne (tgt := 716) hx hb dL_law_666 (by decide) (fun cc => ?_) (fun cc => ?_)
                    · have h := ite_n cc h
                      exact Jj94 x91.2 (cu + 1) (su + 6) ⟨by omega, by omega⟩ H locs ls h hP hD hS (lv_sub hl [] rfl)
                    · have h := ite_p cc h
                      refine lv_aload_n hx hb dL_law_669 rfl (lv_at hl 1 rfl) ?_
                      refine lv_bipush (v := (8 : Int32)) hx hb dL_law_670 (by decide) ?_
                      obtain ⟨x95, e96, h⟩ := bd_some h
                      refine lcW (Re := []) (S := x91.2) (rs := (x95, x91.2)) (c2 := (cu + 2)) (s2 := (su + 12)) hG hGX hN hP hD hS hA (fun h1 h2 => vx_runSX (As := [.ref (a o), .int (8 : Int32)]) (rest := []) ⟨hx, hb, hml, hown, hts⟩ (qL_info l hl9 D cy tt a o x91.2 (8 : Int32) (H).size x95 e96) (vx_cwSW 2 hts gL_law_L_info rfl rfl rfl (by decide +kernel) ⟨Nat.le_of_ble_eq_true rfl, Nat.le_of_ble_eq_true rfl⟩) ⟨h1, h2⟩ rfl rfl hl.1 rfl (lv_room (Nat.le_of_ble_eq_true rfl)) dL_law_672 ⟨show (cu + 1) + 1 ≤ 600130 by omega, show (su + 6) + 6 ≤ 7301080 by omega⟩) rfl rfl (fun H locs hP hD hS => ?_)
                      refine lv_iload hx hb dL_law_675 (lv_at hl 5 rfl) ?_
                      refine lv_icmp_ne (tgt := 716) hx hb dL_law_677 (by decide) (fun cc => ?_) (fun cc => ?_)
                      · have h := ite_n cc h
                        exact Jj94 x91.2 (cu + 2) (su + 12) ⟨by omega, by omega⟩ H locs ls h hP hD hS (lv_sub hl [] rfl)
                      · have h := ite_p cc h
                        refine lv_aload_n hx hb dL_law_680 rfl (lv_at hl 1 rfl) ?_
                        refine lv_bipush (v := (7 : Int32)) hx hb dL_law_681 (by decide) ?_
                        obtain ⟨x97, e98, h⟩ := bd_some h
                        refine lcW (Re := []) (S := x91.2) (rs := (x97, x91.2)) (c2 := (cu + 3)) (s2 := (su + 18)) hG hGX hN hP hD hS hA (fun h1 h2 => vx_runSX (As := [.ref (a o), .int (7 : Int32)]) (rest := []) ⟨hx, hb, hml, hown, hts⟩ (qL_info l hl9 D cy tt a o x91.2 (7 : Int32) (H).size x97 e98) (vx_cwSW 2 hts gL_law_L_info rfl rfl rfl (by decide +kernel) ⟨Nat.le_of_ble_eq_true rfl, Nat.le_of_ble_eq_true rfl⟩) ⟨h1, h2⟩ rfl rfl hl.1 rfl (lv_room (Nat.le_of_ble_eq_true rfl)) dL_law_683 ⟨show (cu + 2) + 1 ≤ 600130 by omega, show (su + 12) + 6 ≤ 7301080 by omega⟩) rfl rfl (fun H locs hP hD hS => ?_)
                        refine lv_iload hx hb dL_law_686 (lv_at hl 5 rfl) ?_
                        refine lv_icmp_ne (tgt := 716) hx hb dL_law_688 (by decide) (fun cc => ?_) (fun cc => ?_)
                        · have h := ite_n cc h
                          exact Jj94 x91.2 (cu + 3) (su + 18) ⟨by omega, by omega⟩ H locs ls h hP hD hS (lv_sub hl [] rfl)
                        · have h := ite_p cc h
                          refine lv_aload_n hx hb dL_law_691 rfl (lv_at hl 1 rfl) ?_
                          refine lv_iconst (v := (3 : Int32)) hx hb dL_law_692 (by decide) ?_
                          obtain ⟨x99, e100, h⟩ := bd_some h
                          refine lcW (Re := []) (S := x91.2) (rs := (x99, x91.2)) (c2 := (cu + 4)) (s2 := (su + 24)) hG hGX hN hP hD hS hA (fun h1 h2 => vx_runSX (As := [.ref (a o), .int (3 : Int32)]) (rest := []) ⟨hx, hb, hml, hown, hts⟩ (qL_info l hl9 D cy tt a o x91.2 (3 : Int32) (H).size x99 e100) (vx_cwSW 2 hts gL_law_L_info rfl rfl rfl (by decide +kernel) ⟨Nat.le_of_ble_eq_true rfl, Nat.le_of_ble_eq_true rfl⟩) ⟨h1, h2⟩ rfl rfl hl.1 rfl (lv_room (Nat.le_of_ble_eq_true rfl)) dL_law_693 ⟨show (cu + 3) + 1 ≤ 600130 by omega, show (su + 18) + 6 ≤ 7301080 by omega⟩) rfl rfl (fun H locs hP hD hS => ?_)
                          refine lv_iload hx hb dL_law_696 (lv_at hl 5 rfl) ?_
                          obtain ⟨j102, hj102, h⟩ := jn_elim h
                          have Jj102 : ∀ (x101 : Int32) (cu su : Nat) (hcu : cu + (553885) ≤ 600130 ∧ su + 12 * (553885) ≤ 7301080) (ls : Array Slot), j102 x101 = some rs → lv_has ls 17 [(0, .ref b), (1, .ref (a o)), (4, .int ((2 : Int32) + x28)), (5, .int x51)] → W p l e room_1 s m #[Value.ref b] below meth c H locs cu su (lw_Z below #[Value.ref b] s) (F0 m 706 ls [.int x101, .int x99]) := by
                            intro x101 cu su hcu ls h hl
                            rw [hj102] at h
                            refine lv_icmp_ne (tgt := 716) hx hb dL_law_706 (by decide) (fun cc => ?_) (fun cc => ?_)
                            · have h := ite_n cc h
                              exact Jj94 x91.2 cu su ⟨by omega, by omega⟩ H locs ls h hP hD hS (lv_sub hl [] rfl)
                            · have h := ite_p cc h
                              refine lv_aload_n hx hb dL_law_709 rfl (lv_at hl 1 rfl) ?_
                              obtain ⟨x103, e104, h⟩ := bd_some h
                              refine lcW (Re := []) (S := x91.2) (rs := (x103, x91.2)) (c2 := (cu + 674)) (s2 := (su + 8088)) hG hGX hN hP hD hS hA (fun h1 h2 => vx_runS (As := [.ref (a o)]) (rest := []) ⟨hx, hb, hml, hown, hts⟩ (qL_sound l hl9 D cy tt a o x91.2  (H).size x103 e104) (va_cwS 1 hts gL_law_L_sound rfl rfl rfl (by decide +kernel) ⟨Nat.le_of_ble_eq_true rfl, Nat.le_of_ble_eq_true rfl⟩) ⟨h1, h2⟩ rfl rfl hl.1 rfl (lv_room (Nat.le_of_ble_eq_true rfl)) dL_law_710 ⟨show cu + 674 ≤ 600130 by omega, show su + 8088 ≤ 7301080 by omega⟩) rfl rfl (fun H locs hP hD hS => ?_)
                              refine lv_if_ne (tgt := 718) hx hb dL_law_713 (by decide) (fun cc => ?_) (fun cc => ?_)
                              · have h := ite_n cc h
                                refine lv_iconst (v := (0 : Int32)) hx hb dL_law_718 (by decide) ?_
                                refine lv_istore (lv' := [(7, .int (0 : Int32)), (0, .ref b), (1, .ref (a o)), (4, .int ((2 : Int32) + x28)), (5, .int x51)]) hx hb dL_law_719 hl (by decide) rfl (fun ls hl => ?_)
                                obtain ⟨j106, hj106, h⟩ := jn_elim h
                                have Jj106 : ∀ (S_105 : SX11) (cu su : Nat) (hcu : cu + (0) ≤ 600130 ∧ su + 12 * (0) ≤ 7301080) (H : Heap) (locs : List Loc) (ls : Array Slot), j106 S_105 = some rs → va_P D vwCl (wX11 cy a o S_105) H → va_D (fun q : Nat => s.heap.size ≤ q) (wX11 cy a o S_105) → va_S (fun q : Nat => s.heap.size ≤ q) s.heap H locs → lv_has ls 17 [] → W p l e room_1 s m #[Value.ref b] below meth c H locs cu su (lw_Z below #[Value.ref b] s) (F0 m 1357 ls []) := by
                                  intro S_105 cu su hcu H locs ls h hP hD hS hl
                                  rw [hj106] at h
                                  refine lv_iconst (v := (0 : Int32)) hx hb dL_law_1357 (by decide) ?_
                                  have hv : (0 : Int32) = 1 := (some_in h).trans hrs
                                  rw [hv]
                                  refine va_forget (fun q hq => hS.2.2 q hq) ?_
                                  refine W.widen (k := 600130) (n := 7301080) (by omega) (by omega) ?_
                                  exact lw_ret hx hb hr hlocks dL_law_1358
                                obtain ⟨j108, hj108, h⟩ := jn_elim h
                                have Jj108 : ∀ (S_107 : SX11) (cu su : Nat) (hcu : cu + (0) ≤ 600130 ∧ su + 12 * (0) ≤ 7301080) (H : Heap) (locs : List Loc) (ls : Array Slot), j108 S_107 = some rs → va_P D vwCl (wX11 cy a o S_107) H → va_D (fun q : Nat => s.heap.size ≤ q) (wX11 cy a o S_107) → va_S (fun q : Nat => s.heap.size ≤ q) s.heap H locs → lv_has ls 17 [] → W p l e room_1 s m #[Value.ref b] below meth c H locs cu su (lw_Z below #[Value.ref b] s) (F0 m 1153 ls []) := by
                                  intro S_107 cu su hcu H locs ls h hP hD hS hl
                                  rw [hj108] at h
                                  refine lv_iconst (v := (0 : Int32)) hx hb dL_law_1153 (by decide) ?_
                                  have hv : (0 : Int32) = 1 := (some_in h).trans hrs
                                  rw [hv]
                                  refine va_forget (fun q hq => hS.2.2 q hq) ?_
                                  refine W.widen (k := 600130) (n := 7301080) (by omega) (by omega) ?_
                                  exact lw_ret hx hb hr hlocks dL_law_1154
                                obtain ⟨j110, hj110, h⟩ := jn_elim h
                                have Jj110 : ∀ (S_109 : SX11) (cu su : Nat) (hcu : cu + (0) ≤ 600130 ∧ su + 12 * (0) ≤ 7301080) (H : Heap) (locs : List Loc) (ls : Array Slot), j110 S_109 = some rs → va_P D vwCl (wX11 cy a o S_109) H → va_D (fun q : Nat => s.heap.size ≤ q) (wX11 cy a o S_109) → va_S (fun q : Nat => s.heap.size ≤ q) s.heap H locs → lv_has ls 17 [] → W p l e room_1 s m #[Value.ref b] below meth c H locs cu su (lw_Z below #[Value.ref b] s) (F0 m 1048 ls []) := by
                                  intro S_109 cu su hcu H locs ls h hP hD hS hl
                                  rw [hj110] at h
                                  refine lv_iconst (v := (0 : Int32)) hx hb dL_law_1048 (by decide) ?_
                                  have hv : (0 : Int32) = 1 := (some_in h).trans hrs
                                  rw [hv]
                                  refine va_forget (fun q hq => hS.2.2 q hq) ?_
                                  refine W.widen (k := 600130) (n := 7301080) (by omega) (by omega) ?_
                                  exact lw_ret hx hb hr hlocks dL_law_1049
                                obtain ⟨j112, hj112, h⟩ := jn_elim h
                                have Jj112 : ∀ (S_111 : SX11) (cu su : Nat) (hcu : cu + (0) ≤ 600130 ∧ su + 12 * (0) ≤ 7301080) (H : Heap) (locs : List Loc) (ls : Array Slot), j112 S_111 = some rs → va_P D vwCl (wX11 cy a o S_111) H → va_D (fun q : Nat => s.heap.size ≤ q) (wX11 cy a o S_111) → va_S (fun q : Nat => s.heap.size ≤ q) s.heap H locs → lv_has ls 17 [] → W p l e room_1 s m #[Value.ref b] below meth c H locs cu su (lw_Z below #[Value.ref b] s) (F0 m 1007 ls []) := by
                                  intro S_111 cu su hcu H locs ls h hP hD hS hl
                                  rw [hj112] at h
                                  refine lv_iconst (v := (0 : Int32)) hx hb dL_law_1007 (by decide) ?_
                                  have hv : (0 : Int32) = 1 := (some_in h).trans hrs
                                  rw [hv]
                                  refine va_forget (fun q hq => hS.2.2 q hq) ?_
                                  refine W.widen (k := 600130) (n := 7301080) (by omega) (by omega) ?_
                                  exact lw_ret hx hb hr hlocks dL_law_1008
                                obtain ⟨j114, hj114, h⟩ := jn_elim h
                                have Jj114 : ∀ (S_113 : SX11) (cu su : Nat) (hcu : cu + (0) ≤ 600130 ∧ su + 12 * (0) ≤ 7301080) (H : Heap) (locs : List Loc) (ls : Array Slot), j114 S_113 = some rs → va_P D vwCl (wX11 cy a o S_113) H → va_D (fun q : Nat => s.heap.size ≤ q) (wX11 cy a o S_113) → va_S (fun q : Nat => s.heap.size ≤ q) s.heap H locs → lv_has ls 17 [] → W p l e room_1 s m #[Value.ref b] below meth c H locs cu su (lw_Z below #[Value.ref b] s) (F0 m 903 ls []) := by
                                  intro S_113 cu su hcu H locs ls h hP hD hS hl
                                  rw [hj114] at h
                                  refine lv_iconst (v := (0 : Int32)) hx hb dL_law_903 (by decide) ?_
                                  have hv : (0 : Int32) = 1 := (some_in h).trans hrs
                                  rw [hv]
                                  refine va_forget (fun q hq => hS.2.2 q hq) ?_
                                  refine W.widen (k := 600130) (n := 7301080) (by omega) (by omega) ?_
                                  exact lw_ret hx hb hr hlocks dL_law_904
                                have L285 : ∀ (c4_115 : Int32) (c5_116 : Int32) (k118 : SX11 → Option (Int32)) (hk118 : ∀ (S_119 : SX11) (cu su : Nat) (hcu : cu + (0) ≤ 600130 ∧ su + 12 * (0) ≤ 7301080) (H : Heap) (locs : List Loc) (ls : Array Slot), k118 S_119 = some rs → va_P D vwCl (wX11 cy a o S_119) H → va_D (fun q : Nat => s.heap.size ≤ q) (wX11 cy a o S_119) → va_S (fun q : Nat => s.heap.size ≤ q) s.heap H locs → lv_has ls 17 [] → W p l e room_1 s m #[Value.ref b] below meth c H locs cu su (lw_Z below #[Value.ref b] s) (F0 m 903 ls [])) (k120 : SX11 → Option (Int32)) (hk120 : ∀ (S_121 : SX11) (cu su : Nat) (hcu : cu + (0) ≤ 600130 ∧ su + 12 * (0) ≤ 7301080) (H : Heap) (locs : List Loc) (ls : Array Slot), k120 S_121 = some rs → va_P D vwCl (wX11 cy a o S_121) H → va_D (fun q : Nat => s.heap.size ≤ q) (wX11 cy a o S_121) → va_S (fun q : Nat => s.heap.size ≤ q) s.heap H locs → lv_has ls 17 [] → W p l e room_1 s m #[Value.ref b] below meth c H locs cu su (lw_Z below #[Value.ref b] s) (F0 m 1007 ls [])) (k122 : SX11 → Option (Int32)) (hk122 : ∀ (S_123 : SX11) (cu su : Nat) (hcu : cu + (0) ≤ 600130 ∧ su + 12 * (0) ≤ 7301080) (H : Heap) (locs : List Loc) (ls : Array Slot), k122 S_123 = some rs → va_P D vwCl (wX11 cy a o S_123) H → va_D (fun q : Nat => s.heap.size ≤ q) (wX11 cy a o S_123) → va_S (fun q : Nat => s.heap.size ≤ q) s.heap H locs → lv_has ls 17 [] → W p l e room_1 s m #[Value.ref b] below meth c H locs cu su (lw_Z below #[Value.ref b] s) (F0 m 1048 ls [])) (k124 : SX11 → Option (Int32)) (hk124 : ∀ (S_125 : SX11) (cu su : Nat) (hcu : cu + (0) ≤ 600130 ∧ su + 12 * (0) ≤ 7301080) (H : Heap) (locs : List Loc) (ls : Array Slot), k124 S_125 = some rs → va_P D vwCl (wX11 cy a o S_125) H → va_D (fun q : Nat => s.heap.size ≤ q) (wX11 cy a o S_125) → va_S (fun q : Nat => s.heap.size ≤ q) s.heap H locs → lv_has ls 17 [] → W p l e room_1 s m #[Value.ref b] below meth c H locs cu su (lw_Z below #[Value.ref b] s) (F0 m 1153 ls [])) (k126 : SX11 → Option (Int32)) (hk126 : ∀ (S_127 : SX11) (cu su : Nat) (hcu : cu + (0) ≤ 600130 ∧ su + 12 * (0) ≤ 7301080) (H : Heap) (locs : List Loc) (ls : Array Slot), k126 S_127 = some rs → va_P D vwCl (wX11 cy a o S_127) H → va_D (fun q : Nat => s.heap.size ≤ q) (wX11 cy a o S_127) → va_S (fun q : Nat => s.heap.size ≤ q) s.heap H locs → lv_has ls 17 [] → W p l e room_1 s m #[Value.ref b] below meth c H locs cu su (lw_Z below #[Value.ref b] s) (F0 m 1285 ls [])) (k129 : SX11 → Option (Int32)) (hk129 : ∀ (S_130 : SX11) (cu su : Nat) (hcu : cu + (0) ≤ 600130 ∧ su + 12 * (0) ≤ 7301080) (H : Heap) (locs : List Loc) (ls : Array Slot), k129 S_130 = some rs → va_P D vwCl (wX11 cy a o S_130) H → va_D (fun q : Nat => s.heap.size ≤ q) (wX11 cy a o S_130) → va_S (fun q : Nat => s.heap.size ≤ q) s.heap H locs → lv_has ls 17 [] → W p l e room_1 s m #[Value.ref b] below meth c H locs cu su (lw_Z below #[Value.ref b] s) (F0 m 1357 ls [])) (k131 : SX11 → Option (Int32)) (hk131 : ∀ (S_132 : SX11) (cu su : Nat) (hcu : cu + (39) ≤ 600130 ∧ su + 12 * (39) ≤ 7301080) (H : Heap) (locs : List Loc) (ls : Array Slot), k131 S_132 = some rs → va_P D vwCl (wX11 cy a o S_132) H → va_D (fun q : Nat => s.heap.size ≤ q) (wX11 cy a o S_132) → va_S (fun q : Nat => s.heap.size ≤ q) s.heap H locs → lv_has ls 17 [(1, .ref (a o))] → W p l e room_1 s m #[Value.ref b] below meth c H locs cu su (lw_Z below #[Value.ref b] s) (F0 m 1365 ls [])) (f721 : Nat) (v7_136 : Int32) (S_117 : SX11) (cu su : Nat) (hcu : cu + (f721 * 13492 + 39) ≤ 600130 ∧ su + 12 * (f721 * 13492 + 39) ≤ 7301080) (H : Heap) (locs : List Loc) (ls : Array Slot), DL_law_L721 c9 c4_115 c5_116 k118 k120 k122 k124 k126 k129 k131 f721 v7_136 S_117 = some rs → va_P D vwCl (wX11 cy a o S_117) H → va_D (fun q : Nat => s.heap.size ≤ q) (wX11 cy a o S_117) → va_S (fun q : Nat => s.heap.size ≤ q) s.heap H locs → lv_has ls 17 [(0, .ref b), (1, .ref (a o)), (4, .int c4_115), (5, .int c5_116), (7, .int v7_136)] → W p l e room_1 s m #[Value.ref b] below meth c H locs cu su (lw_Z below #[Value.ref b] s) (F0 m 721 ls []) := by
                                  intro c4_115 c5_116 k118 hk118 k120 hk120 k122 hk122 k124 hk124 k126 hk126 k129 hk129 k131 hk131 f721
                                  induction f721 with
                                  | zero =>
                                    intro v7_136 S_117 cu su hcu H locs ls h hP hD hS hl
                                    rw [DL_law_L721] at h
                                    cases h
                                  | succ f721 ih721 =>
                                    intro v7_136 S_117 cu su hcu H locs ls h hP hD hS hl
                                    rw [DL_law_L721] at h
                                    refine lv_iload hx hb dL_law_721 (lv_at hl 4 rfl) ?_
                                    refine lv_bipush (v := (40 : Int32)) hx hb dL_law_723 (by decide) ?_
                                    refine lv_icmp_ge (tgt := 1365) hx hb dL_law_725 (by decide) (fun cc => ?_) (fun cc => ?_)
                                    · have h := ite_p cc h
                                      exact hk131 S_117 cu su ⟨by omega, by omega⟩ H locs ls h hP hD hS (lv_sub hl [1] rfl)
                                    · have h := ite_n cc h
                                      refine lv_aload_n hx hb dL_law_728 rfl (lv_at hl 0 rfl) ?_
                                      refine lv_bipush (v := (21 : Int32)) hx hb dL_law_729 (by decide) ?_
                                      refine lv_iload hx hb dL_law_731 (lv_at hl 4 rfl) ?_
                                      refine lv_iadd hx hb dL_law_733 ?_
                                      obtain ⟨g139, h⟩ := gd_some h
                                      refine pcC (As := [.ref b, .int ((21 : Int32) + v7_136)]) (rest := []) (qL_cl l b L xs hL9 c9 hc9 ((21 : Int32) + v7_136) (of_decide_eq_true g139)) ⟨hx, hb, hml, hown, hts⟩ (va_cwS 2 hts gL_law_L_cell rfl rfl rfl (by decide +kernel) ⟨Nat.le_of_ble_eq_true rfl, Nat.le_of_ble_eq_true rfl⟩) hX hbl hS rfl hl.1 rfl (Nat.le_of_ble_eq_true rfl) dL_law_734 ⟨show cu ≤ 600130 by omega, show su ≤ 7301080 by omega⟩ ?_
                                      refine lv_istore (lv' := [(8, .int (c9 ((21 : Int32) + v7_136))), (0, .ref b), (1, .ref (a o)), (4, .int c4_115), (5, .int c5_116), (7, .int v7_136)]) hx hb dL_law_737 hl (by decide) rfl (fun ls hl => ?_)
                                      refine lv_aload_n hx hb dL_law_739 rfl (lv_at hl 1 rfl) ?_
                                      refine lv_bipush (v := (70 : Int32)) hx hb dL_law_740 (by decide) ?_
                                      refine lv_iload hx hb dL_law_742 (lv_at hl 5 rfl) ?_
                                      refine lv_iadd hx hb dL_law_744 ?_
                                      obtain ⟨g142, h⟩ := gd_some h
                                      refine pcC (As := [.ref b, .int ((70 : Int32) + v7_136)]) (rest := []) (qL_cl l b L xs hL9 c9 hc9 ((70 : Int32) + v7_136) (of_decide_eq_true g142)) ⟨hx, hb, hml, hown, hts⟩ (va_cwS 2 hts gL_law_L_cell rfl rfl rfl (by decide +kernel) ⟨Nat.le_of_ble_eq_true rfl, Nat.le_of_ble_eq_true rfl⟩) hX hbl hS rfl hl.1 rfl (Nat.le_of_ble_eq_true rfl) dL_law_745 ⟨show cu ≤ 600130 by omega, show su ≤ 7301080 by omega⟩ ?_
                                      refine lv_istore (lv' := [(9, .int (c9 ((70 : Int32) + v7_136))), (8, .int (c9 ((21 : Int32) + v7_136))), (0, .ref b), (1, .ref (a o)), (4, .int c4_115), (5, .int c5_116), (7, .int v7_136)]) hx hb dL_law_748 hl (by decide) rfl (fun ls hl => ?_)
                                      refine lv_iload hx hb dL_law_750 (lv_at hl 1 rfl) ?_
                                      refine lv_iconst (v := (4 : Int32)) hx hb dL_law_752 (by decide) ?_
                                      refine lv_ishr hx hb dL_law_753 ?_
                                      refine lv_iload hx hb dL_law_754 (lv_at hl 4 rfl) ?_
                                      obtain ⟨x143, e144, h⟩ := bd_some h
                                      refine pcS (As := [.int ((c9 ((21 : Int32) + v7_136)) >>> ((4 : Int32) &&& 31)), .int c4_115]) (rest := []) (qL_low l D cy  ((c9 ((21 : Int32) + v7_136)) >>> ((4 : Int32) &&& 31)) c4_115 x143 e144) ⟨hx, hb, hml, hown, hts⟩ (va_cwS 2 hts gL_law_L_low rfl rfl rfl (by decide +kernel) ⟨Nat.le_of_ble_eq_true rfl, Nat.le_of_ble_eq_true rfl⟩) hG (hP.sub [] rfl) rfl hl.1 rfl (Nat.le_of_ble_eq_true rfl) dL_law_756 ⟨show cu ≤ 600130 by omega, show su ≤ 7301080 by omega⟩ ?_
                                      refine lv_istore (lv' := [(10, .int x143), (9, .int (c9 ((70 : Int32) + v7_136))), (8, .int (c9 ((21 : Int32) + v7_136))), (0, .ref b), (1, .ref (a o)), (4, .int c4_115), (5, .int c5_116), (7, .int v7_136)]) hx hb dL_law_759 hl (by decide) rfl (fun ls hl => ?_)
                                      refine lv_iload hx hb dL_law_761 (lv_at hl 2 rfl) ?_
                                      refine lv_bipush (v := (8 : Int32)) hx hb dL_law_763 (by decide) ?_
                                      refine lv_ishr hx hb dL_law_765 ?_
                                      refine lv_iload hx hb dL_law_766 (lv_at hl 6 rfl) ?_
                                      obtain ⟨x145, e146, h⟩ := bd_some h
                                      refine pcS (As := [.int ((c9 ((21 : Int32) + v7_136)) >>> ((8 : Int32) &&& 31)), .int c5_116]) (rest := []) (qL_low l D cy  ((c9 ((21 : Int32) + v7_136)) >>> ((8 : Int32) &&& 31)) c5_116 x145 e146) ⟨hx, hb, hml, hown, hts⟩ (va_cwS 2 hts gL_law_L_low rfl rfl rfl (by decide +kernel) ⟨Nat.le_of_ble_eq_true rfl, Nat.le_of_ble_eq_true rfl⟩) hG (hP.sub [] rfl) rfl hl.1 rfl (Nat.le_of_ble_eq_true rfl) dL_law_768 ⟨show cu ≤ 600130 by omega, show su ≤ 7301080 by omega⟩ ?_
                                      refine lv_istore (lv' := [(11, .int x145), (10, .int x143), (9, .int (c9 ((70 : Int32) + v7_136))), (8, .int (c9 ((21 : Int32) + v7_136))), (0, .ref b), (1, .ref (a o)), (4, .int c4_115), (5, .int c5_116), (7, .int v7_136)]) hx hb dL_law_771 hl (by decide) rfl (fun ls hl => ?_)
                                      refine lv_iload hx hb dL_law_773 (lv_at hl 3 rfl) ?_
                                      refine lv_bipush (v := (9 : Int32)) hx hb dL_law_775 (by decide) ?_
                                      obtain ⟨x147, e148, h⟩ := bd_some h
                                      refine pcS (As := [.int (c9 ((21 : Int32) + v7_136)), .int (9 : Int32)]) (rest := []) (qL_low l D cy  (c9 ((21 : Int32) + v7_136)) (9 : Int32) x147 e148) ⟨hx, hb, hml, hown, hts⟩ (va_cwS 2 hts gL_law_L_low rfl rfl rfl (by decide +kernel) ⟨Nat.le_of_ble_eq_true rfl, Nat.le_of_ble_eq_true rfl⟩) hG (hP.sub [] rfl) rfl hl.1 rfl (Nat.le_of_ble_eq_true rfl) dL_law_777 ⟨show cu ≤ 600130 by omega, show su ≤ 7301080 by omega⟩ ?_
                                      refine lv_istore (lv' := [(12, .int x147), (11, .int x145), (10, .int x143), (9, .int (c9 ((70 : Int32) + v7_136))), (8, .int (c9 ((21 : Int32) + v7_136))), (0, .ref b), (1, .ref (a o)), (4, .int c4_115), (5, .int c5_116), (7, .int v7_136)]) hx hb dL_law_780 hl (by decide) rfl (fun ls hl => ?_)
                                      refine lv_aload_n hx hb dL_law_782 rfl (lv_at hl 6 rfl) ?_
                                      refine lv_iconst (v := (3 : Int32)) hx hb dL_law_783 (by decide) ?_
                                      obtain ⟨x149, e150, h⟩ := bd_some h
                                      refine lcW (Re := []) (S := S_117) (rs := (x149, S_117)) (c2 := (cu + 1)) (s2 := (su + 6)) hG hGX hN hP hD hS hA (fun h1 h2 => vx_runSX (As := [.ref (a o), .int (3 : Int32)]) (rest := []) ⟨hx, hb, hml, hown, hts⟩ (qL_info l hl9 D cy tt a o S_117 (3 : Int32) (H).size x149 e150) (vx_cwSW 2 hts gL_law_L_info rfl rfl rfl (by decide +kernel) ⟨Nat.le_of_ble_eq_true rfl, Nat.le_of_ble_eq_true rfl⟩) ⟨h1, h2⟩ rfl rfl hl.1 rfl (lv_room (Nat.le_of_ble_eq_true rfl)) dL_law_784 ⟨show cu + 1 ≤ 600130 by omega, show su + 6 ≤ 7301080 by omega⟩) rfl rfl (fun H locs hP hD hS => ?_)
                                      refine lv_istore (lv' := [(13, .int x149), (12, .int x147), (11, .int x145), (10, .int x143), (9, .int (c9 ((70 : Int32) + v7_136))), (8, .int (c9 ((21 : Int32) + v7_136))), (0, .ref b), (1, .ref (a o)), (4, .int c4_115), (5, .int c5_116), (7, .int v7_136)]) hx hb dL_law_787 hl (by decide) rfl (fun ls hl => ?_)
                                      refine lv_iload hx hb dL_law_789 (lv_at hl 1 rfl) ?_
                                      refine lv_iconst (v := (3 : Int32)) hx hb dL_law_791 (by decide) ?_
                                      obtain ⟨j152, hj152, h⟩ := jn_elim h
                                      have Jj152 : ∀ (S_151 : SX11) (cu su : Nat) (hcu : cu + (f721 * 13492 + 13386) ≤ 600130 ∧ su + 12 * (f721 * 13492 + 13386) ≤ 7301080) (H : Heap) (locs : List Loc) (ls : Array Slot), j152 S_151 = some rs → va_P D vwCl (wX11 cy a o S_151) H → va_D (fun q : Nat => s.heap.size ≤ q) (wX11 cy a o S_151) → va_S (fun q : Nat => s.heap.size ≤ q) s.heap H locs → lv_has ls 17 [(0, .ref b), (1, .ref (a o)), (4, .int c4_115), (5, .int c5_116), (7, .int v7_136), (9, .int (c9 ((70 : Int32) + v7_136))), (10, .int x143), (11, .int x145)] → W p l e room_1 s m #[Value.ref b] below meth c H locs cu su (lw_Z below #[Value.ref b] s) (F0 m 1293 ls []) := by
                                        intro S_151 cu su hcu H locs ls h hP hD hS hl
                                        rw [hj152] at h
                                        refine lv_aload_n hx hb dL_law_1293 rfl (lv_at hl 1 rfl) ?_
                                        obtain ⟨x153, e154, h⟩ := bd_some h
                                        refine lcW (Re := []) (S := S_151) (rs := (x153, S_151)) (c2 := (cu + 674)) (s2 := (su + 8088)) hG hGX hN hP hD hS hA (fun h1 h2 => vx_runS (As := [.ref (a o)]) (rest := []) ⟨hx, hb, hml, hown, hts⟩ (qL_sound l hl9 D cy tt a o S_151  (H).size x153 e154) (va_cwS 1 hts gL_law_L_sound rfl rfl rfl (by decide +kernel) ⟨Nat.le_of_ble_eq_true rfl, Nat.le_of_ble_eq_true rfl⟩) ⟨h1, h2⟩ rfl rfl hl.1 rfl (lv_room (Nat.le_of_ble_eq_true rfl)) dL_law_1294 ⟨show cu + 674 ≤ 600130 by omega, show su + 8088 ≤ 7301080 by omega⟩) rfl rfl (fun H locs hP hD hS => ?_)
                                        refine lv_if_eq (tgt := 1357) hx hb dL_law_1297 (by decide) (fun cc => ?_) (fun cc => ?_)
                                        · have h := ite_p cc h
                                          exact hk129 S_151 (cu + 674) (su + 8088) ⟨by omega, by omega⟩ H locs ls h hP hD hS (lv_sub hl [] rfl)
                                        · have h := ite_n cc h
                                          refine lv_aload_n hx hb dL_law_1300 rfl (lv_at hl 1 rfl) ?_
                                          refine lv_iload hx hb dL_law_1301 (lv_at hl 7 rfl) ?_
                                          refine lv_iload hx hb dL_law_1303 (lv_at hl 6 rfl) ?_
                                          refine lv_iload hx hb dL_law_1305 (lv_at hl 5 rfl) ?_
                                          refine lv_ldc (v := (100001 : Int32)) hx hb hown (hts (.constant RL 190 (100001 : Int32)) (by decide +kernel)) dL_law_1307 ?_
                                          obtain ⟨x155, e156, h⟩ := bd_some h
                                          refine pcS (As := [.int (c9 ((70 : Int32) + v7_136)), .int (100001 : Int32)]) (rest := [.int x143, .int x145, .ref (a o)]) (qL_low l D cy  (c9 ((70 : Int32) + v7_136)) (100001 : Int32) x155 e156) ⟨hx, hb, hml, hown, hts⟩ (va_cwS 2 hts gL_law_L_low rfl rfl rfl (by decide +kernel) ⟨Nat.le_of_ble_eq_true rfl, Nat.le_of_ble_eq_true rfl⟩) hG (hP.sub [] rfl) rfl hl.1 rfl (Nat.le_of_ble_eq_true rfl) dL_law_1309 ⟨show (cu + 674) ≤ 600130 by omega, show (su + 8088) ≤ 7301080 by omega⟩ ?_
                                          obtain ⟨x157, e158, h⟩ := bd_some h
                                          refine lcW (Re := []) (S := S_151) (rs := x157) (c2 := (cu + 682)) (s2 := (su + 8184)) hG hGX hN hP hD hS hA (fun h1 h2 => vx_runS (As := [.ref (a o), .int x145, .int x143, .int x155]) (rest := []) ⟨hx, hb, hml, hown, hts⟩ (qL_needs l hl9 D cy tt a o S_151 x145 x143 x155 (H).size x157 e158) (va_cwS 4 hts gL_law_L_needs rfl rfl rfl (by decide +kernel) ⟨Nat.le_of_ble_eq_true rfl, Nat.le_of_ble_eq_true rfl⟩) ⟨h1, h2⟩ rfl rfl hl.1 rfl (lv_room (Nat.le_of_ble_eq_true rfl)) dL_law_1312 ⟨show (cu + 674) + 8 ≤ 600130 by omega, show (su + 8088) + 96 ≤ 7301080 by omega⟩) rfl rfl (fun H locs hP hD hS => ?_)
                                          refine lv_if_eq (tgt := 1357) hx hb dL_law_1315 (by decide) (fun cc => ?_) (fun cc => ?_)
                                          · have h := ite_p cc h
                                            exact hk129 x157.2 (cu + 682) (su + 8184) ⟨by omega, by omega⟩ H locs ls h hP hD hS (lv_sub hl [] rfl)
                                          · have h := ite_n cc h
                                            refine lv_iload hx hb dL_law_1318 (lv_at hl 4 rfl) ?_
                                            refine lv_iconst (v := (4 : Int32)) hx hb dL_law_1320 (by decide) ?_
                                            refine lv_irem hx hb dL_law_1321 (by decide) ?_
                                            refine lv_iconst (v := (3 : Int32)) hx hb dL_law_1322 (by decide) ?_
                                            obtain ⟨j160, hj160, h⟩ := jn_elim h
                                            have Jj160 : ∀ (S_159 : SX11) (cu su : Nat) (hcu : cu + (f721 * 13492 + 11581) ≤ 600130 ∧ su + 12 * (f721 * 13492 + 11581) ≤ 7301080) (H : Heap) (locs : List Loc) (ls : Array Slot), j160 S_159 = some rs → va_P D vwCl (wX11 cy a o S_159) H → va_D (fun q : Nat => s.heap.size ≤ q) (wX11 cy a o S_159) → va_S (fun q : Nat => s.heap.size ≤ q) s.heap H locs → lv_has ls 17 [(0, .ref b), (1, .ref (a o)), (4, .int c4_115), (5, .int c5_116), (7, .int v7_136)] → W p l e room_1 s m #[Value.ref b] below meth c H locs cu su (lw_Z below #[Value.ref b] s) (F0 m 1333 ls []) := by
                                              intro S_159 cu su hcu H locs ls h hP hD hS hl
                                              rw [hj160] at h
                                              refine lv_aload_n hx hb dL_law_1333 rfl (lv_at hl 1 rfl) ?_
                                              obtain ⟨x161, e162, h⟩ := bd_some h
                                              refine lcW (Re := []) (S := S_159) (rs := (x161, S_159)) (c2 := (cu + 674)) (s2 := (su + 8088)) hG hGX hN hP hD hS hA (fun h1 h2 => vx_runS (As := [.ref (a o)]) (rest := []) ⟨hx, hb, hml, hown, hts⟩ (qL_sound l hl9 D cy tt a o S_159  (H).size x161 e162) (va_cwS 1 hts gL_law_L_sound rfl rfl rfl (by decide +kernel) ⟨Nat.le_of_ble_eq_true rfl, Nat.le_of_ble_eq_true rfl⟩) ⟨h1, h2⟩ rfl rfl hl.1 rfl (lv_room (Nat.le_of_ble_eq_true rfl)) dL_law_1334 ⟨show cu + 674 ≤ 600130 by omega, show su + 8088 ≤ 7301080 by omega⟩) rfl rfl (fun H locs hP hD hS => ?_)
                                              refine lv_if_eq (tgt := 1357) hx hb dL_law_1337 (by decide) (fun cc => ?_) (fun cc => ?_)
                                              · have h := ite_p cc h
                                                exact hk129 S_159 (cu + 674) (su + 8088) ⟨by omega, by omega⟩ H locs ls h hP hD hS (lv_sub hl [] rfl)
                                              · have h := ite_n cc h
                                                refine lv_iload hx hb dL_law_1340 (lv_at hl 4 rfl) ?_
                                                refine lv_bipush (v := (9 : Int32)) hx hb dL_law_1342 (by decide) ?_
                                                refine lv_irem hx hb dL_law_1344 (by decide) ?_
                                                refine lv_bipush (v := (8 : Int32)) hx hb dL_law_1345 (by decide) ?_
                                                obtain ⟨j164, hj164, h⟩ := jn_elim h
                                                have Jj164 : ∀ (S_163 : SX11) (cu su : Nat) (hcu : cu + (f721 * 13492 + 39) ≤ 600130 ∧ su + 12 * (f721 * 13492 + 39) ≤ 7301080) (H : Heap) (locs : List Loc) (ls : Array Slot), j164 S_163 = some rs → va_P D vwCl (wX11 cy a o S_163) H → va_D (fun q : Nat => s.heap.size ≤ q) (wX11 cy a o S_163) → va_S (fun q : Nat => s.heap.size ≤ q) s.heap H locs → lv_has ls 17 [(0, .ref b), (1, .ref (a o)), (4, .int c4_115), (5, .int c5_116), (7, .int v7_136)] → W p l e room_1 s m #[Value.ref b] below meth c H locs cu su (lw_Z below #[Value.ref b] s) (F0 m 1359 ls []) := by
                                                  intro S_163 cu su hcu H locs ls h hP hD hS hl
                                                  rw [hj164] at h
                                                  refine lv_iinc (v := (v7_136 + (1 : Int32))) (lv' := [(7, .int (v7_136 + (1 : Int32))), (0, .ref b), (1, .ref (a o)), (4, .int c4_115), (5, .int c5_116)]) hx hb dL_law_1359 hl (k := 4) rfl (by rfl) (by decide) rfl (fun ls hl => ?_)
                                                  refine lv_goto (tgt := 721) hx hb dL_law_1362 (by decide) ?_
                                                  exact ih721 (v7_136 + (1 : Int32)) S_163 cu su ⟨by omega, by omega⟩ H locs ls h hP hD hS (lv_sub hl [1, 2, 3, 4, 0] rfl)
                                                refine lv_icmp_ne (tgt := 1359) hx hb dL_law_1347 (by decide) (fun cc => ?_) (fun cc => ?_)
                                                · have h := ite_n cc h
                                                  exact Jj164 S_159 (cu + 674) (su + 8088) ⟨by omega, by omega⟩ H locs ls h hP hD hS (lv_sub hl [0, 1, 2, 3, 4] rfl)
                                                · have h := ite_p cc h
                                                  refine lv_aload_n hx hb dL_law_1350 rfl (lv_at hl 1 rfl) ?_
                                                  obtain ⟨x165, e166, h⟩ := bd_some h
                                                  refine lcW (Re := []) (S := S_159) (rs := (x165, S_159)) (c2 := (cu + 11542)) (s2 := (su + 138504)) hG hGX hN hP hD hS hA (fun h1 h2 => vx_runS (As := [.ref (a o)]) (rest := []) ⟨hx, hb, hml, hown, hts⟩ (qL_flaws l hl9 D cy tt a o S_159  (H).size x165 e166) (va_cwS 1 hts gL_law_L_flaws rfl rfl rfl (by decide +kernel) ⟨Nat.le_of_ble_eq_true rfl, Nat.le_of_ble_eq_true rfl⟩) ⟨h1, h2⟩ rfl rfl hl.1 rfl (lv_room (Nat.le_of_ble_eq_true rfl)) dL_law_1351 ⟨show (cu + 674) + 10868 ≤ 600130 by omega, show (su + 8088) + 130416 ≤ 7301080 by omega⟩) rfl rfl (fun H locs hP hD hS => ?_)
                                                  refine lv_if_ne (tgt := 1359) hx hb dL_law_1354 (by decide) (fun cc => ?_) (fun cc => ?_)
                                                  · have h := ite_n cc h
                                                    exact Jj164 S_159 (cu + 11542) (su + 138504) ⟨by omega, by omega⟩ H locs ls h hP hD hS (lv_sub hl [0, 1, 2, 3, 4] rfl)
                                                  · have h := ite_p cc h
                                                    exact hk129 S_159 (cu + 11542) (su + 138504) ⟨by omega, by omega⟩ H locs ls h hP hD hS (lv_sub hl [] rfl)
                                            refine lv_icmp_ne (tgt := 1333) hx hb dL_law_1323 (by decide) (fun cc => ?_) (fun cc => ?_)
                                            · have h := ite_n cc h
                                              exact Jj160 x157.2 (cu + 682) (su + 8184) ⟨by omega, by omega⟩ H locs ls h hP hD hS (lv_sub hl [0, 1, 2, 3, 4] rfl)
                                            · have h := ite_p cc h
                                              refine lv_aload_n hx hb dL_law_1326 rfl (lv_at hl 1 rfl) ?_
                                              obtain ⟨x167, e168, h⟩ := bd_some h
                                              refine lcW (Re := []) (S := x157.2) (rs := x167) (c2 := (cu + 1805)) (s2 := (su + 21660)) hG hGX hN hP hD hS hA (fun h1 h2 => vx_runS (As := [.ref (a o)]) (rest := []) ⟨hx, hb, hml, hown, hts⟩ (qL_closes l hl9 D cy tt a o x157.2  (H).size x167 e168) (va_cwS 1 hts gL_law_L_closes rfl rfl rfl (by decide +kernel) ⟨Nat.le_of_ble_eq_true rfl, Nat.le_of_ble_eq_true rfl⟩) ⟨h1, h2⟩ rfl rfl hl.1 rfl (lv_room (Nat.le_of_ble_eq_true rfl)) dL_law_1327 ⟨show (cu + 682) + 1123 ≤ 600130 by omega, show (su + 8184) + 13476 ≤ 7301080 by omega⟩) rfl rfl (fun H locs hP hD hS => ?_)
                                              refine lv_if_eq (tgt := 1357) hx hb dL_law_1330 (by decide) (fun cc => ?_) (fun cc => ?_)
                                              · have h := ite_p cc h
                                                exact hk129 x167.2 (cu + 1805) (su + 21660) ⟨by omega, by omega⟩ H locs ls h hP hD hS (lv_sub hl [] rfl)
                                              · have h := ite_n cc h
                                                exact Jj160 x167.2 (cu + 1805) (su + 21660) ⟨by omega, by omega⟩ H locs ls h hP hD hS (lv_sub hl [0, 1, 2, 3, 4] rfl)
                                      obtain ⟨j170, hj170, h⟩ := jn_elim h
                                      have Jj170 : ∀ (S_169 : SX11) (cu su : Nat) (hcu : cu + (f721 * 13492 + 13528) ≤ 600130 ∧ su + 12 * (f721 * 13492 + 13528) ≤ 7301080) (H : Heap) (locs : List Loc) (ls : Array Slot), j170 S_169 = some rs → va_P D vwCl (wX11 cy a o S_169) H → va_D (fun q : Nat => s.heap.size ≤ q) (wX11 cy a o S_169) → va_S (fun q : Nat => s.heap.size ≤ q) s.heap H locs → lv_has ls 17 [(0, .ref b), (1, .ref (a o)), (4, .int c4_115), (5, .int c5_116), (7, .int v7_136), (9, .int (c9 ((70 : Int32) + v7_136))), (10, .int x143), (11, .int x145), (12, .int x147), (13, .int x149)] → W p l e room_1 s m #[Value.ref b] below meth c H locs cu su (lw_Z below #[Value.ref b] s) (F0 m 908 ls []) := by
                                        intro S_169 cu su hcu H locs ls h hP hD hS hl
                                        rw [hj170] at h
                                        refine lv_iload hx hb dL_law_908 (lv_at hl 8 rfl) ?_
                                        refine lv_iconst (v := (3 : Int32)) hx hb dL_law_910 (by decide) ?_
                                        refine lv_icmp_ne (tgt := 1012) hx hb dL_law_911 (by decide) (fun cc => ?_) (fun cc => ?_)
                                        · have h := ite_n cc h
                                          refine lv_iload hx hb dL_law_1012 (lv_at hl 8 rfl) ?_
                                          refine lv_iconst (v := (4 : Int32)) hx hb dL_law_1014 (by decide) ?_
                                          refine lv_icmp_ne (tgt := 1050) hx hb dL_law_1015 (by decide) (fun cc => ?_) (fun cc => ?_)
                                          · have h := ite_n cc h
                                            refine lv_iload hx hb dL_law_1050 (lv_at hl 8 rfl) ?_
                                            refine lv_iconst (v := (5 : Int32)) hx hb dL_law_1052 (by decide) ?_
                                            obtain ⟨j172, hj172, h⟩ := jn_elim h
                                            have Jj172 : ∀ (S_171 : SX11) (cu su : Nat) (hcu : cu + (f721 * 13492 + 13528) ≤ 600130 ∧ su + 12 * (f721 * 13492 + 13528) ≤ 7301080) (H : Heap) (locs : List Loc) (ls : Array Slot), j172 S_171 = some rs → va_P D vwCl (wX11 cy a o S_171) H → va_D (fun q : Nat => s.heap.size ≤ q) (wX11 cy a o S_171) → va_S (fun q : Nat => s.heap.size ≤ q) s.heap H locs → lv_has ls 17 [(0, .ref b), (1, .ref (a o)), (4, .int c4_115), (5, .int c5_116), (7, .int v7_136), (9, .int (c9 ((70 : Int32) + v7_136))), (10, .int x143), (11, .int x145), (13, .int x149)] → W p l e room_1 s m #[Value.ref b] below meth c H locs cu su (lw_Z below #[Value.ref b] s) (F0 m 1158 ls []) := by
                                              intro S_171 cu su hcu H locs ls h hP hD hS hl
                                              rw [hj172] at h
                                              refine lv_iconst (v := (0 : Int32)) hx hb dL_law_1158 (by decide) ?_
                                              refine lv_istore (lv' := [(14, .int (0 : Int32)), (0, .ref b), (1, .ref (a o)), (4, .int c4_115), (5, .int c5_116), (7, .int v7_136), (9, .int (c9 ((70 : Int32) + v7_136))), (10, .int x143), (11, .int x145), (13, .int x149)]) hx hb dL_law_1159 hl (by decide) rfl (fun ls hl => ?_)
                                              have L211 : ∀ (c4_173 : Int32) (c5_174 : Int32) (c7_175 : Int32) (c9_176 : Int32) (c10_177 : Int32) (c11_178 : Int32) (c13_179 : Int32) (k181 : SX11 → Option (Int32)) (hk181 : ∀ (S_182 : SX11) (cu su : Nat) (hcu : cu + (0) ≤ 600130 ∧ su + 12 * (0) ≤ 7301080) (H : Heap) (locs : List Loc) (ls : Array Slot), k181 S_182 = some rs → va_P D vwCl (wX11 cy a o S_182) H → va_D (fun q : Nat => s.heap.size ≤ q) (wX11 cy a o S_182) → va_S (fun q : Nat => s.heap.size ≤ q) s.heap H locs → lv_has ls 17 [] → W p l e room_1 s m #[Value.ref b] below meth c H locs cu su (lw_Z below #[Value.ref b] s) (F0 m 1285 ls [])) (k183 : SX11 → Option (Int32)) (hk183 : ∀ (S_184 : SX11) (cu su : Nat) (hcu : cu + (f721 * 13492 + 13386) ≤ 600130 ∧ su + 12 * (f721 * 13492 + 13386) ≤ 7301080) (H : Heap) (locs : List Loc) (ls : Array Slot), k183 S_184 = some rs → va_P D vwCl (wX11 cy a o S_184) H → va_D (fun q : Nat => s.heap.size ≤ q) (wX11 cy a o S_184) → va_S (fun q : Nat => s.heap.size ≤ q) s.heap H locs → lv_has ls 17 [(0, .ref b), (1, .ref (a o)), (4, .int c4_173), (5, .int c5_174), (7, .int c7_175), (9, .int c9_176), (10, .int c10_177), (11, .int c11_178)] → W p l e room_1 s m #[Value.ref b] below meth c H locs cu su (lw_Z below #[Value.ref b] s) (F0 m 1293 ls [])) (f1161 : Nat) (v14_185 : Int32) (S_180 : SX11) (cu su : Nat) (hcu : cu + (f1161 * 2 + f721 * 13492 + 13386) ≤ 600130 ∧ su + 12 * (f1161 * 2 + f721 * 13492 + 13386) ≤ 7301080) (H : Heap) (locs : List Loc) (ls : Array Slot), DL_law_L1161 c9 c4_173 c5_174 c7_175 c9_176 c10_177 c11_178 c13_179 k181 k183 f1161 v14_185 S_180 = some rs → va_P D vwCl (wX11 cy a o S_180) H → va_D (fun q : Nat => s.heap.size ≤ q) (wX11 cy a o S_180) → va_S (fun q : Nat => s.heap.size ≤ q) s.heap H locs → lv_has ls 17 [(0, .ref b), (1, .ref (a o)), (4, .int c4_173), (5, .int c5_174), (7, .int c7_175), (9, .int c9_176), (10, .int c10_177), (11, .int c11_178), (13, .int c13_179), (14, .int v14_185)] → W p l e room_1 s m #[Value.ref b] below meth c H locs cu su (lw_Z below #[Value.ref b] s) (F0 m 1161 ls []) := by
                                                intro c4_173 c5_174 c7_175 c9_176 c10_177 c11_178 c13_179 k181 hk181 k183 hk183 f1161
                                                induction f1161 with
                                                | zero =>
                                                  intro v14_185 S_180 cu su hcu H locs ls h hP hD hS hl
                                                  rw [DL_law_L1161] at h
                                                  cases h
                                                | succ f1161 ih1161 =>
                                                  intro v14_185 S_180 cu su hcu H locs ls h hP hD hS hl
                                                  rw [DL_law_L1161] at h
                                                  refine lv_iload hx hb dL_law_1161 (lv_at hl 9 rfl) ?_
                                                  refine lv_iload hx hb dL_law_1163 (lv_at hl 2 rfl) ?_
                                                  refine lv_iload hx hb dL_law_1165 (lv_at hl 3 rfl) ?_
                                                  refine lv_imul hx hb dL_law_1167 ?_
                                                  refine lv_icmp_ge (tgt := 1293) hx hb dL_law_1168 (by decide) (fun cc => ?_) (fun cc => ?_)
                                                  · have h := ite_p cc h
                                                    exact hk183 S_180 cu su ⟨by omega, by omega⟩ H locs ls h hP hD hS (lv_sub hl [0, 1, 2, 3, 4, 5, 6, 7] rfl)
                                                  · have h := ite_n cc h
                                                    refine lv_iload hx hb dL_law_1171 (lv_at hl 5 rfl) ?_
                                                    refine lv_bipush (v := (7 : Int32)) hx hb dL_law_1173 (by decide) ?_
                                                    refine lv_iload hx hb dL_law_1175 (lv_at hl 9 rfl) ?_
                                                    refine lv_imul hx hb dL_law_1177 ?_
                                                    refine lv_iadd hx hb dL_law_1178 ?_
                                                    refine lv_iconst (v := (2 : Int32)) hx hb dL_law_1179 (by decide) ?_
                                                    refine lv_ishr hx hb dL_law_1180 ?_
                                                    refine lv_iload hx hb dL_law_1181 (lv_at hl 8 rfl) ?_
                                                    refine lv_iconst (v := (2 : Int32)) hx hb dL_law_1183 (by decide) ?_
                                                    obtain ⟨j188, hj188, h⟩ := jn_elim h
                                                    have Jj188 : ∀ (x186 : Int32) (S_187 : SX11) (cu su : Nat) (hcu : cu + (f1161 * 2 + f721 * 13492 + 13388) ≤ 600130 ∧ su + 12 * (f1161 * 2 + f721 * 13492 + 13388) ≤ 7301080) (H : Heap) (locs : List Loc) (ls : Array Slot), j188 x186 S_187 = some rs → va_P D vwCl (wX11 cy a o S_187) H → va_D (fun q : Nat => s.heap.size ≤ q) (wX11 cy a o S_187) → va_S (fun q : Nat => s.heap.size ≤ q) s.heap H locs → lv_has ls 17 [(0, .ref b), (1, .ref (a o)), (4, .int c4_173), (5, .int c5_174), (7, .int c7_175), (9, .int c9_176), (10, .int c10_177), (11, .int c11_178), (13, .int c13_179), (14, .int v14_185)] → W p l e room_1 s m #[Value.ref b] below meth c H locs cu su (lw_Z below #[Value.ref b] s) (F0 m 1209 ls [.int x186, .int ((c9_176 + ((7 : Int32) * v14_185)) >>> ((2 : Int32) &&& 31))]) := by
                                                      intro x186 S_187 cu su hcu H locs ls h hP hD hS hl
                                                      rw [hj188] at h
                                                      obtain ⟨x189, e190, h⟩ := bd_some h
                                                      refine pcS (As := [.int ((c9_176 + ((7 : Int32) * v14_185)) >>> ((2 : Int32) &&& 31)), .int x186]) (rest := []) (qL_low l D cy  ((c9_176 + ((7 : Int32) * v14_185)) >>> ((2 : Int32) &&& 31)) x186 x189 e190) ⟨hx, hb, hml, hown, hts⟩ (va_cwS 2 hts gL_law_L_low rfl rfl rfl (by decide +kernel) ⟨Nat.le_of_ble_eq_true rfl, Nat.le_of_ble_eq_true rfl⟩) hG (hP.sub [] rfl) rfl hl.1 rfl (Nat.le_of_ble_eq_true rfl) dL_law_1209 ⟨show cu ≤ 600130 by omega, show su ≤ 7301080 by omega⟩ ?_
                                                      refine lv_istore (lv' := [(15, .int x189), (0, .ref b), (1, .ref (a o)), (4, .int c4_173), (5, .int c5_174), (7, .int c7_175), (9, .int c9_176), (10, .int c10_177), (11, .int c11_178), (13, .int c13_179), (14, .int v14_185)]) hx hb dL_law_1212 hl (by decide) rfl (fun ls hl => ?_)
                                                      refine lv_iload hx hb dL_law_1214 (lv_at hl 6 rfl) ?_
                                                      refine lv_iload hx hb dL_law_1216 (lv_at hl 10 rfl) ?_
                                                      refine lv_iadd hx hb dL_law_1218 ?_
                                                      refine lv_bipush (v := (11 : Int32)) hx hb dL_law_1219 (by decide) ?_
                                                      obtain ⟨x191, e192, h⟩ := bd_some h
                                                      refine pcS (As := [.int (c9_176 + v14_185), .int (11 : Int32)]) (rest := []) (qL_low l D cy  (c9_176 + v14_185) (11 : Int32) x191 e192) ⟨hx, hb, hml, hown, hts⟩ (va_cwS 2 hts gL_law_L_low rfl rfl rfl (by decide +kernel) ⟨Nat.le_of_ble_eq_true rfl, Nat.le_of_ble_eq_true rfl⟩) hG (hP.sub [] rfl) rfl hl.1 rfl (Nat.le_of_ble_eq_true rfl) dL_law_1221 ⟨show cu ≤ 600130 by omega, show su ≤ 7301080 by omega⟩ ?_
                                                      obtain ⟨j195, hj195, h⟩ := jn_elim h
                                                      have Jj195 : ∀ (x193 : Int32) (S_194 : SX11) (cu su : Nat) (hcu : cu + (f1161 * 2 + f721 * 13492 + 13387) ≤ 600130 ∧ su + 12 * (f1161 * 2 + f721 * 13492 + 13387) ≤ 7301080) (H : Heap) (locs : List Loc) (ls : Array Slot), j195 x193 S_194 = some rs → va_P D vwCl (wX11 cy a o S_194) H → va_D (fun q : Nat => s.heap.size ≤ q) (wX11 cy a o S_194) → va_S (fun q : Nat => s.heap.size ≤ q) s.heap H locs → lv_has ls 17 [(0, .ref b), (1, .ref (a o)), (4, .int c4_173), (5, .int c5_174), (7, .int c7_175), (9, .int c9_176), (10, .int c10_177), (11, .int c11_178), (13, .int c13_179), (14, .int v14_185)] → W p l e room_1 s m #[Value.ref b] below meth c H locs cu su (lw_Z below #[Value.ref b] s) (F0 m 1260 ls [.int x193]) := by
                                                        intro x193 S_194 cu su hcu H locs ls h hP hD hS hl
                                                        rw [hj195] at h
                                                        refine lv_istore (lv' := [(16, .int x193), (0, .ref b), (1, .ref (a o)), (4, .int c4_173), (5, .int c5_174), (7, .int c7_175), (9, .int c9_176), (10, .int c10_177), (11, .int c11_178), (13, .int c13_179), (14, .int v14_185)]) hx hb dL_law_1260 hl (by decide) rfl (fun ls hl => ?_)
                                                        refine lv_iload hx hb dL_law_1262 (lv_at hl 0 rfl) ?_
                                                        refine lv_sipush (v := (-902 : Int32)) hx hb dL_law_1264 (by decide) ?_
                                                        obtain ⟨j197, hj197, h⟩ := jn_elim h
                                                        have Jj197 : ∀ (S_196 : SX11) (cu su : Nat) (hcu : cu + (f1161 * 2 + f721 * 13492 + 13386) ≤ 600130 ∧ su + 12 * (f1161 * 2 + f721 * 13492 + 13386) ≤ 7301080) (H : Heap) (locs : List Loc) (ls : Array Slot), j197 S_196 = some rs → va_P D vwCl (wX11 cy a o S_196) H → va_D (fun q : Nat => s.heap.size ≤ q) (wX11 cy a o S_196) → va_S (fun q : Nat => s.heap.size ≤ q) s.heap H locs → lv_has ls 17 [(0, .ref b), (1, .ref (a o)), (4, .int c4_173), (5, .int c5_174), (7, .int c7_175), (9, .int c9_176), (10, .int c10_177), (11, .int c11_178), (13, .int c13_179), (14, .int v14_185)] → W p l e room_1 s m #[Value.ref b] below meth c H locs cu su (lw_Z below #[Value.ref b] s) (F0 m 1287 ls []) := by
                                                          intro S_196 cu su hcu H locs ls h hP hD hS hl
                                                          rw [hj197] at h
                                                          refine lv_iinc (v := (v14_185 + (1 : Int32))) (lv' := [(14, .int (v14_185 + (1 : Int32))), (0, .ref b), (1, .ref (a o)), (4, .int c4_173), (5, .int c5_174), (7, .int c7_175), (9, .int c9_176), (10, .int c10_177), (11, .int c11_178), (13, .int c13_179)]) hx hb dL_law_1287 hl (k := 9) rfl (by rfl) (by decide) rfl (fun ls hl => ?_)
                                                          refine lv_goto (tgt := 1161) hx hb dL_law_1290 (by decide) ?_
                                                          exact ih1161 (v14_185 + (1 : Int32)) S_196 cu su ⟨by omega, by omega⟩ H locs ls h hP hD hS (lv_sub hl [1, 2, 3, 4, 5, 6, 7, 8, 9, 0] rfl)
                                                        refine lv_icmp_eq (tgt := 1287) hx hb dL_law_1267 (by decide) (fun cc => ?_) (fun cc => ?_)
                                                        · have h := ite_p cc h
                                                          exact Jj197 S_194 cu su ⟨by omega, by omega⟩ H locs ls h hP hD hS (lv_sub hl [1, 2, 3, 4, 5, 6, 7, 8, 9, 10] rfl)
                                                        · have h := ite_n cc h
                                                          refine lv_iload hx hb dL_law_1270 (lv_at hl 0 rfl) ?_
                                                          refine lv_aload_n hx hb dL_law_1272 rfl (lv_at hl 2 rfl) ?_
                                                          refine lv_iload hx hb dL_law_1273 (lv_at hl 10 rfl) ?_
                                                          refine lv_iload hx hb dL_law_1275 (lv_at hl 4 rfl) ?_
                                                          obtain ⟨g198, h⟩ := gz_some h
                                                          refine lv_idiv hx hb dL_law_1277 g198 ?_
                                                          refine lv_iconst (v := (3 : Int32)) hx hb dL_law_1278 (by decide) ?_
                                                          obtain ⟨x199, e200, h⟩ := bd_some h
                                                          refine lcW (Re := []) (S := S_194) (rs := (x199, S_194)) (c2 := (cu + 1)) (s2 := (su + 6)) hG hGX hN hP hD hS hA (fun h1 h2 => vx_runSX (As := [.ref (a o), .int (v14_185 / c5_174), .int (3 : Int32)]) (rest := [.int x193]) ⟨hx, hb, hml, hown, hts⟩ (qL_entrant l hl9 D cy tt a o S_194 (v14_185 / c5_174) (3 : Int32) (H).size x199 e200) (vx_cwSW 3 hts gL_law_L_entrant rfl rfl rfl (by decide +kernel) ⟨Nat.le_of_ble_eq_true rfl, Nat.le_of_ble_eq_true rfl⟩) ⟨h1, h2⟩ rfl rfl hl.1 rfl (lv_room (Nat.le_of_ble_eq_true rfl)) dL_law_1279 ⟨show cu + 1 ≤ 600130 by omega, show su + 6 ≤ 7301080 by omega⟩) rfl rfl (fun H locs hP hD hS => ?_)
                                                          refine lv_icmp_eq (tgt := 1287) hx hb dL_law_1282 (by decide) (fun cc => ?_) (fun cc => ?_)
                                                          · have h := ite_p cc h
                                                            exact Jj197 S_194 (cu + 1) (su + 6) ⟨by omega, by omega⟩ H locs ls h hP hD hS (lv_sub hl [1, 2, 3, 4, 5, 6, 7, 8, 9, 10] rfl)
                                                          · have h := ite_n cc h
                                                            exact hk181 S_194 (cu + 1) (su + 6) ⟨by omega, by omega⟩ H locs ls h hP hD hS (lv_sub hl [] rfl)
                                                      refine lv_if_ne (tgt := 1244) hx hb dL_law_1224 (by decide) (fun cc => ?_) (fun cc => ?_)
                                                      · have h := ite_n cc h
                                                        refine lv_aload_n hx hb dL_law_1244 rfl (lv_at hl 2 rfl) ?_
                                                        refine lv_iload hx hb dL_law_1245 (lv_at hl 10 rfl) ?_
                                                        refine lv_iload hx hb dL_law_1247 (lv_at hl 4 rfl) ?_
                                                        obtain ⟨g201, h⟩ := gz_some h
                                                        refine lv_irem hx hb dL_law_1249 g201 ?_
                                                        refine lv_iload hx hb dL_law_1250 (lv_at hl 10 rfl) ?_
                                                        refine lv_iload hx hb dL_law_1252 (lv_at hl 4 rfl) ?_
                                                        obtain ⟨g202, h⟩ := gz_some h
                                                        refine lv_idiv hx hb dL_law_1254 g202 ?_
                                                        refine lv_iload hx hb dL_law_1255 (lv_at hl 0 rfl) ?_
                                                        obtain ⟨x203, e204, h⟩ := bd_some h
                                                        refine lcW (Re := []) (S := S_187) (rs := x203) (c2 := (cu + 1)) (s2 := (su + 6)) hG hGX hN hP hD hS hA (fun h1 h2 => vx_runSX (As := [.ref (a o), .int (v14_185 - v14_185 / c5_174 * c5_174), .int (v14_185 / c5_174), .int x189]) (rest := []) ⟨hx, hb, hml, hown, hts⟩ (qL_mark l hl9 D cy tt a o S_187 (v14_185 - v14_185 / c5_174 * c5_174) (v14_185 / c5_174) x189 (H).size x203 e204) (vx_cwSW 4 hts gL_law_L_mark rfl rfl rfl (by decide +kernel) ⟨Nat.le_of_ble_eq_true rfl, Nat.le_of_ble_eq_true rfl⟩) ⟨h1, h2⟩ rfl rfl hl.1 rfl (lv_room (Nat.le_of_ble_eq_true rfl)) dL_law_1257 ⟨show cu + 1 ≤ 600130 by omega, show su + 6 ≤ 7301080 by omega⟩) rfl rfl (fun H locs hP hD hS => ?_)
                                                        exact Jj195 x203.1 x203.2 (cu + 1) (su + 6) ⟨by omega, by omega⟩ H locs ls h hP hD hS (lv_sub hl [1, 2, 3, 4, 5, 6, 7, 8, 9, 10] rfl)
                                                      · have h := ite_p cc h
                                                        refine lv_aload_n hx hb dL_law_1227 rfl (lv_at hl 2 rfl) ?_
                                                        refine lv_iload hx hb dL_law_1228 (lv_at hl 10 rfl) ?_
                                                        refine lv_iload hx hb dL_law_1230 (lv_at hl 4 rfl) ?_
                                                        obtain ⟨g205, h⟩ := gz_some h
                                                        refine lv_irem hx hb dL_law_1232 g205 ?_
                                                        refine lv_iload hx hb dL_law_1233 (lv_at hl 10 rfl) ?_
                                                        refine lv_iload hx hb dL_law_1235 (lv_at hl 4 rfl) ?_
                                                        obtain ⟨g206, h⟩ := gz_some h
                                                        refine lv_idiv hx hb dL_law_1237 g206 ?_
                                                        obtain ⟨x207, e208, h⟩ := bd_some h
                                                        refine lcW (Re := []) (S := S_187) (rs := x207) (c2 := (cu + 1)) (s2 := (su + 6)) hG hGX hN hP hD hS hA (fun h1 h2 => vx_runSX (As := [.ref (a o), .int (v14_185 - v14_185 / c5_174 * c5_174), .int (v14_185 / c5_174)]) (rest := []) ⟨hx, hb, hml, hown, hts⟩ (qL_abstain l hl9 D cy tt a o S_187 (v14_185 - v14_185 / c5_174 * c5_174) (v14_185 / c5_174) (H).size x207 e208) (vx_cwSW 3 hts gL_law_L_abstain rfl rfl rfl (by decide +kernel) ⟨Nat.le_of_ble_eq_true rfl, Nat.le_of_ble_eq_true rfl⟩) ⟨h1, h2⟩ rfl rfl hl.1 rfl (lv_room (Nat.le_of_ble_eq_true rfl)) dL_law_1238 ⟨show cu + 1 ≤ 600130 by omega, show su + 6 ≤ 7301080 by omega⟩) rfl rfl (fun H locs hP hD hS => ?_)
                                                        refine lv_goto (tgt := 1260) hx hb dL_law_1241 (by decide) ?_
                                                        exact Jj195 x207.1 x207.2 (cu + 1) (su + 6) ⟨by omega, by omega⟩ H locs ls h hP hD hS (lv_sub hl [1, 2, 3, 4, 5, 6, 7, 8, 9, 10] rfl)
                                                    refine lv_icmp_ne (tgt := 1191) hx hb dL_law_1184 (by decide) (fun cc => ?_) (fun cc => ?_)
                                                    · have h := ite_n cc h
                                                      refine lv_iload hx hb dL_law_1191 (lv_at hl 5 rfl) ?_
                                                      refine lv_bipush (v := (9 : Int32)) hx hb dL_law_1193 (by decide) ?_
                                                      refine lv_ishr hx hb dL_law_1195 ?_
                                                      refine lv_iconst (v := (2 : Int32)) hx hb dL_law_1196 (by decide) ?_
                                                      obtain ⟨x209, e210, h⟩ := bd_some h
                                                      refine pcS (As := [.int (c9_176 >>> ((9 : Int32) &&& 31)), .int (2 : Int32)]) (rest := [.int ((c9_176 + ((7 : Int32) * v14_185)) >>> ((2 : Int32) &&& 31))]) (qL_low l D cy  (c9_176 >>> ((9 : Int32) &&& 31)) (2 : Int32) x209 e210) ⟨hx, hb, hml, hown, hts⟩ (va_cwS 2 hts gL_law_L_low rfl rfl rfl (by decide +kernel) ⟨Nat.le_of_ble_eq_true rfl, Nat.le_of_ble_eq_true rfl⟩) hG (hP.sub [] rfl) rfl hl.1 rfl (Nat.le_of_ble_eq_true rfl) dL_law_1197 ⟨show cu ≤ 600130 by omega, show su ≤ 7301080 by omega⟩ ?_
                                                      refine lv_if_ne (tgt := 1207) hx hb dL_law_1200 (by decide) (fun cc => ?_) (fun cc => ?_)
                                                      · have h := ite_n cc h
                                                        refine lv_bipush (v := (101 : Int32)) hx hb dL_law_1207 (by decide) ?_
                                                        exact Jj188 (101 : Int32) S_180 cu su ⟨by omega, by omega⟩ H locs ls h hP hD hS (lv_sub hl [0, 1, 2, 3, 4, 5, 6, 7, 8, 9] rfl)
                                                      · have h := ite_p cc h
                                                        refine lv_iconst (v := (4 : Int32)) hx hb dL_law_1203 (by decide) ?_
                                                        refine lv_goto (tgt := 1209) hx hb dL_law_1204 (by decide) ?_
                                                        exact Jj188 (4 : Int32) S_180 cu su ⟨by omega, by omega⟩ H locs ls h hP hD hS (lv_sub hl [0, 1, 2, 3, 4, 5, 6, 7, 8, 9] rfl)
                                                    · have h := ite_p cc h
                                                      refine lv_iconst (v := (4 : Int32)) hx hb dL_law_1187 (by decide) ?_
                                                      refine lv_goto (tgt := 1209) hx hb dL_law_1188 (by decide) ?_
                                                      exact Jj188 (4 : Int32) S_180 cu su ⟨by omega, by omega⟩ H locs ls h hP hD hS (lv_sub hl [0, 1, 2, 3, 4, 5, 6, 7, 8, 9] rfl)
                                              exact L211 c4_115 c5_116 v7_136 (c9 ((70 : Int32) + v7_136)) x143 x145 x149 _ hk126 _ Jj152 71 (0 : Int32) S_171 cu su ⟨by omega, by omega⟩ H locs ls h hP hD hS (lv_sub hl [1, 2, 3, 4, 5, 6, 7, 8, 9, 0] rfl)
                                            refine lv_icmp_ne (tgt := 1158) hx hb dL_law_1053 (by decide) (fun cc => ?_) (fun cc => ?_)
                                            · have h := ite_n cc h
                                              exact Jj172 S_169 cu su ⟨by omega, by omega⟩ H locs ls h hP hD hS (lv_sub hl [0, 1, 2, 3, 4, 5, 6, 7, 9] rfl)
                                            · have h := ite_p cc h
                                              refine lv_iload hx hb dL_law_1056 (lv_at hl 5 rfl) ?_
                                              refine lv_iconst (v := (3 : Int32)) hx hb dL_law_1058 (by decide) ?_
                                              obtain ⟨x212, e213, h⟩ := bd_some h
                                              refine pcS (As := [.int (c9 ((70 : Int32) + v7_136)), .int (3 : Int32)]) (rest := []) (qL_low l D cy  (c9 ((70 : Int32) + v7_136)) (3 : Int32) x212 e213) ⟨hx, hb, hml, hown, hts⟩ (va_cwS 2 hts gL_law_L_low rfl rfl rfl (by decide +kernel) ⟨Nat.le_of_ble_eq_true rfl, Nat.le_of_ble_eq_true rfl⟩) hG (hP.sub [] rfl) rfl hl.1 rfl (Nat.le_of_ble_eq_true rfl) dL_law_1059 ⟨show cu ≤ 600130 by omega, show su ≤ 7301080 by omega⟩ ?_
                                              refine lv_if_ne (tgt := 1158) hx hb dL_law_1062 (by decide) (fun cc => ?_) (fun cc => ?_)
                                              · have h := ite_n cc h
                                                exact Jj172 S_169 cu su ⟨by omega, by omega⟩ H locs ls h hP hD hS (lv_sub hl [0, 1, 2, 3, 4, 5, 6, 7, 9] rfl)
                                              · have h := ite_p cc h
                                                refine lv_aload_n hx hb dL_law_1065 rfl (lv_at hl 1 rfl) ?_
                                                refine lv_bipush (v := (7 : Int32)) hx hb dL_law_1066 (by decide) ?_
                                                obtain ⟨x214, e215, h⟩ := bd_some h
                                                refine lcW (Re := []) (S := S_169) (rs := (x214, S_169)) (c2 := (cu + 1)) (s2 := (su + 6)) hG hGX hN hP hD hS hA (fun h1 h2 => vx_runSX (As := [.ref (a o), .int (7 : Int32)]) (rest := []) ⟨hx, hb, hml, hown, hts⟩ (qL_info l hl9 D cy tt a o S_169 (7 : Int32) (H).size x214 e215) (vx_cwSW 2 hts gL_law_L_info rfl rfl rfl (by decide +kernel) ⟨Nat.le_of_ble_eq_true rfl, Nat.le_of_ble_eq_true rfl⟩) ⟨h1, h2⟩ rfl rfl hl.1 rfl (lv_room (Nat.le_of_ble_eq_true rfl)) dL_law_1068 ⟨show cu + 1 ≤ 600130 by omega, show su + 6 ≤ 7301080 by omega⟩) rfl rfl (fun H locs hP hD hS => ?_)
                                                refine lv_istore (lv' := [(14, .int x214), (0, .ref b), (1, .ref (a o)), (4, .int c4_115), (5, .int c5_116), (7, .int v7_136), (9, .int (c9 ((70 : Int32) + v7_136))), (10, .int x143), (11, .int x145), (12, .int x147), (13, .int x149)]) hx hb dL_law_1071 hl (by decide) rfl (fun ls hl => ?_)
                                                refine lv_aload_n hx hb dL_law_1073 rfl (lv_at hl 2 rfl) ?_
                                                refine lv_iload hx hb dL_law_1074 (lv_at hl 7 rfl) ?_
                                                refine lv_iconst (v := (0 : Int32)) hx hb dL_law_1076 (by decide) ?_
                                                obtain ⟨x216, e217, h⟩ := bd_some h
                                                refine lcW (Re := []) (S := S_169) (rs := (x216, S_169)) (c2 := (cu + 2)) (s2 := (su + 12)) hG hGX hN hP hD hS hA (fun h1 h2 => vx_runSX (As := [.ref (a o), .int x143, .int (0 : Int32)]) (rest := []) ⟨hx, hb, hml, hown, hts⟩ (qL_entrant l hl9 D cy tt a o S_169 x143 (0 : Int32) (H).size x216 e217) (vx_cwSW 3 hts gL_law_L_entrant rfl rfl rfl (by decide +kernel) ⟨Nat.le_of_ble_eq_true rfl, Nat.le_of_ble_eq_true rfl⟩) ⟨h1, h2⟩ rfl rfl hl.1 rfl (lv_room (Nat.le_of_ble_eq_true rfl)) dL_law_1077 ⟨show (cu + 1) + 1 ≤ 600130 by omega, show (su + 6) + 6 ≤ 7301080 by omega⟩) rfl rfl (fun H locs hP hD hS => ?_)
                                                refine lv_istore (lv' := [(15, .int x216), (14, .int x214), (0, .ref b), (1, .ref (a o)), (4, .int c4_115), (5, .int c5_116), (7, .int v7_136), (9, .int (c9 ((70 : Int32) + v7_136))), (10, .int x143), (11, .int x145), (12, .int x147), (13, .int x149)]) hx hb dL_law_1080 hl (by decide) rfl (fun ls hl => ?_)
                                                refine lv_aload_n hx hb dL_law_1082 rfl (lv_at hl 3 rfl) ?_
                                                refine lv_iload hx hb dL_law_1083 (lv_at hl 8 rfl) ?_
                                                obtain ⟨x218, e219, h⟩ := bd_some h
                                                refine lcW (Re := []) (S := S_169) (rs := x218) (c2 := (cu + 3)) (s2 := (su + 18)) hG hGX hN hP hD hS hA (fun h1 h2 => vx_runSX (As := [.ref (a o), .int x143]) (rest := []) ⟨hx, hb, hml, hown, hts⟩ (qL_withdraw l hl9 D cy tt a o S_169 x143 (H).size x218 e219) (vx_cwSW 2 hts gL_law_L_withdraw rfl rfl rfl (by decide +kernel) ⟨Nat.le_of_ble_eq_true rfl, Nat.le_of_ble_eq_true rfl⟩) ⟨h1, h2⟩ rfl rfl hl.1 rfl (lv_room (Nat.le_of_ble_eq_true rfl)) dL_law_1085 ⟨show (cu + 2) + 1 ≤ 600130 by omega, show (su + 12) + 6 ≤ 7301080 by omega⟩) rfl rfl (fun H locs hP hD hS => ?_)
                                                refine lv_istore (lv' := [(16, .int x218.1), (15, .int x216), (14, .int x214), (0, .ref b), (1, .ref (a o)), (4, .int c4_115), (5, .int c5_116), (7, .int v7_136), (9, .int (c9 ((70 : Int32) + v7_136))), (10, .int x143), (11, .int x145), (12, .int x147), (13, .int x149)]) hx hb dL_law_1088 hl (by decide) rfl (fun ls hl => ?_)
                                                refine lv_iload hx hb dL_law_1090 (lv_at hl 0 rfl) ?_
                                                refine lv_sipush (v := (-902 : Int32)) hx hb dL_law_1092 (by decide) ?_
                                                obtain ⟨j221, hj221, h⟩ := jn_elim h
                                                have Jj221 : ∀ (S_220 : SX11) (cu su : Nat) (hcu : cu + (f721 * 13492 + 13387) ≤ 600130 ∧ su + 12 * (f721 * 13492 + 13387) ≤ 7301080) (H : Heap) (locs : List Loc) (ls : Array Slot), j221 S_220 = some rs → va_P D vwCl (wX11 cy a o S_220) H → va_D (fun q : Nat => s.heap.size ≤ q) (wX11 cy a o S_220) → va_S (fun q : Nat => s.heap.size ≤ q) s.heap H locs → lv_has ls 17 [(0, .ref b), (1, .ref (a o)), (4, .int c4_115), (5, .int c5_116), (7, .int v7_136), (9, .int (c9 ((70 : Int32) + v7_136))), (10, .int x143), (11, .int x145), (14, .int x214), (16, .int x218.1)] → W p l e room_1 s m #[Value.ref b] below meth c H locs cu su (lw_Z below #[Value.ref b] s) (F0 m 1134 ls []) := by
                                                  intro S_220 cu su hcu H locs ls h hP hD hS hl
                                                  rw [hj221] at h
                                                  refine lv_iload hx hb dL_law_1134 (lv_at hl 9 rfl) ?_
                                                  refine lv_sipush (v := (-902 : Int32)) hx hb dL_law_1136 (by decide) ?_
                                                  obtain ⟨j223, hj223, h⟩ := jn_elim h
                                                  have Jj223 : ∀ (S_222 : SX11) (cu su : Nat) (hcu : cu + (f721 * 13492 + 13386) ≤ 600130 ∧ su + 12 * (f721 * 13492 + 13386) ≤ 7301080) (H : Heap) (locs : List Loc) (ls : Array Slot), j223 S_222 = some rs → va_P D vwCl (wX11 cy a o S_222) H → va_D (fun q : Nat => s.heap.size ≤ q) (wX11 cy a o S_222) → va_S (fun q : Nat => s.heap.size ≤ q) s.heap H locs → lv_has ls 17 [(0, .ref b), (1, .ref (a o)), (4, .int c4_115), (5, .int c5_116), (7, .int v7_136), (9, .int (c9 ((70 : Int32) + v7_136))), (10, .int x143), (11, .int x145)] → W p l e room_1 s m #[Value.ref b] below meth c H locs cu su (lw_Z below #[Value.ref b] s) (F0 m 1155 ls []) := by
                                                    intro S_222 cu su hcu H locs ls h hP hD hS hl
                                                    rw [hj223] at h
                                                    refine lv_goto (tgt := 1293) hx hb dL_law_1155 (by decide) ?_
                                                    exact Jj152 S_222 cu su ⟨by omega, by omega⟩ H locs ls h hP hD hS (lv_sub hl [0, 1, 2, 3, 4, 5, 6, 7] rfl)
                                                  refine lv_icmp_ne (tgt := 1155) hx hb dL_law_1139 (by decide) (fun cc => ?_) (fun cc => ?_)
                                                  · have h := ite_n cc h
                                                    exact Jj223 S_220 cu su ⟨by omega, by omega⟩ H locs ls h hP hD hS (lv_sub hl [0, 1, 2, 3, 4, 5, 6, 7] rfl)
                                                  · have h := ite_p cc h
                                                    refine lv_aload_n hx hb dL_law_1142 rfl (lv_at hl 1 rfl) ?_
                                                    refine lv_bipush (v := (7 : Int32)) hx hb dL_law_1143 (by decide) ?_
                                                    obtain ⟨x224, e225, h⟩ := bd_some h
                                                    refine lcW (Re := []) (S := S_220) (rs := (x224, S_220)) (c2 := (cu + 1)) (s2 := (su + 6)) hG hGX hN hP hD hS hA (fun h1 h2 => vx_runSX (As := [.ref (a o), .int (7 : Int32)]) (rest := []) ⟨hx, hb, hml, hown, hts⟩ (qL_info l hl9 D cy tt a o S_220 (7 : Int32) (H).size x224 e225) (vx_cwSW 2 hts gL_law_L_info rfl rfl rfl (by decide +kernel) ⟨Nat.le_of_ble_eq_true rfl, Nat.le_of_ble_eq_true rfl⟩) ⟨h1, h2⟩ rfl rfl hl.1 rfl (lv_room (Nat.le_of_ble_eq_true rfl)) dL_law_1145 ⟨show cu + 1 ≤ 600130 by omega, show su + 6 ≤ 7301080 by omega⟩) rfl rfl (fun H locs hP hD hS => ?_)
                                                    refine lv_iload hx hb dL_law_1148 (lv_at hl 8 rfl) ?_
                                                    refine lv_icmp_eq (tgt := 1155) hx hb dL_law_1150 (by decide) (fun cc => ?_) (fun cc => ?_)
                                                    · have h := ite_p cc h
                                                      exact Jj223 S_220 (cu + 1) (su + 6) ⟨by omega, by omega⟩ H locs ls h hP hD hS (lv_sub hl [0, 1, 2, 3, 4, 5, 6, 7] rfl)
                                                    · have h := ite_n cc h
                                                      exact hk124 S_220 (cu + 1) (su + 6) ⟨by omega, by omega⟩ H locs ls h hP hD hS (lv_sub hl [] rfl)
                                                refine lv_icmp_eq (tgt := 1134) hx hb dL_law_1095 (by decide) (fun cc => ?_) (fun cc => ?_)
                                                · have h := ite_p cc h
                                                  exact Jj221 x218.2 (cu + 3) (su + 18) ⟨by omega, by omega⟩ H locs ls h hP hD hS (lv_sub hl [3, 4, 5, 6, 7, 8, 9, 10, 2, 0] rfl)
                                                · have h := ite_n cc h
                                                  refine lv_iload hx hb dL_law_1098 (lv_at hl 0 rfl) ?_
                                                  refine lv_iload hx hb dL_law_1100 (lv_at hl 2 rfl) ?_
                                                  refine lv_iconst (v := (1 : Int32)) hx hb dL_law_1102 (by decide) ?_
                                                  refine lv_isub hx hb dL_law_1103 ?_
                                                  refine lv_icmp_ne (tgt := 1153) hx hb dL_law_1104 (by decide) (fun cc => ?_) (fun cc => ?_)
                                                  · have h := ite_n cc h
                                                    exact hk124 x218.2 (cu + 3) (su + 18) ⟨by omega, by omega⟩ H locs ls h hP hD hS (lv_sub hl [] rfl)
                                                  · have h := ite_p cc h
                                                    refine lv_iload hx hb dL_law_1107 (lv_at hl 1 rfl) ?_
                                                    refine lv_iconst (v := (1 : Int32)) hx hb dL_law_1109 (by decide) ?_
                                                    refine lv_icmp_ne (tgt := 1153) hx hb dL_law_1110 (by decide) (fun cc => ?_) (fun cc => ?_)
                                                    · have h := ite_n cc h
                                                      exact hk124 x218.2 (cu + 3) (su + 18) ⟨by omega, by omega⟩ H locs ls h hP hD hS (lv_sub hl [] rfl)
                                                    · have h := ite_p cc h
                                                      refine lv_aload_n hx hb dL_law_1113 rfl (lv_at hl 4 rfl) ?_
                                                      refine lv_iload hx hb dL_law_1114 (lv_at hl 9 rfl) ?_
                                                      refine lv_iconst (v := (0 : Int32)) hx hb dL_law_1116 (by decide) ?_
                                                      obtain ⟨x226, e227, h⟩ := bd_some h
                                                      refine lcW (Re := []) (S := x218.2) (rs := (x226, x218.2)) (c2 := (cu + 4)) (s2 := (su + 24)) hG hGX hN hP hD hS hA (fun h1 h2 => vx_runSX (As := [.ref (a o), .int x143, .int (0 : Int32)]) (rest := []) ⟨hx, hb, hml, hown, hts⟩ (qL_entrant l hl9 D cy tt a o x218.2 x143 (0 : Int32) (H).size x226 e227) (vx_cwSW 3 hts gL_law_L_entrant rfl rfl rfl (by decide +kernel) ⟨Nat.le_of_ble_eq_true rfl, Nat.le_of_ble_eq_true rfl⟩) ⟨h1, h2⟩ rfl rfl hl.1 rfl (lv_room (Nat.le_of_ble_eq_true rfl)) dL_law_1117 ⟨show (cu + 3) + 1 ≤ 600130 by omega, show (su + 18) + 6 ≤ 7301080 by omega⟩) rfl rfl (fun H locs hP hD hS => ?_)
                                                      refine lv_if_ne (tgt := 1153) hx hb dL_law_1120 (by decide) (fun cc => ?_) (fun cc => ?_)
                                                      · have h := ite_n cc h
                                                        exact hk124 x218.2 (cu + 4) (su + 24) ⟨by omega, by omega⟩ H locs ls h hP hD hS (lv_sub hl [] rfl)
                                                      · have h := ite_p cc h
                                                        refine lv_aload_n hx hb dL_law_1123 rfl (lv_at hl 4 rfl) ?_
                                                        refine lv_iload hx hb dL_law_1124 (lv_at hl 9 rfl) ?_
                                                        refine lv_iconst (v := (1 : Int32)) hx hb dL_law_1126 (by decide) ?_
                                                        obtain ⟨x228, e229, h⟩ := bd_some h
                                                        refine lcW (Re := []) (S := x218.2) (rs := (x228, x218.2)) (c2 := (cu + 5)) (s2 := (su + 30)) hG hGX hN hP hD hS hA (fun h1 h2 => vx_runSX (As := [.ref (a o), .int x143, .int (1 : Int32)]) (rest := []) ⟨hx, hb, hml, hown, hts⟩ (qL_entrant l hl9 D cy tt a o x218.2 x143 (1 : Int32) (H).size x228 e229) (vx_cwSW 3 hts gL_law_L_entrant rfl rfl rfl (by decide +kernel) ⟨Nat.le_of_ble_eq_true rfl, Nat.le_of_ble_eq_true rfl⟩) ⟨h1, h2⟩ rfl rfl hl.1 rfl (lv_room (Nat.le_of_ble_eq_true rfl)) dL_law_1127 ⟨show (cu + 4) + 1 ≤ 600130 by omega, show (su + 24) + 6 ≤ 7301080 by omega⟩) rfl rfl (fun H locs hP hD hS => ?_)
                                                        refine lv_iconst (v := (-1 : Int32)) hx hb dL_law_1130 (by decide) ?_
                                                        refine lv_icmp_ne (tgt := 1153) hx hb dL_law_1131 (by decide) (fun cc => ?_) (fun cc => ?_)
                                                        · have h := ite_n cc h
                                                          exact hk124 x218.2 (cu + 5) (su + 30) ⟨by omega, by omega⟩ H locs ls h hP hD hS (lv_sub hl [] rfl)
                                                        · have h := ite_p cc h
                                                          exact Jj221 x218.2 (cu + 5) (su + 30) ⟨by omega, by omega⟩ H locs ls h hP hD hS (lv_sub hl [3, 4, 5, 6, 7, 8, 9, 10, 2, 0] rfl)
                                          · have h := ite_p cc h
                                            refine lv_aload_n hx hb dL_law_1018 rfl (lv_at hl 1 rfl) ?_
                                            refine lv_iconst (v := (2 : Int32)) hx hb dL_law_1019 (by decide) ?_
                                            refine lv_iload hx hb dL_law_1020 (lv_at hl 5 rfl) ?_
                                            refine lv_bipush (v := (101 : Int32)) hx hb dL_law_1022 (by decide) ?_
                                            obtain ⟨x230, e231, h⟩ := bd_some h
                                            refine pcS (As := [.int (c9 ((70 : Int32) + v7_136)), .int (101 : Int32)]) (rest := [.int (2 : Int32), .ref (a o)]) (qL_low l D cy  (c9 ((70 : Int32) + v7_136)) (101 : Int32) x230 e231) ⟨hx, hb, hml, hown, hts⟩ (va_cwS 2 hts gL_law_L_low rfl rfl rfl (by decide +kernel) ⟨Nat.le_of_ble_eq_true rfl, Nat.le_of_ble_eq_true rfl⟩) hG (hP.sub [] rfl) rfl hl.1 rfl (Nat.le_of_ble_eq_true rfl) dL_law_1024 ⟨show cu ≤ 600130 by omega, show su ≤ 7301080 by omega⟩ ?_
                                            obtain ⟨x232, e233, h⟩ := bd_some h
                                            refine lcW (Re := []) (S := S_169) (rs := x232) (c2 := (cu + 1)) (s2 := (su + 6)) hG hGX hN hP hD hS hA (fun h1 h2 => vx_runSX (As := [.ref (a o), .int (2 : Int32), .int x230]) (rest := []) ⟨hx, hb, hml, hown, hts⟩ (qL_set l hl9 D cy tt a o S_169 (2 : Int32) x230 (H).size x232 e233) (vx_cwSW 3 hts gL_law_L_set rfl rfl rfl (by decide +kernel) ⟨Nat.le_of_ble_eq_true rfl, Nat.le_of_ble_eq_true rfl⟩) ⟨h1, h2⟩ rfl rfl hl.1 rfl (lv_room (Nat.le_of_ble_eq_true rfl)) dL_law_1027 ⟨show cu + 1 ≤ 600130 by omega, show su + 6 ≤ 7301080 by omega⟩) rfl rfl (fun H locs hP hD hS => ?_)
                                            refine lv_if_lt (tgt := 1048) hx hb dL_law_1030 (by decide) (fun cc => ?_) (fun cc => ?_)
                                            · have h := ite_p cc h
                                              exact hk122 x232.2 (cu + 1) (su + 6) ⟨by omega, by omega⟩ H locs ls h hP hD hS (lv_sub hl [] rfl)
                                            · have h := ite_n cc h
                                              refine lv_aload_n hx hb dL_law_1033 rfl (lv_at hl 1 rfl) ?_
                                              refine lv_iconst (v := (2 : Int32)) hx hb dL_law_1034 (by decide) ?_
                                              obtain ⟨x234, e235, h⟩ := bd_some h
                                              refine lcW (Re := []) (S := x232.2) (rs := (x234, x232.2)) (c2 := (cu + 2)) (s2 := (su + 12)) hG hGX hN hP hD hS hA (fun h1 h2 => vx_runSX (As := [.ref (a o), .int (2 : Int32)]) (rest := []) ⟨hx, hb, hml, hown, hts⟩ (qL_info l hl9 D cy tt a o x232.2 (2 : Int32) (H).size x234 e235) (vx_cwSW 2 hts gL_law_L_info rfl rfl rfl (by decide +kernel) ⟨Nat.le_of_ble_eq_true rfl, Nat.le_of_ble_eq_true rfl⟩) ⟨h1, h2⟩ rfl rfl hl.1 rfl (lv_room (Nat.le_of_ble_eq_true rfl)) dL_law_1035 ⟨show (cu + 1) + 1 ≤ 600130 by omega, show (su + 6) + 6 ≤ 7301080 by omega⟩) rfl rfl (fun H locs hP hD hS => ?_)
                                              refine lv_iload hx hb dL_law_1038 (lv_at hl 5 rfl) ?_
                                              refine lv_bipush (v := (101 : Int32)) hx hb dL_law_1040 (by decide) ?_
                                              obtain ⟨x236, e237, h⟩ := bd_some h
                                              refine pcS (As := [.int (c9 ((70 : Int32) + v7_136)), .int (101 : Int32)]) (rest := [.int x234]) (qL_low l D cy  (c9 ((70 : Int32) + v7_136)) (101 : Int32) x236 e237) ⟨hx, hb, hml, hown, hts⟩ (va_cwS 2 hts gL_law_L_low rfl rfl rfl (by decide +kernel) ⟨Nat.le_of_ble_eq_true rfl, Nat.le_of_ble_eq_true rfl⟩) hG (hP.sub [] rfl) rfl hl.1 rfl (Nat.le_of_ble_eq_true rfl) dL_law_1042 ⟨show (cu + 2) ≤ 600130 by omega, show (su + 12) ≤ 7301080 by omega⟩ ?_
                                              refine lv_icmp_eq (tgt := 1293) hx hb dL_law_1045 (by decide) (fun cc => ?_) (fun cc => ?_)
                                              · have h := ite_p cc h
                                                exact Jj152 x232.2 (cu + 2) (su + 12) ⟨by omega, by omega⟩ H locs ls h hP hD hS (lv_sub hl [0, 1, 2, 3, 4, 5, 6, 7] rfl)
                                              · have h := ite_n cc h
                                                exact hk122 x232.2 (cu + 2) (su + 12) ⟨by omega, by omega⟩ H locs ls h hP hD hS (lv_sub hl [] rfl)
                                        · have h := ite_p cc h
                                          refine lv_aload_n hx hb dL_law_914 rfl (lv_at hl 1 rfl) ?_
                                          refine lv_iload hx hb dL_law_915 (lv_at hl 7 rfl) ?_
                                          refine lv_iload hx hb dL_law_917 (lv_at hl 6 rfl) ?_
                                          refine lv_iload hx hb dL_law_919 (lv_at hl 5 rfl) ?_
                                          refine lv_iconst (v := (3 : Int32)) hx hb dL_law_921 (by decide) ?_
                                          obtain ⟨x238, e239, h⟩ := bd_some h
                                          refine pcS (As := [.int (c9 ((70 : Int32) + v7_136)), .int (3 : Int32)]) (rest := [.int x143, .int x145, .ref (a o)]) (qL_low l D cy  (c9 ((70 : Int32) + v7_136)) (3 : Int32) x238 e239) ⟨hx, hb, hml, hown, hts⟩ (va_cwS 2 hts gL_law_L_low rfl rfl rfl (by decide +kernel) ⟨Nat.le_of_ble_eq_true rfl, Nat.le_of_ble_eq_true rfl⟩) hG (hP.sub [] rfl) rfl hl.1 rfl (Nat.le_of_ble_eq_true rfl) dL_law_922 ⟨show cu ≤ 600130 by omega, show su ≤ 7301080 by omega⟩ ?_
                                          obtain ⟨j241, hj241, h⟩ := jn_elim h
                                          have Jj241 : ∀ (x240 : Int32) (cu su : Nat) (hcu : cu + (f721 * 13492 + 13389) ≤ 600130 ∧ su + 12 * (f721 * 13492 + 13389) ≤ 7301080) (ls : Array Slot), j241 x240 = some rs → lv_has ls 17 [(0, .ref b), (1, .ref (a o)), (4, .int c4_115), (5, .int c5_116), (7, .int v7_136), (9, .int (c9 ((70 : Int32) + v7_136))), (10, .int x143), (11, .int x145)] → W p l e room_1 s m #[Value.ref b] below meth c H locs cu su (lw_Z below #[Value.ref b] s) (F0 m 933 ls [.int x240, .int x143, .int x145, .ref (a o)]) := by
                                            intro x240 cu su hcu ls h hl
                                            rw [hj241] at h
                                            obtain ⟨x242, e243, h⟩ := bd_some h
                                            refine lcW (Re := []) (S := S_169) (rs := x242) (c2 := (cu + 1)) (s2 := (su + 6)) hG hGX hN hP hD hS hA (fun h1 h2 => vx_runSX (As := [.ref (a o), .int x145, .int x143, .int x240]) (rest := []) ⟨hx, hb, hml, hown, hts⟩ (qL_bar l hl9 D cy tt a o S_169 x145 x143 x240 (H).size x242 e243) (vx_cwSW 4 hts gL_law_L_bar rfl rfl rfl (by decide +kernel) ⟨Nat.le_of_ble_eq_true rfl, Nat.le_of_ble_eq_true rfl⟩) ⟨h1, h2⟩ rfl rfl hl.1 rfl (lv_room (Nat.le_of_ble_eq_true rfl)) dL_law_933 ⟨show cu + 1 ≤ 600130 by omega, show su + 6 ≤ 7301080 by omega⟩) rfl rfl (fun H locs hP hD hS => ?_)
                                            refine lv_istore (lv' := [(14, .int x242.1), (0, .ref b), (1, .ref (a o)), (4, .int c4_115), (5, .int c5_116), (7, .int v7_136), (9, .int (c9 ((70 : Int32) + v7_136))), (10, .int x143), (11, .int x145)]) hx hb dL_law_936 hl (by decide) rfl (fun ls hl => ?_)
                                            refine lv_aload_n hx hb dL_law_938 rfl (lv_at hl 2 rfl) ?_
                                            refine lv_iload hx hb dL_law_939 (lv_at hl 8 rfl) ?_
                                            refine lv_iload hx hb dL_law_941 (lv_at hl 7 rfl) ?_
                                            refine lv_iload hx hb dL_law_943 (lv_at hl 6 rfl) ?_
                                            refine lv_iconst (v := (3 : Int32)) hx hb dL_law_945 (by decide) ?_
                                            obtain ⟨x244, e245, h⟩ := bd_some h
                                            refine pcS (As := [.int (c9 ((70 : Int32) + v7_136)), .int (3 : Int32)]) (rest := [.int x143, .int x145, .ref (a o)]) (qL_low l D cy  (c9 ((70 : Int32) + v7_136)) (3 : Int32) x244 e245) ⟨hx, hb, hml, hown, hts⟩ (va_cwS 2 hts gL_law_L_low rfl rfl rfl (by decide +kernel) ⟨Nat.le_of_ble_eq_true rfl, Nat.le_of_ble_eq_true rfl⟩) hG (hP.sub [] rfl) rfl hl.1 rfl (Nat.le_of_ble_eq_true rfl) dL_law_946 ⟨show (cu + 1) ≤ 600130 by omega, show (su + 6) ≤ 7301080 by omega⟩ ?_
                                            obtain ⟨j247, hj247, h⟩ := jn_elim h
                                            have Jj247 : ∀ (x246 : Int32) (cu su : Nat) (hcu : cu + (f721 * 13492 + 13388) ≤ 600130 ∧ su + 12 * (f721 * 13492 + 13388) ≤ 7301080) (ls : Array Slot), j247 x246 = some rs → lv_has ls 17 [(0, .ref b), (1, .ref (a o)), (4, .int c4_115), (5, .int c5_116), (7, .int v7_136), (9, .int (c9 ((70 : Int32) + v7_136))), (10, .int x143), (11, .int x145), (14, .int x242.1)] → W p l e room_1 s m #[Value.ref b] below meth c H locs cu su (lw_Z below #[Value.ref b] s) (F0 m 957 ls [.int x246, .int x143, .int x145, .ref (a o)]) := by
                                              intro x246 cu su hcu ls h hl
                                              rw [hj247] at h
                                              obtain ⟨x248, e249, h⟩ := bd_some h
                                              refine lcW (Re := []) (S := x242.2) (rs := x248) (c2 := (cu + 1)) (s2 := (su + 6)) hG hGX hN hP hD hS hA (fun h1 h2 => vx_runSX (As := [.ref (a o), .int x145, .int x143, .int x246]) (rest := []) ⟨hx, hb, hml, hown, hts⟩ (qL_bar l hl9 D cy tt a o x242.2 x145 x143 x246 (H).size x248 e249) (vx_cwSW 4 hts gL_law_L_bar rfl rfl rfl (by decide +kernel) ⟨Nat.le_of_ble_eq_true rfl, Nat.le_of_ble_eq_true rfl⟩) ⟨h1, h2⟩ rfl rfl hl.1 rfl (lv_room (Nat.le_of_ble_eq_true rfl)) dL_law_957 ⟨show cu + 1 ≤ 600130 by omega, show su + 6 ≤ 7301080 by omega⟩) rfl rfl (fun H locs hP hD hS => ?_)
                                              refine lv_istore (lv' := [(15, .int x248.1), (0, .ref b), (1, .ref (a o)), (4, .int c4_115), (5, .int c5_116), (7, .int v7_136), (9, .int (c9 ((70 : Int32) + v7_136))), (10, .int x143), (11, .int x145), (14, .int x242.1)]) hx hb dL_law_960 hl (by decide) rfl (fun ls hl => ?_)
                                              refine lv_iload hx hb dL_law_962 (lv_at hl 9 rfl) ?_
                                              refine lv_if_lt (tgt := 1007) hx hb dL_law_964 (by decide) (fun cc => ?_) (fun cc => ?_)
                                              · have h := ite_p cc h
                                                exact hk120 x248.2 (cu + 1) (su + 6) ⟨by omega, by omega⟩ H locs ls h hP hD hS (lv_sub hl [] rfl)
                                              · have h := ite_n cc h
                                                refine lv_iload hx hb dL_law_967 (lv_at hl 0 rfl) ?_
                                                refine lv_iload hx hb dL_law_969 (lv_at hl 6 rfl) ?_
                                                refine lv_iconst (v := (3 : Int32)) hx hb dL_law_971 (by decide) ?_
                                                obtain ⟨x250, e251, h⟩ := bd_some h
                                                refine pcS (As := [.int (c9 ((70 : Int32) + v7_136)), .int (3 : Int32)]) (rest := [.int x248.1]) (qL_low l D cy  (c9 ((70 : Int32) + v7_136)) (3 : Int32) x250 e251) ⟨hx, hb, hml, hown, hts⟩ (va_cwS 2 hts gL_law_L_low rfl rfl rfl (by decide +kernel) ⟨Nat.le_of_ble_eq_true rfl, Nat.le_of_ble_eq_true rfl⟩) hG (hP.sub [] rfl) rfl hl.1 rfl (Nat.le_of_ble_eq_true rfl) dL_law_972 ⟨show (cu + 1) ≤ 600130 by omega, show (su + 6) ≤ 7301080 by omega⟩ ?_
                                                obtain ⟨j253, hj253, h⟩ := jn_elim h
                                                have Jj253 : ∀ (x252 : Int32) (cu su : Nat) (hcu : cu + (f721 * 13492 + 13387) ≤ 600130 ∧ su + 12 * (f721 * 13492 + 13387) ≤ 7301080) (ls : Array Slot), j253 x252 = some rs → lv_has ls 17 [(0, .ref b), (1, .ref (a o)), (4, .int c4_115), (5, .int c5_116), (7, .int v7_136), (9, .int (c9 ((70 : Int32) + v7_136))), (10, .int x143), (11, .int x145), (15, .int x248.1)] → W p l e room_1 s m #[Value.ref b] below meth c H locs cu su (lw_Z below #[Value.ref b] s) (F0 m 983 ls [.int x252, .int x248.1]) := by
                                                  intro x252 cu su hcu ls h hl
                                                  rw [hj253] at h
                                                  refine lv_icmp_ne (tgt := 1007) hx hb dL_law_983 (by decide) (fun cc => ?_) (fun cc => ?_)
                                                  · have h := ite_n cc h
                                                    exact hk120 x248.2 cu su ⟨by omega, by omega⟩ H locs ls h hP hD hS (lv_sub hl [] rfl)
                                                  · have h := ite_p cc h
                                                    refine lv_iload hx hb dL_law_986 (lv_at hl 8 rfl) ?_
                                                    refine lv_iconst (v := (1 : Int32)) hx hb dL_law_988 (by decide) ?_
                                                    obtain ⟨j255, hj255, h⟩ := jn_elim h
                                                    have Jj255 : ∀ (S_254 : SX11) (cu su : Nat) (hcu : cu + (f721 * 13492 + 13386) ≤ 600130 ∧ su + 12 * (f721 * 13492 + 13386) ≤ 7301080) (H : Heap) (locs : List Loc) (ls : Array Slot), j255 S_254 = some rs → va_P D vwCl (wX11 cy a o S_254) H → va_D (fun q : Nat => s.heap.size ≤ q) (wX11 cy a o S_254) → va_S (fun q : Nat => s.heap.size ≤ q) s.heap H locs → lv_has ls 17 [(0, .ref b), (1, .ref (a o)), (4, .int c4_115), (5, .int c5_116), (7, .int v7_136), (9, .int (c9 ((70 : Int32) + v7_136))), (10, .int x143), (11, .int x145)] → W p l e room_1 s m #[Value.ref b] below meth c H locs cu su (lw_Z below #[Value.ref b] s) (F0 m 1009 ls []) := by
                                                      intro S_254 cu su hcu H locs ls h hP hD hS hl
                                                      rw [hj255] at h
                                                      refine lv_goto (tgt := 1293) hx hb dL_law_1009 (by decide) ?_
                                                      exact Jj152 S_254 cu su ⟨by omega, by omega⟩ H locs ls h hP hD hS (lv_sub hl [0, 1, 2, 3, 4, 5, 6, 7] rfl)
                                                    refine lv_icmp_ne (tgt := 1009) hx hb dL_law_989 (by decide) (fun cc => ?_) (fun cc => ?_)
                                                    · have h := ite_n cc h
                                                      exact Jj255 x248.2 cu su ⟨by omega, by omega⟩ H locs ls h hP hD hS (lv_sub hl [0, 1, 2, 3, 4, 5, 6, 7] rfl)
                                                    · have h := ite_p cc h
                                                      refine lv_aload_n hx hb dL_law_992 rfl (lv_at hl 1 rfl) ?_
                                                      refine lv_iload hx hb dL_law_993 (lv_at hl 7 rfl) ?_
                                                      refine lv_iload hx hb dL_law_995 (lv_at hl 6 rfl) ?_
                                                      refine lv_iconst (v := (0 : Int32)) hx hb dL_law_997 (by decide) ?_
                                                      obtain ⟨x256, e257, h⟩ := bd_some h
                                                      refine lcW (Re := []) (S := x248.2) (rs := x256) (c2 := (cu + 1)) (s2 := (su + 6)) hG hGX hN hP hD hS hA (fun h1 h2 => vx_runSX (As := [.ref (a o), .int x145, .int x143, .int (0 : Int32)]) (rest := []) ⟨hx, hb, hml, hown, hts⟩ (qL_mark l hl9 D cy tt a o x248.2 x145 x143 (0 : Int32) (H).size x256 e257) (vx_cwSW 4 hts gL_law_L_mark rfl rfl rfl (by decide +kernel) ⟨Nat.le_of_ble_eq_true rfl, Nat.le_of_ble_eq_true rfl⟩) ⟨h1, h2⟩ rfl rfl hl.1 rfl (lv_room (Nat.le_of_ble_eq_true rfl)) dL_law_998 ⟨show cu + 1 ≤ 600130 by omega, show su + 6 ≤ 7301080 by omega⟩) rfl rfl (fun H locs hP hD hS => ?_)
                                                      refine lv_sipush (v := (-902 : Int32)) hx hb dL_law_1001 (by decide) ?_
                                                      refine lv_icmp_eq (tgt := 1009) hx hb dL_law_1004 (by decide) (fun cc => ?_) (fun cc => ?_)
                                                      · have h := ite_p cc h
                                                        exact Jj255 x256.2 (cu + 1) (su + 6) ⟨by omega, by omega⟩ H locs ls h hP hD hS (lv_sub hl [0, 1, 2, 3, 4, 5, 6, 7] rfl)
                                                      · have h := ite_n cc h
                                                        exact hk120 x256.2 (cu + 1) (su + 6) ⟨by omega, by omega⟩ H locs ls h hP hD hS (lv_sub hl [] rfl)
                                                refine lv_if_ne (tgt := 982) hx hb dL_law_975 (by decide) (fun cc => ?_) (fun cc => ?_)
                                                · have h := ite_n cc h
                                                  refine lv_iconst (v := (0 : Int32)) hx hb dL_law_982 (by decide) ?_
                                                  exact Jj253 (0 : Int32) (cu + 1) (su + 6) ⟨by omega, by omega⟩ ls h (lv_sub hl [1, 2, 3, 4, 5, 6, 7, 8, 0] rfl)
                                                · have h := ite_p cc h
                                                  refine lv_iconst (v := (1 : Int32)) hx hb dL_law_978 (by decide) ?_
                                                  refine lv_goto (tgt := 983) hx hb dL_law_979 (by decide) ?_
                                                  exact Jj253 (1 : Int32) (cu + 1) (su + 6) ⟨by omega, by omega⟩ ls h (lv_sub hl [1, 2, 3, 4, 5, 6, 7, 8, 0] rfl)
                                            refine lv_if_ne (tgt := 956) hx hb dL_law_949 (by decide) (fun cc => ?_) (fun cc => ?_)
                                            · have h := ite_n cc h
                                              refine lv_iconst (v := (0 : Int32)) hx hb dL_law_956 (by decide) ?_
                                              exact Jj247 (0 : Int32) (cu + 1) (su + 6) ⟨by omega, by omega⟩ ls h (lv_sub hl [1, 2, 3, 4, 5, 6, 7, 8, 0] rfl)
                                            · have h := ite_p cc h
                                              refine lv_iconst (v := (1 : Int32)) hx hb dL_law_952 (by decide) ?_
                                              refine lv_goto (tgt := 957) hx hb dL_law_953 (by decide) ?_
                                              exact Jj247 (1 : Int32) (cu + 1) (su + 6) ⟨by omega, by omega⟩ ls h (lv_sub hl [1, 2, 3, 4, 5, 6, 7, 8, 0] rfl)
                                          refine lv_if_ne (tgt := 932) hx hb dL_law_925 (by decide) (fun cc => ?_) (fun cc => ?_)
                                          · have h := ite_n cc h
                                            refine lv_iconst (v := (0 : Int32)) hx hb dL_law_932 (by decide) ?_
                                            exact Jj241 (0 : Int32) cu su ⟨by omega, by omega⟩ ls h (lv_sub hl [0, 1, 2, 3, 4, 5, 6, 7] rfl)
                                          · have h := ite_p cc h
                                            refine lv_iconst (v := (1 : Int32)) hx hb dL_law_928 (by decide) ?_
                                            refine lv_goto (tgt := 933) hx hb dL_law_929 (by decide) ?_
                                            exact Jj241 (1 : Int32) cu su ⟨by omega, by omega⟩ ls h (lv_sub hl [0, 1, 2, 3, 4, 5, 6, 7] rfl)
                                      refine lv_icmp_ge (tgt := 908) hx hb dL_law_792 (by decide) (fun cc => ?_) (fun cc => ?_)
                                      · have h := ite_p cc h
                                        exact Jj170 S_117 (cu + 1) (su + 6) ⟨by omega, by omega⟩ H locs ls h hP hD hS (lv_sub hl [6, 7, 8, 9, 10, 4, 3, 2, 1, 0] rfl)
                                      · have h := ite_n cc h
                                        refine lv_iload hx hb dL_law_795 (lv_at hl 0 rfl) ?_
                                        refine lv_iconst (v := (1 : Int32)) hx hb dL_law_797 (by decide) ?_
                                        refine lv_icmp_ne (tgt := 908) hx hb dL_law_798 (by decide) (fun cc => ?_) (fun cc => ?_)
                                        · have h := ite_n cc h
                                          exact Jj170 S_117 (cu + 1) (su + 6) ⟨by omega, by omega⟩ H locs ls h hP hD hS (lv_sub hl [6, 7, 8, 9, 10, 4, 3, 2, 1, 0] rfl)
                                        · have h := ite_p cc h
                                          refine lv_aload_n hx hb dL_law_801 rfl (lv_at hl 7 rfl) ?_
                                          refine lv_bipush (v := (9 : Int32)) hx hb dL_law_802 (by decide) ?_
                                          obtain ⟨x258, e259, h⟩ := bd_some h
                                          refine lcW (Re := []) (S := S_117) (rs := (x258, S_117)) (c2 := (cu + 2)) (s2 := (su + 12)) hG hGX hN hP hD hS hA (fun h1 h2 => vx_runSX (As := [.ref (a o), .int (9 : Int32)]) (rest := []) ⟨hx, hb, hml, hown, hts⟩ (qL_info l hl9 D cy tt a o S_117 (9 : Int32) (H).size x258 e259) (vx_cwSW 2 hts gL_law_L_info rfl rfl rfl (by decide +kernel) ⟨Nat.le_of_ble_eq_true rfl, Nat.le_of_ble_eq_true rfl⟩) ⟨h1, h2⟩ rfl rfl hl.1 rfl (lv_room (Nat.le_of_ble_eq_true rfl)) dL_law_804 ⟨show (cu + 1) + 1 ≤ 600130 by omega, show (su + 6) + 6 ≤ 7301080 by omega⟩) rfl rfl (fun H locs hP hD hS => ?_)
                                          refine lv_aload_n hx hb dL_law_807 rfl (lv_at hl 7 rfl) ?_
                                          refine lv_bipush (v := (8 : Int32)) hx hb dL_law_808 (by decide) ?_
                                          obtain ⟨x260, e261, h⟩ := bd_some h
                                          refine lcW (Re := []) (S := S_117) (rs := (x260, S_117)) (c2 := (cu + 3)) (s2 := (su + 18)) hG hGX hN hP hD hS hA (fun h1 h2 => vx_runSX (As := [.ref (a o), .int (8 : Int32)]) (rest := [.int x258]) ⟨hx, hb, hml, hown, hts⟩ (qL_info l hl9 D cy tt a o S_117 (8 : Int32) (H).size x260 e261) (vx_cwSW 2 hts gL_law_L_info rfl rfl rfl (by decide +kernel) ⟨Nat.le_of_ble_eq_true rfl, Nat.le_of_ble_eq_true rfl⟩) ⟨h1, h2⟩ rfl rfl hl.1 rfl (lv_room (Nat.le_of_ble_eq_true rfl)) dL_law_810 ⟨show (cu + 2) + 1 ≤ 600130 by omega, show (su + 12) + 6 ≤ 7301080 by omega⟩) rfl rfl (fun H locs hP hD hS => ?_)
                                          refine lv_icmp_ge (tgt := 908) hx hb dL_law_813 (by decide) (fun cc => ?_) (fun cc => ?_)
                                          · have h := ite_p cc h
                                            exact Jj170 S_117 (cu + 3) (su + 18) ⟨by omega, by omega⟩ H locs ls h hP hD hS (lv_sub hl [6, 7, 8, 9, 10, 4, 3, 2, 1, 0] rfl)
                                          · have h := ite_n cc h
                                            refine lv_aload_n hx hb dL_law_816 rfl (lv_at hl 7 rfl) ?_
                                            refine lv_aload_n hx hb dL_law_817 rfl (lv_at hl 7 rfl) ?_
                                            refine lv_bipush (v := (9 : Int32)) hx hb dL_law_818 (by decide) ?_
                                            obtain ⟨x262, e263, h⟩ := bd_some h
                                            refine lcW (Re := []) (S := S_117) (rs := (x262, S_117)) (c2 := (cu + 4)) (s2 := (su + 24)) hG hGX hN hP hD hS hA (fun h1 h2 => vx_runSX (As := [.ref (a o), .int (9 : Int32)]) (rest := [.ref (a o)]) ⟨hx, hb, hml, hown, hts⟩ (qL_info l hl9 D cy tt a o S_117 (9 : Int32) (H).size x262 e263) (vx_cwSW 2 hts gL_law_L_info rfl rfl rfl (by decide +kernel) ⟨Nat.le_of_ble_eq_true rfl, Nat.le_of_ble_eq_true rfl⟩) ⟨h1, h2⟩ rfl rfl hl.1 rfl (lv_room (Nat.le_of_ble_eq_true rfl)) dL_law_820 ⟨show (cu + 3) + 1 ≤ 600130 by omega, show (su + 18) + 6 ≤ 7301080 by omega⟩) rfl rfl (fun H locs hP hD hS => ?_)
                                            obtain ⟨x264, e265, h⟩ := bd_some h
                                            refine pcV (As := [.int x262]) (rest := []) (q0 := 0) (ci := 11) (qX11_stage l D cy a o (gX11_now S_117) x262 x264 e265) ⟨hx, hb, hml, hown, hts⟩ (cwV 1 hts gL_law_X11_stage rfl rfl rfl (by decide +kernel) ⟨Nat.le_of_ble_eq_true rfl, Nat.le_of_ble_eq_true rfl⟩) hG (P_now (cutP hP (pmA [] (wX11 cy a o S_117)))) rfl rfl rfl hl.1 rfl (Nat.le_of_ble_eq_true rfl) dL_law_823 ⟨show (cu + 4) ≤ 600130 by omega, show (su + 24) ≤ 7301080 by omega⟩ ?_
                                            refine lv_istore (lv' := [(14, .int x264), (13, .int x149), (12, .int x147), (11, .int x145), (10, .int x143), (9, .int (c9 ((70 : Int32) + v7_136))), (8, .int (c9 ((21 : Int32) + v7_136))), (0, .ref b), (1, .ref (a o)), (4, .int c4_115), (5, .int c5_116), (7, .int v7_136)]) hx hb dL_law_826 hl (by decide) rfl (fun ls hl => ?_)
                                            refine lv_iload hx hb dL_law_828 (lv_at hl 5 rfl) ?_
                                            refine lv_iconst (v := (3 : Int32)) hx hb dL_law_830 (by decide) ?_
                                            obtain ⟨x266, e267, h⟩ := bd_some h
                                            refine pcS (As := [.int (c9 ((70 : Int32) + v7_136)), .int (3 : Int32)]) (rest := []) (qL_low l D cy  (c9 ((70 : Int32) + v7_136)) (3 : Int32) x266 e267) ⟨hx, hb, hml, hown, hts⟩ (va_cwS 2 hts gL_law_L_low rfl rfl rfl (by decide +kernel) ⟨Nat.le_of_ble_eq_true rfl, Nat.le_of_ble_eq_true rfl⟩) hG (hP.sub [] rfl) rfl hl.1 rfl (Nat.le_of_ble_eq_true rfl) dL_law_831 ⟨show (cu + 4) ≤ 600130 by omega, show (su + 24) ≤ 7301080 by omega⟩ ?_
                                            obtain ⟨j270, hj270, h⟩ := jn_elim h
                                            have Jj270 : ∀ (x268 : Int32) (S_269 : SX11) (cu su : Nat) (hcu : cu + (f721 * 13492 + 13391) ≤ 600130 ∧ su + 12 * (f721 * 13492 + 13391) ≤ 7301080) (H : Heap) (locs : List Loc) (ls : Array Slot), j270 x268 S_269 = some rs → va_P D vwCl (wX11 cy a o S_269) H → va_D (fun q : Nat => s.heap.size ≤ q) (wX11 cy a o S_269) → va_S (fun q : Nat => s.heap.size ≤ q) s.heap H locs → lv_has ls 17 [(0, .ref b), (1, .ref (a o)), (4, .int c4_115), (5, .int c5_116), (7, .int v7_136), (9, .int (c9 ((70 : Int32) + v7_136))), (10, .int x143), (11, .int x145), (14, .int x264)] → W p l e room_1 s m #[Value.ref b] below meth c H locs cu su (lw_Z below #[Value.ref b] s) (F0 m 850 ls [.int x268]) := by
                                              intro x268 S_269 cu su hcu H locs ls h hP hD hS hl
                                              rw [hj270] at h
                                              refine lv_istore (lv' := [(15, .int x268), (0, .ref b), (1, .ref (a o)), (4, .int c4_115), (5, .int c5_116), (7, .int v7_136), (9, .int (c9 ((70 : Int32) + v7_136))), (10, .int x143), (11, .int x145), (14, .int x264)]) hx hb dL_law_850 hl (by decide) rfl (fun ls hl => ?_)
                                              refine lv_aload_n hx hb dL_law_852 rfl (lv_at hl 2 rfl) ?_
                                              refine lv_iload hx hb dL_law_853 (lv_at hl 0 rfl) ?_
                                              obtain ⟨x271, e272, h⟩ := bd_some h
                                              refine lcW (Re := []) (S := S_269) (rs := x271) (c2 := (cu + 1)) (s2 := (su + 6)) hG hGX hN hP hD hS hA (fun h1 h2 => vx_runSX (As := [.ref (a o), .int x268]) (rest := []) ⟨hx, hb, hml, hown, hts⟩ (qL_play l hl9 D cy tt a o S_269 x268 (H).size x271 e272) (vx_cwSW 2 hts gL_law_L_play rfl rfl rfl (by decide +kernel) ⟨Nat.le_of_ble_eq_true rfl, Nat.le_of_ble_eq_true rfl⟩) ⟨h1, h2⟩ rfl rfl hl.1 rfl (lv_room (Nat.le_of_ble_eq_true rfl)) dL_law_855 ⟨show cu + 1 ≤ 600130 by omega, show su + 6 ≤ 7301080 by omega⟩) rfl rfl (fun H locs hP hD hS => ?_)
                                              refine lv_iload hx hb dL_law_858 (lv_at hl 9 rfl) ?_
                                              refine lv_icmp_ne (tgt := 903) hx hb dL_law_860 (by decide) (fun cc => ?_) (fun cc => ?_)
                                              · have h := ite_n cc h
                                                exact hk118 x271.2 (cu + 1) (su + 6) ⟨by omega, by omega⟩ H locs ls h hP hD hS (lv_sub hl [] rfl)
                                              · have h := ite_p cc h
                                                refine lv_aload_n hx hb dL_law_863 rfl (lv_at hl 2 rfl) ?_
                                                refine lv_iload hx hb dL_law_864 (lv_at hl 9 rfl) ?_
                                                refine lv_iconst (v := (2 : Int32)) hx hb dL_law_866 (by decide) ?_
                                                obtain ⟨x273, e274, h⟩ := bd_some h
                                                refine lcW (Re := []) (S := x271.2) (rs := (x273, x271.2)) (c2 := (cu + 2)) (s2 := (su + 12)) hG hGX hN hP hD hS hA (fun h1 h2 => vx_runSX (As := [.ref (a o), .int x264, .int (2 : Int32)]) (rest := []) ⟨hx, hb, hml, hown, hts⟩ (qL_entrant l hl9 D cy tt a o x271.2 x264 (2 : Int32) (H).size x273 e274) (vx_cwSW 3 hts gL_law_L_entrant rfl rfl rfl (by decide +kernel) ⟨Nat.le_of_ble_eq_true rfl, Nat.le_of_ble_eq_true rfl⟩) ⟨h1, h2⟩ rfl rfl hl.1 rfl (lv_room (Nat.le_of_ble_eq_true rfl)) dL_law_867 ⟨show (cu + 1) + 1 ≤ 600130 by omega, show (su + 6) + 6 ≤ 7301080 by omega⟩) rfl rfl (fun H locs hP hD hS => ?_)
                                                refine lv_iload hx hb dL_law_870 (lv_at hl 0 rfl) ?_
                                                refine lv_icmp_ne (tgt := 903) hx hb dL_law_872 (by decide) (fun cc => ?_) (fun cc => ?_)
                                                · have h := ite_n cc h
                                                  exact hk118 x271.2 (cu + 2) (su + 12) ⟨by omega, by omega⟩ H locs ls h hP hD hS (lv_sub hl [] rfl)
                                                · have h := ite_p cc h
                                                  refine lv_aload_n hx hb dL_law_875 rfl (lv_at hl 2 rfl) ?_
                                                  refine lv_iload hx hb dL_law_876 (lv_at hl 9 rfl) ?_
                                                  refine lv_iconst (v := (5 : Int32)) hx hb dL_law_878 (by decide) ?_
                                                  obtain ⟨x275, e276, h⟩ := bd_some h
                                                  refine lcW (Re := []) (S := x271.2) (rs := (x275, x271.2)) (c2 := (cu + 3)) (s2 := (su + 18)) hG hGX hN hP hD hS hA (fun h1 h2 => vx_runSX (As := [.ref (a o), .int x264, .int (5 : Int32)]) (rest := []) ⟨hx, hb, hml, hown, hts⟩ (qL_entrant l hl9 D cy tt a o x271.2 x264 (5 : Int32) (H).size x275 e276) (vx_cwSW 3 hts gL_law_L_entrant rfl rfl rfl (by decide +kernel) ⟨Nat.le_of_ble_eq_true rfl, Nat.le_of_ble_eq_true rfl⟩) ⟨h1, h2⟩ rfl rfl hl.1 rfl (lv_room (Nat.le_of_ble_eq_true rfl)) dL_law_879 ⟨show (cu + 2) + 1 ≤ 600130 by omega, show (su + 12) + 6 ≤ 7301080 by omega⟩) rfl rfl (fun H locs hP hD hS => ?_)
                                                  obtain ⟨j278, hj278, h⟩ := jn_elim h
                                                  have Jj278 : ∀ (S_277 : SX11) (cu su : Nat) (hcu : cu + (f721 * 13492 + 13386) ≤ 600130 ∧ su + 12 * (f721 * 13492 + 13386) ≤ 7301080) (H : Heap) (locs : List Loc) (ls : Array Slot), j278 S_277 = some rs → va_P D vwCl (wX11 cy a o S_277) H → va_D (fun q : Nat => s.heap.size ≤ q) (wX11 cy a o S_277) → va_S (fun q : Nat => s.heap.size ≤ q) s.heap H locs → lv_has ls 17 [(0, .ref b), (1, .ref (a o)), (4, .int c4_115), (5, .int c5_116), (7, .int v7_136), (9, .int (c9 ((70 : Int32) + v7_136))), (10, .int x143), (11, .int x145)] → W p l e room_1 s m #[Value.ref b] below meth c H locs cu su (lw_Z below #[Value.ref b] s) (F0 m 905 ls []) := by
                                                    intro S_277 cu su hcu H locs ls h hP hD hS hl
                                                    rw [hj278] at h
                                                    refine lv_goto (tgt := 1293) hx hb dL_law_905 (by decide) ?_
                                                    exact Jj152 S_277 cu su ⟨by omega, by omega⟩ H locs ls h hP hD hS (lv_sub hl [0, 1, 2, 3, 4, 5, 6, 7] rfl)
                                                  refine lv_if_eq (tgt := 905) hx hb dL_law_882 (by decide) (fun cc => ?_) (fun cc => ?_)
                                                  · have h := ite_p cc h
                                                    exact Jj278 x271.2 (cu + 3) (su + 18) ⟨by omega, by omega⟩ H locs ls h hP hD hS (lv_sub hl [1, 2, 3, 4, 5, 6, 7, 8] rfl)
                                                  · have h := ite_n cc h
                                                    refine lv_aload_n hx hb dL_law_885 rfl (lv_at hl 2 rfl) ?_
                                                    refine lv_iconst (v := (0 : Int32)) hx hb dL_law_886 (by decide) ?_
                                                    obtain ⟨x279, e280, h⟩ := bd_some h
                                                    refine lcW (Re := []) (S := x271.2) (rs := (x279, x271.2)) (c2 := (cu + 4)) (s2 := (su + 24)) hG hGX hN hP hD hS hA (fun h1 h2 => vx_runSX (As := [.ref (a o), .int (0 : Int32)]) (rest := []) ⟨hx, hb, hml, hown, hts⟩ (qL_info l hl9 D cy tt a o x271.2 (0 : Int32) (H).size x279 e280) (vx_cwSW 2 hts gL_law_L_info rfl rfl rfl (by decide +kernel) ⟨Nat.le_of_ble_eq_true rfl, Nat.le_of_ble_eq_true rfl⟩) ⟨h1, h2⟩ rfl rfl hl.1 rfl (lv_room (Nat.le_of_ble_eq_true rfl)) dL_law_887 ⟨show (cu + 3) + 1 ≤ 600130 by omega, show (su + 18) + 6 ≤ 7301080 by omega⟩) rfl rfl (fun H locs hP hD hS => ?_)
                                                    refine lv_if_le (tgt := 905) hx hb dL_law_890 (by decide) (fun cc => ?_) (fun cc => ?_)
                                                    · have h := ite_p cc h
                                                      exact Jj278 x271.2 (cu + 4) (su + 24) ⟨by omega, by omega⟩ H locs ls h hP hD hS (lv_sub hl [1, 2, 3, 4, 5, 6, 7, 8] rfl)
                                                    · have h := ite_n cc h
                                                      refine lv_aload_n hx hb dL_law_893 rfl (lv_at hl 2 rfl) ?_
                                                      refine lv_iload hx hb dL_law_894 (lv_at hl 9 rfl) ?_
                                                      refine lv_iconst (v := (3 : Int32)) hx hb dL_law_896 (by decide) ?_
                                                      obtain ⟨x281, e282, h⟩ := bd_some h
                                                      refine lcW (Re := []) (S := x271.2) (rs := (x281, x271.2)) (c2 := (cu + 5)) (s2 := (su + 30)) hG hGX hN hP hD hS hA (fun h1 h2 => vx_runSX (As := [.ref (a o), .int x264, .int (3 : Int32)]) (rest := []) ⟨hx, hb, hml, hown, hts⟩ (qL_entrant l hl9 D cy tt a o x271.2 x264 (3 : Int32) (H).size x281 e282) (vx_cwSW 3 hts gL_law_L_entrant rfl rfl rfl (by decide +kernel) ⟨Nat.le_of_ble_eq_true rfl, Nat.le_of_ble_eq_true rfl⟩) ⟨h1, h2⟩ rfl rfl hl.1 rfl (lv_room (Nat.le_of_ble_eq_true rfl)) dL_law_897 ⟨show (cu + 4) + 1 ≤ 600130 by omega, show (su + 24) + 6 ≤ 7301080 by omega⟩) rfl rfl (fun H locs hP hD hS => ?_)
                                                      refine lv_if_ne (tgt := 905) hx hb dL_law_900 (by decide) (fun cc => ?_) (fun cc => ?_)
                                                      · have h := ite_n cc h
                                                        exact Jj278 x271.2 (cu + 5) (su + 30) ⟨by omega, by omega⟩ H locs ls h hP hD hS (lv_sub hl [1, 2, 3, 4, 5, 6, 7, 8] rfl)
                                                      · have h := ite_p cc h
                                                        exact hk118 x271.2 (cu + 5) (su + 30) ⟨by omega, by omega⟩ H locs ls h hP hD hS (lv_sub hl [] rfl)
                                            refine lv_if_ne (tgt := 849) hx hb dL_law_834 (by decide) (fun cc => ?_) (fun cc => ?_)
                                            · have h := ite_n cc h
                                              refine lv_iconst (v := (0 : Int32)) hx hb dL_law_849 (by decide) ?_
                                              exact Jj270 (0 : Int32) S_117 (cu + 4) (su + 24) ⟨by omega, by omega⟩ H locs ls h hP hD hS (lv_sub hl [7, 8, 9, 10, 11, 5, 4, 3, 0] rfl)
                                            · have h := ite_p cc h
                                              refine lv_iload hx hb dL_law_837 (lv_at hl 5 rfl) ?_
                                              refine lv_iconst (v := (3 : Int32)) hx hb dL_law_839 (by decide) ?_
                                              refine lv_ishr hx hb dL_law_840 ?_
                                              refine lv_bipush (v := (21 : Int32)) hx hb dL_law_841 (by decide) ?_
                                              obtain ⟨x283, e284, h⟩ := bd_some h
                                              refine pcS (As := [.int ((c9 ((70 : Int32) + v7_136)) >>> ((3 : Int32) &&& 31)), .int (21 : Int32)]) (rest := []) (qL_low l D cy  ((c9 ((70 : Int32) + v7_136)) >>> ((3 : Int32) &&& 31)) (21 : Int32) x283 e284) ⟨hx, hb, hml, hown, hts⟩ (va_cwS 2 hts gL_law_L_low rfl rfl rfl (by decide +kernel) ⟨Nat.le_of_ble_eq_true rfl, Nat.le_of_ble_eq_true rfl⟩) hG (hP.sub [] rfl) rfl hl.1 rfl (Nat.le_of_ble_eq_true rfl) dL_law_843 ⟨show (cu + 4) ≤ 600130 by omega, show (su + 24) ≤ 7301080 by omega⟩ ?_
                                              refine lv_goto (tgt := 850) hx hb dL_law_846 (by decide) ?_
                                              exact Jj270 x283 S_117 (cu + 4) (su + 24) ⟨by omega, by omega⟩ H locs ls h hP hD hS (lv_sub hl [7, 8, 9, 10, 11, 5, 4, 3, 0] rfl)
                                refine L285 ((2 : Int32) + x28) x51 _ Jj114 _ Jj112 _ Jj110 _ Jj108 _ ?_ _ Jj106 _ ?_ 41 (0 : Int32) x91.2 (cu + 674) (su + 8088) ⟨by omega, by omega⟩ H locs ls h hP hD hS (lv_sub hl [1, 2, 3, 4, 0] rfl)
                                · intro S_128 cu su hcu H locs ls h hP hD hS hl
                                  refine lv_iconst (v := (0 : Int32)) hx hb dL_law_1285 (by decide) ?_
                                  have hv : (0 : Int32) = 1 := (some_in h).trans hrs
                                  rw [hv]
                                  refine va_forget (fun q hq => hS.2.2 q hq) ?_
                                  refine W.widen (k := 600130) (n := 7301080) (by omega) (by omega) ?_
                                  exact lw_ret hx hb hr hlocks dL_law_1286
                                · intro S_133 cu su hcu H locs ls h hP hD hS hl
                                  refine lv_aload_n hx hb dL_law_1365 rfl (lv_at hl 0 rfl) ?_
                                  obtain ⟨x134, e135, h⟩ := bd_some h
                                  refine lcW (Re := []) (S := S_133) (rs := x134) (c2 := (cu + 39)) (s2 := (su + 468)) hG hGX hN hP hD hS hA (fun h1 h2 => vx_runS (As := [.ref (a o)]) (rest := []) ⟨hx, hb, hml, hown, hts⟩ (qL_refuses l hl9 D cy tt a o S_133  (H).size x134 e135) (va_cwS 1 hts gL_law_L_refuses rfl rfl rfl (by decide +kernel) ⟨Nat.le_of_ble_eq_true rfl, Nat.le_of_ble_eq_true rfl⟩) ⟨h1, h2⟩ rfl rfl hl.1 rfl (lv_room (Nat.le_of_ble_eq_true rfl)) dL_law_1366 ⟨show cu + 39 ≤ 600130 by omega, show su + 468 ≤ 7301080 by omega⟩) rfl rfl (fun H locs hP hD hS => ?_)
                                  have hv : x134.1 = 1 := (some_in h).trans hrs
                                  rw [hv]
                                  refine va_forget (fun q hq => hS.2.2 q hq) ?_
                                  refine W.widen (k := 600130) (n := 7301080) (by omega) (by omega) ?_
                                  exact lw_ret hx hb hr hlocks dL_law_1369
                              · have h := ite_p cc h
                                exact Jj94 x91.2 (cu + 674) (su + 8088) ⟨by omega, by omega⟩ H locs ls h hP hD hS (lv_sub hl [] rfl)
                          refine lv_if_ne (tgt := 705) hx hb dL_law_698 (by decide) (fun cc => ?_) (fun cc => ?_)
                          · have h := ite_n cc h
                            refine lv_iconst (v := (1 : Int32)) hx hb dL_law_705 (by decide) ?_
                            exact Jj102 (1 : Int32) (cu + 4) (su + 24) ⟨by omega, by omega⟩ ls h (lv_sub hl [0, 1, 3, 4] rfl)
                          · have h := ite_p cc h
                            refine lv_iconst (v := (3 : Int32)) hx hb dL_law_701 (by decide) ?_
                            refine lv_goto (tgt := 706) hx hb dL_law_702 (by decide) ?_
                            exact Jj102 (3 : Int32) (cu + 4) (su + 24) ⟨by omega, by omega⟩ ls h (lv_sub hl [0, 1, 3, 4] rfl)
                  · have h := ite_p cc h
                    exact Jj79 S_75 (cu + 11542) (su + 138504) ⟨by omega, by omega⟩ H locs ls h hP hD hS (lv_sub hl [] rfl)
              · have h := ite_n cc h
                exact Jj46 x49.2 (cu + 2) (su + 12) ⟨by omega, by omega⟩ H locs ls h hP hD hS (lv_sub hl [] rfl)
          · have h := ite_n cc h
            exact Jj4 x9.2 (cu + 715) (su + 8568) ⟨by omega, by omega⟩ H locs ls h hP hD hS (lv_sub hl [] rfl)
