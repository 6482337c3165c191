theorem qL_mark (l : Launch) (hl9 : l.stackTraces = false) (D : va_G) (cy : Nat → ClassId) (tt : Nat → Nat) (a : Nat → Nat) (o b : Nat) (S : SX11) (p1 : Int32) (p2 : Int32) (p3 : Int32) (f : Nat → Int64) (sz : Nat) (res : Int32 × (SX11 × (Nat → Int64))) (h : wrO [1, 2, 3] S f (DX11_mark S p1 p2 p3) res) : vx_Met l yL_mark wsL_mark ({ frames := 10, cells := 4, slots := 24, locals := 252 } : Room) (lP D cy tt sz [.ref (a o), .int p1, .int p2, .int p3, .ref b] (oC cy b f :: wX11 cy a o S)) (va_Qi (fun r (u : SX11 × (Nat → Int64)) => (r, u) = res) (fun u t => mB D sz (oC cy b f :: wX11 cy a o S) (oC cy b u.2 :: wX11 cy a o u.1) t) (va_A (oC cy b f :: wX11 cy a o S) sz)) (fun _ _ _ => False) 4 24 (va_A (oC cy b f :: wX11 cy a o S) sz) := by
  refine vx_ofWH (cc := cL_mark) (maxL := 6) (ret := (some .int)) (by decide) rfl ?_
  intro p e s m args below meth c s₁ B hml hv
  obtain ⟨rfl, hsz, hP, hG, hD0, hX, hN⟩ := hv
  have hx := B.exec
  have hb := B.bytes
  have hr := B.returns
  have hts := atoms_spec (ws := wsL_mark) B.pre
  have hown : s.vm.findClass RL = some m.cls := findClass_of_methodNamed B.named
  have hlocks := B.notSynchronized
  have htab := vx_table (x := yL_mark) B (hts _ List.mem_cons_self)
  have hK := hG.1
  subst hsz
  have hD := hD0.self (sz := s.heap.size)
  have hA : ∀ q : Nat, s.heap.size ≤ q → (va_A (oC cy b f :: wX11 cy a o S) s.heap.size) q := fun q h => Or.inr h
  have hS : va_S (va_A (oC cy b f :: wX11 cy a o S) s.heap.size) s.heap s.heap [] := va_S.rf
  have hl := lv_entry ([.ref (a o), .int p1, .int p2, .int p3, .ref b]) (n := 6) (Nat.le_of_ble_eq_true rfl)
  rw [lg_entry_eq]
  generalize (lg_sl ([.ref (a o), .int p1, .int p2, .int p3, .ref b]) ++ List.replicate (6 - (lg_sl ([.ref (a o), .int p1, .int p2, .int p3, .ref b])).length) Slot.unset).toArray = ls at hl ⊢
  have hl : lv_has ls 6 [(0, .ref (a o)), (1, .int p1), (2, .int p2), (3, .int p3), (4, .ref b)] := hl
  refine lv_aload hx hb dL_mark_0 (lv_at hl 4 rfl) ?_
  refine lv_iconst (v := (0 : Int32)) hx hb dL_mark_2 (by decide) ?_
  refine lv_aload_n hx hb dL_mark_3 rfl (lv_at hl 0 rfl) ?_
  refine lv_iload_n hx hb dL_mark_4 rfl (lv_at hl 1 rfl) ?_
  refine lv_iload_n hx hb dL_mark_5 rfl (lv_at hl 2 rfl) ?_
  refine lv_iload_n hx hb dL_mark_6 rfl (lv_at hl 3 rfl) ?_
  rcases h with ⟨v, T, e1, rfl⟩ | ⟨i, n, e1, e2, rfl⟩
  · refine tcNm (x0 := (v, T)) (wf := fun T => wX11 cy a o T) (ws' := oC cy b f :: wX11 cy a o T) hG hX hP hD hS hA (pmO cy a o b S f) (pmO cy a o b T f) (fun h1 h2 => vx_runV (As := [.int p1, .int p2, .int p3]) (rest := [.int 0, .ref b]) ⟨hx, hb, hml, hown, hts⟩ (qX11_mark l hl9 D cy tt a o S p1 p2 p3 (s.heap).size (Sum.inr (v, T)) e1) (cwV 3 hts gL_mark_X11_mark rfl rfl rfl (by decide +kernel) ⟨Nat.le_of_ble_eq_true rfl, Nat.le_of_ble_eq_true rfl⟩) ⟨h1, va_recv hK hP (ci := 11) (q0 := 1) rfl rfl, h2⟩ rfl rfl hl.1 rfl (lv_room (Nat.le_of_ble_eq_true rfl)) dL_mark_7 ⟨Nat.le_of_ble_eq_true rfl, Nat.le_of_ble_eq_true rfl⟩) (c2 := 4) (s2 := 24) rfl rfl (fun H locs hP hD hS => ?_)
    refine lv_i2l hx hb dL_mark_10 rfl ?_
    refine va_last (q0 := 0) (t0 := 3) hx hb hK hP hD hS rfl rfl (show vp_in (0 : Int32) 1 by unfold vp_in; decide) dL_mark_11 (fun H locs hP hD hS => ?_)
    refine lv_goto (tgt := 27) hx hb dL_mark_12 (by decide) ?_
    refine lv_iconst (v := (0 : Int32)) hx hb dL_mark_27 (by decide) ?_
    refine vx_ret (W.widen (k := 4) (n := 24) (by decide) (by decide) ?_)
    exact W.iret (v := (0 : Int32)) hx hb hr (fun t ht hW => ⟨⟨(0 : Int32), (T, vp_updL f 0 v.toInt64), rfl, rfl, by rw [ht]; exact hP, hD⟩, hS.F ht⟩) hS.2.2 dL_mark_28
  · refine tcT (R0 := Int32 × SX11) (fun st v t q => by obtain ⟨⟨r, u, -, hu, -⟩, -⟩ := q; cases hu) hG hX hP hD hS hA (pmO cy a o b S f) (fun h1 h2 => vx_runV (As := [.int p1, .int p2, .int p3]) (rest := [.int 0, .ref b]) ⟨hx, hb, hml, hown, hts⟩ (qX11_mark l hl9 D cy tt a o S p1 p2 p3 (s.heap).size (Sum.inl n) e1) (cwV 3 hts gL_mark_X11_mark rfl rfl rfl (by decide +kernel) ⟨Nat.le_of_ble_eq_true rfl, Nat.le_of_ble_eq_true rfl⟩) ⟨h1, va_recv hK hP (ci := 11) (q0 := 1) rfl rfl, h2⟩ rfl rfl hl.1 rfl (lv_room (Nat.le_of_ble_eq_true rfl)) dL_mark_7 ⟨Nat.le_of_ble_eq_true rfl, Nat.le_of_ble_eq_true rfl⟩) (fun ce q9 H locs hP hS hce hcv hcl => ?_)
    match i, e2 with
    | 0, e2 =>
      cases Option.some.inj e2
      refine vx_catch hown [] ⟨0, 12, 15, 21⟩ [⟨0, 12, 19, 13⟩, ⟨0, 12, 23, 15⟩] (htab.trans rfl) (fun z hz => nomatch hz) rfl (by decide) (hts (.classLink RL 21 "java/lang/IndexOutOfBoundsException") (by decide +kernel)) (cast_w hG).2.2 hce hcv hcl ?_
      refine lv_astore (lv' := [(5, .ref q9), (0, .ref (a o)), (1, .int p1), (2, .int p2), (3, .int p3), (4, .ref b)]) hx hb dL_mark_15 hl (by decide) rfl (fun ls hl => ?_)
      refine lv_iconst (v := (1 : Int32)) hx hb dL_mark_17 (by decide) ?_
      refine vx_ret (W.widen (k := 4) (n := 24) (by decide) (by decide) ?_)
      exact W.iret (v := (1 : Int32)) hx hb hr (fun t ht hW => ⟨⟨(1 : Int32), (S, f), rfl, rfl, by rw [ht]; exact hP, hD⟩, hS.F ht⟩) hS.2.2 dL_mark_18
    | 1, e2 =>
      cases Option.some.inj e2
      refine vx_catch hown [⟨0, 12, 15, 21⟩] ⟨0, 12, 19, 13⟩ [⟨0, 12, 23, 15⟩] (htab.trans rfl) (fun z hz => by cases List.mem_singleton.mp hz; exact Or.inr ⟨by decide, "java/lang/IndexOutOfBoundsException", hts (.classLink RL 21 "java/lang/IndexOutOfBoundsException") (by decide +kernel), hN.1⟩) rfl (by decide) (hts (.classLink RL 13 "java/lang/IllegalArgumentException") (by decide +kernel)) (cast_w hG).1 hce hcv hcl ?_
      refine lv_astore (lv' := [(5, .ref q9), (0, .ref (a o)), (1, .int p1), (2, .int p2), (3, .int p3), (4, .ref b)]) hx hb dL_mark_19 hl (by decide) rfl (fun ls hl => ?_)
      refine lv_iconst (v := (2 : Int32)) hx hb dL_mark_21 (by decide) ?_
      refine vx_ret (W.widen (k := 4) (n := 24) (by decide) (by decide) ?_)
      exact W.iret (v := (2 : Int32)) hx hb hr (fun t ht hW => ⟨⟨(2 : Int32), (S, f), rfl, rfl, by rw [ht]; exact hP, hD⟩, hS.F ht⟩) hS.2.2 dL_mark_22
    | 2, e2 =>
      cases Option.some.inj e2
      refine vx_catch hown [⟨0, 12, 15, 21⟩, ⟨0, 12, 19, 13⟩] ⟨0, 12, 23, 15⟩ [] (htab.trans rfl) (fun z hz => by
        rcases List.mem_cons.mp hz with hz | hz
        · cases hz; exact Or.inr ⟨by decide, "java/lang/IndexOutOfBoundsException", hts (.classLink RL 21 "java/lang/IndexOutOfBoundsException") (by decide +kernel), hN.2.1⟩
        · cases List.mem_singleton.mp hz; exact Or.inr ⟨by decide, "java/lang/IllegalArgumentException", hts (.classLink RL 13 "java/lang/IllegalArgumentException") (by decide +kernel), hN.2.2⟩) rfl (by decide) (hts (.classLink RL 15 "java/lang/IllegalStateException") (by decide +kernel)) (cast_w hG).2.1 hce hcv hcl ?_
      refine lv_astore (lv' := [(5, .ref q9), (0, .ref (a o)), (1, .int p1), (2, .int p2), (3, .int p3), (4, .ref b)]) hx hb dL_mark_23 hl (by decide) rfl (fun ls hl => ?_)
      refine lv_iconst (v := (3 : Int32)) hx hb dL_mark_25 (by decide) ?_
      refine vx_ret (W.widen (k := 4) (n := 24) (by decide) (by decide) ?_)
      exact W.iret (v := (3 : Int32)) hx hb hr (fun t ht hW => ⟨⟨(3 : Int32), (S, f), rfl, rfl, by rw [ht]; exact hP, hD⟩, hS.F ht⟩) hS.2.2 dL_mark_26
    | i + 3, e2 => cases e2
theorem qL_abstain (l : Launch) (hl9 : l.stackTraces = false) (D : va_G) (cy : Nat → ClassId) (tt : Nat → Nat) (a : Nat → Nat) (o b : Nat) (S : SX11) (p1 : Int32) (p2 : Int32) (f : Nat → Int64) (sz : Nat) (res : Int32 × (SX11 × (Nat → Int64))) (h : wrO [1, 3] S f (DX11_abstain S p1 p2) res) : vx_Met l yL_abstain wsL_abstain ({ frames := 10, cells := 3, slots := 18, locals := 251 } : Room) (lP D cy tt sz [.ref (a o), .int p1, .int p2, .ref b] (oC cy b f :: wX11 cy a o S)) (va_Qi (fun r (u : SX11 × (Nat → Int64)) => (r, u) = res) (fun u t => mB D sz (oC cy b f :: wX11 cy a o S) (oC cy b u.2 :: wX11 cy a o u.1) t) (va_A (oC cy b f :: wX11 cy a o S) sz)) (fun _ _ _ => False) 3 18 (va_A (oC cy b f :: wX11 cy a o S) sz) := by
  refine vx_ofWH (cc := cL_abstain) (maxL := 5) (ret := (some .int)) (by decide) rfl ?_
  intro p e s m args below meth c s₁ B hml hv
  obtain ⟨rfl, hsz, hP, hG, hD0, hX, hN⟩ := hv
  have hx := B.exec
  have hb := B.bytes
  have hr := B.returns
  have hts := atoms_spec (ws := wsL_abstain) B.pre
  have hown : s.vm.findClass RL = some m.cls := findClass_of_methodNamed B.named
  have hlocks := B.notSynchronized
  have htab := vx_table (x := yL_abstain) B (hts _ List.mem_cons_self)
  have hK := hG.1
  subst hsz
  have hD := hD0.self (sz := s.heap.size)
  have hA : ∀ q : Nat, s.heap.size ≤ q → (va_A (oC cy b f :: wX11 cy a o S) s.heap.size) q := fun q h => Or.inr h
  have hS : va_S (va_A (oC cy b f :: wX11 cy a o S) s.heap.size) s.heap s.heap [] := va_S.rf
  have hl := lv_entry ([.ref (a o), .int p1, .int p2, .ref b]) (n := 5) (Nat.le_of_ble_eq_true rfl)
  rw [lg_entry_eq]
  generalize (lg_sl ([.ref (a o), .int p1, .int p2, .ref b]) ++ List.replicate (5 - (lg_sl ([.ref (a o), .int p1, .int p2, .ref b])).length) Slot.unset).toArray = ls at hl ⊢
  have hl : lv_has ls 5 [(0, .ref (a o)), (1, .int p1), (2, .int p2), (3, .ref b)] := hl
  refine lv_aload_n hx hb dL_abstain_0 rfl (lv_at hl 3 rfl) ?_
  refine lv_iconst (v := (0 : Int32)) hx hb dL_abstain_1 (by decide) ?_
  refine lv_aload_n hx hb dL_abstain_2 rfl (lv_at hl 0 rfl) ?_
  refine lv_iload_n hx hb dL_abstain_3 rfl (lv_at hl 1 rfl) ?_
  refine lv_iload_n hx hb dL_abstain_4 rfl (lv_at hl 2 rfl) ?_
  rcases h with ⟨v, T, e1, rfl⟩ | ⟨i, n, e1, e2, rfl⟩
  · refine tcNm (x0 := (v, T)) (wf := fun T => wX11 cy a o T) (ws' := oC cy b f :: wX11 cy a o T) hG hX hP hD hS hA (pmO cy a o b S f) (pmO cy a o b T f) (fun h1 h2 => vx_runV (As := [.int p1, .int p2]) (rest := [.int 0, .ref b]) ⟨hx, hb, hml, hown, hts⟩ (qX11_abstain l hl9 D cy tt a o S p1 p2 (s.heap).size (Sum.inr (v, T)) e1) (cwV 2 hts gL_abstain_X11_abstain rfl rfl rfl (by decide +kernel) ⟨Nat.le_of_ble_eq_true rfl, Nat.le_of_ble_eq_true rfl⟩) ⟨h1, va_recv hK hP (ci := 11) (q0 := 1) rfl rfl, h2⟩ rfl rfl hl.1 rfl (lv_room (Nat.le_of_ble_eq_true rfl)) dL_abstain_5 ⟨Nat.le_of_ble_eq_true rfl, Nat.le_of_ble_eq_true rfl⟩) (c2 := 3) (s2 := 18) rfl rfl (fun H locs hP hD hS => ?_)
    refine lv_i2l hx hb dL_abstain_8 rfl ?_
    refine va_last (q0 := 0) (t0 := 3) hx hb hK hP hD hS rfl rfl (show vp_in (0 : Int32) 1 by unfold vp_in; decide) dL_abstain_9 (fun H locs hP hD hS => ?_)
    refine lv_goto (tgt := 21) hx hb dL_abstain_10 (by decide) ?_
    refine lv_iconst (v := (0 : Int32)) hx hb dL_abstain_21 (by decide) ?_
    refine vx_ret (W.widen (k := 3) (n := 18) (by decide) (by decide) ?_)
    exact W.iret (v := (0 : Int32)) hx hb hr (fun t ht hW => ⟨⟨(0 : Int32), (T, vp_updL f 0 v.toInt64), rfl, rfl, by rw [ht]; exact hP, hD⟩, hS.F ht⟩) hS.2.2 dL_abstain_22
  · refine tcT (R0 := Int32 × SX11) (fun st v t q => by obtain ⟨⟨r, u, -, hu, -⟩, -⟩ := q; cases hu) hG hX hP hD hS hA (pmO cy a o b S f) (fun h1 h2 => vx_runV (As := [.int p1, .int p2]) (rest := [.int 0, .ref b]) ⟨hx, hb, hml, hown, hts⟩ (qX11_abstain l hl9 D cy tt a o S p1 p2 (s.heap).size (Sum.inl n) e1) (cwV 2 hts gL_abstain_X11_abstain rfl rfl rfl (by decide +kernel) ⟨Nat.le_of_ble_eq_true rfl, Nat.le_of_ble_eq_true rfl⟩) ⟨h1, va_recv hK hP (ci := 11) (q0 := 1) rfl rfl, h2⟩ rfl rfl hl.1 rfl (lv_room (Nat.le_of_ble_eq_true rfl)) dL_abstain_5 ⟨Nat.le_of_ble_eq_true rfl, Nat.le_of_ble_eq_true rfl⟩) (fun ce q9 H locs hP hS hce hcv hcl => ?_)
    match i, e2 with
    | 0, e2 =>
      cases Option.some.inj e2
      refine vx_catch hown [] ⟨0, 10, 13, 21⟩ [⟨0, 10, 17, 15⟩] (htab.trans rfl) (fun z hz => nomatch hz) rfl (by decide) (hts (.classLink RL 21 "java/lang/IndexOutOfBoundsException") (by decide +kernel)) (cast_w hG).2.2 hce hcv hcl ?_
      refine lv_astore (lv' := [(4, .ref q9), (0, .ref (a o)), (1, .int p1), (2, .int p2), (3, .ref b)]) hx hb dL_abstain_13 hl (by decide) rfl (fun ls hl => ?_)
      refine lv_iconst (v := (1 : Int32)) hx hb dL_abstain_15 (by decide) ?_
      refine vx_ret (W.widen (k := 3) (n := 18) (by decide) (by decide) ?_)
      exact W.iret (v := (1 : Int32)) hx hb hr (fun t ht hW => ⟨⟨(1 : Int32), (S, f), rfl, rfl, by rw [ht]; exact hP, hD⟩, hS.F ht⟩) hS.2.2 dL_abstain_16
    | 1, e2 =>
      cases Option.some.inj e2
      refine vx_catch hown [⟨0, 10, 13, 21⟩] ⟨0, 10, 17, 15⟩ [] (htab.trans rfl) (fun z hz => by cases List.mem_singleton.mp hz; exact Or.inr ⟨by decide, "java/lang/IndexOutOfBoundsException", hts (.classLink RL 21 "java/lang/IndexOutOfBoundsException") (by decide +kernel), hN.2.1⟩) rfl (by decide) (hts (.classLink RL 15 "java/lang/IllegalStateException") (by decide +kernel)) (cast_w hG).2.1 hce hcv hcl ?_
      refine lv_astore (lv' := [(4, .ref q9), (0, .ref (a o)), (1, .int p1), (2, .int p2), (3, .ref b)]) hx hb dL_abstain_17 hl (by decide) rfl (fun ls hl => ?_)
      refine lv_iconst (v := (2 : Int32)) hx hb dL_abstain_19 (by decide) ?_
      refine vx_ret (W.widen (k := 3) (n := 18) (by decide) (by decide) ?_)
      exact W.iret (v := (2 : Int32)) hx hb hr (fun t ht hW => ⟨⟨(2 : Int32), (S, f), rfl, rfl, by rw [ht]; exact hP, hD⟩, hS.F ht⟩) hS.2.2 dL_abstain_20
    | i + 2, e2 => cases e2
theorem qL_close (l : Launch) (hl9 : l.stackTraces = false) (D : va_G) (cy : Nat → ClassId) (tt : Nat → Nat) (a : Nat → Nat) (o b : Nat) (S : SX11) (f : Nat → Int64) (sz : Nat) (res : Int32 × (SX11 × (Nat → Int64))) (h : wrO [3] S f (DX11_close S) res) : vx_Met l yL_close wsL_close ({ frames := 8, cells := 1, slots := 6, locals := 227 } : Room) (lP D cy tt sz [.ref (a o), .ref b] (oC cy b f :: wX11 cy a o S)) (va_Qi (fun r (u : SX11 × (Nat → Int64)) => (r, u) = res) (fun u t => mB D sz (oC cy b f :: wX11 cy a o S) (oC cy b u.2 :: wX11 cy a o u.1) t) (va_A (oC cy b f :: wX11 cy a o S) sz)) (fun _ _ _ => False) 1 6 (va_A (oC cy b f :: wX11 cy a o S) sz) := by
  refine vx_ofWH (cc := cL_close) (maxL := 3) (ret := (some .int)) (by decide) rfl ?_
  intro p e s m args below meth c s₁ B hml hv
  obtain ⟨rfl, hsz, hP, hG, hD0, hX, hN⟩ := hv
  have hx := B.exec
  have hb := B.bytes
  have hr := B.returns
  have hts := atoms_spec (ws := wsL_close) B.pre
  have hown : s.vm.findClass RL = some m.cls := findClass_of_methodNamed B.named
  have hlocks := B.notSynchronized
  have htab := vx_table (x := yL_close) B (hts _ List.mem_cons_self)
  have hK := hG.1
  subst hsz
  have hD := hD0.self (sz := s.heap.size)
  have hA : ∀ q : Nat, s.heap.size ≤ q → (va_A (oC cy b f :: wX11 cy a o S) s.heap.size) q := fun q h => Or.inr h
  have hS : va_S (va_A (oC cy b f :: wX11 cy a o S) s.heap.size) s.heap s.heap [] := va_S.rf
  have hl := lv_entry ([.ref (a o), .ref b]) (n := 3) (Nat.le_of_ble_eq_true rfl)
  rw [lg_entry_eq]
  generalize (lg_sl ([.ref (a o), .ref b]) ++ List.replicate (3 - (lg_sl ([.ref (a o), .ref b])).length) Slot.unset).toArray = ls at hl ⊢
  have hl : lv_has ls 3 [(0, .ref (a o)), (1, .ref b)] := hl
  refine lv_aload_n hx hb dL_close_0 rfl (lv_at hl 1 rfl) ?_
  refine lv_iconst (v := (0 : Int32)) hx hb dL_close_1 (by decide) ?_
  refine lv_aload_n hx hb dL_close_2 rfl (lv_at hl 0 rfl) ?_
  rcases h with ⟨v, T, e1, rfl⟩ | ⟨i, n, e1, e2, rfl⟩
  · refine tcNm (x0 := (v, T)) (wf := fun T => wX11 cy a o T) (ws' := oC cy b f :: wX11 cy a o T) hG hX hP hD hS hA (pmO cy a o b S f) (pmO cy a o b T f) (fun h1 h2 => vx_runV (As := []) (rest := [.int 0, .ref b]) ⟨hx, hb, hml, hown, hts⟩ (qX11_close l hl9 D cy tt a o S  (s.heap).size (Sum.inr (v, T)) e1) (cwV 0 hts gL_close_X11_close rfl rfl rfl (by decide +kernel) ⟨Nat.le_of_ble_eq_true rfl, Nat.le_of_ble_eq_true rfl⟩) ⟨h1, va_recv hK hP (ci := 11) (q0 := 1) rfl rfl, h2⟩ rfl rfl hl.1 rfl (lv_room (Nat.le_of_ble_eq_true rfl)) dL_close_3 ⟨Nat.le_of_ble_eq_true rfl, Nat.le_of_ble_eq_true rfl⟩) (c2 := 1) (s2 := 6) rfl rfl (fun H locs hP hD hS => ?_)
    refine lv_i2l hx hb dL_close_6 rfl ?_
    refine va_last (q0 := 0) (t0 := 3) hx hb hK hP hD hS rfl rfl (show vp_in (0 : Int32) 1 by unfold vp_in; decide) dL_close_7 (fun H locs hP hD hS => ?_)
    refine lv_goto (tgt := 14) hx hb dL_close_8 (by decide) ?_
    refine lv_iconst (v := (0 : Int32)) hx hb dL_close_14 (by decide) ?_
    refine vx_ret (W.widen (k := 1) (n := 6) (by decide) (by decide) ?_)
    exact W.iret (v := (0 : Int32)) hx hb hr (fun t ht hW => ⟨⟨(0 : Int32), (T, vp_updL f 0 v.toInt64), rfl, rfl, by rw [ht]; exact hP, hD⟩, hS.F ht⟩) hS.2.2 dL_close_15
  · refine tcT (R0 := Int32 × SX11) (fun st v t q => by obtain ⟨⟨r, u, -, hu, -⟩, -⟩ := q; cases hu) hG hX hP hD hS hA (pmO cy a o b S f) (fun h1 h2 => vx_runV (As := []) (rest := [.int 0, .ref b]) ⟨hx, hb, hml, hown, hts⟩ (qX11_close l hl9 D cy tt a o S  (s.heap).size (Sum.inl n) e1) (cwV 0 hts gL_close_X11_close rfl rfl rfl (by decide +kernel) ⟨Nat.le_of_ble_eq_true rfl, Nat.le_of_ble_eq_true rfl⟩) ⟨h1, va_recv hK hP (ci := 11) (q0 := 1) rfl rfl, h2⟩ rfl rfl hl.1 rfl (lv_room (Nat.le_of_ble_eq_true rfl)) dL_close_3 ⟨Nat.le_of_ble_eq_true rfl, Nat.le_of_ble_eq_true rfl⟩) (fun ce q9 H locs hP hS hce hcv hcl => ?_)
    match i, e2 with
    | 0, e2 =>
      cases Option.some.inj e2
      refine vx_catch hown [] ⟨0, 8, 11, 15⟩ [] (htab.trans rfl) (fun z hz => nomatch hz) rfl (by decide) (hts (.classLink RL 15 "java/lang/IllegalStateException") (by decide +kernel)) (cast_w hG).2.1 hce hcv hcl ?_
      refine lv_astore_n (lv' := [(2, .ref q9), (0, .ref (a o)), (1, .ref b)]) hx hb dL_close_11 rfl hl (by decide) rfl (fun ls hl => ?_)
      refine lv_iconst (v := (1 : Int32)) hx hb dL_close_12 (by decide) ?_
      refine vx_ret (W.widen (k := 1) (n := 6) (by decide) (by decide) ?_)
      exact W.iret (v := (1 : Int32)) hx hb hr (fun t ht hW => ⟨⟨(1 : Int32), (S, f), rfl, rfl, by rw [ht]; exact hP, hD⟩, hS.F ht⟩) hS.2.2 dL_close_13
    | i + 1, e2 => cases e2
theorem qL_withdraw (l : Launch) (hl9 : l.stackTraces = false) (D : va_G) (cy : Nat → ClassId) (tt : Nat → Nat) (a : Nat → Nat) (o b : Nat) (S : SX11) (p1 : Int32) (f : Nat → Int64) (sz : Nat) (res : Int32 × (SX11 × (Nat → Int64))) (h : wrO [1, 3] S f (DX11_withdraw S p1) res) : vx_Met l yL_withdraw wsL_withdraw ({ frames := 9, cells := 3, slots := 18, locals := 227 } : Room) (lP D cy tt sz [.ref (a o), .int p1, .ref b] (oC cy b f :: wX11 cy a o S)) (va_Qi (fun r (u : SX11 × (Nat → Int64)) => (r, u) = res) (fun u t => mB D sz (oC cy b f :: wX11 cy a o S) (oC cy b u.2 :: wX11 cy a o u.1) t) (va_A (oC cy b f :: wX11 cy a o S) sz)) (fun _ _ _ => False) 3 18 (va_A (oC cy b f :: wX11 cy a o S) sz) := by
  refine vx_ofWH (cc := cL_withdraw) (maxL := 4) (ret := (some .int)) (by decide) rfl ?_
  intro p e s m args below meth c s₁ B hml hv
  obtain ⟨rfl, hsz, hP, hG, hD0, hX, hN⟩ := hv
  have hx := B.exec
  have hb := B.bytes
  have hr := B.returns
  have hts := atoms_spec (ws := wsL_withdraw) B.pre
  have hown : s.vm.findClass RL = some m.cls := findClass_of_methodNamed B.named
  have hlocks := B.notSynchronized
  have htab := vx_table (x := yL_withdraw) B (hts _ List.mem_cons_self)
  have hK := hG.1
  subst hsz
  have hD := hD0.self (sz := s.heap.size)
  have hA : ∀ q : Nat, s.heap.size ≤ q → (va_A (oC cy b f :: wX11 cy a o S) s.heap.size) q := fun q h => Or.inr h
  have hS : va_S (va_A (oC cy b f :: wX11 cy a o S) s.heap.size) s.heap s.heap [] := va_S.rf
  have hl := lv_entry ([.ref (a o), .int p1, .ref b]) (n := 4) (Nat.le_of_ble_eq_true rfl)
  rw [lg_entry_eq]
  generalize (lg_sl ([.ref (a o), .int p1, .ref b]) ++ List.replicate (4 - (lg_sl ([.ref (a o), .int p1, .ref b])).length) Slot.unset).toArray = ls at hl ⊢
  have hl : lv_has ls 4 [(0, .ref (a o)), (1, .int p1), (2, .ref b)] := hl
  refine lv_aload_n hx hb dL_withdraw_0 rfl (lv_at hl 2 rfl) ?_
  refine lv_iconst (v := (0 : Int32)) hx hb dL_withdraw_1 (by decide) ?_
  refine lv_aload_n hx hb dL_withdraw_2 rfl (lv_at hl 0 rfl) ?_
  refine lv_iload_n hx hb dL_withdraw_3 rfl (lv_at hl 1 rfl) ?_
  rcases h with ⟨v, T, e1, rfl⟩ | ⟨i, n, e1, e2, rfl⟩
  · refine tcNm (x0 := (v, T)) (wf := fun T => wX11 cy a o T) (ws' := oC cy b f :: wX11 cy a o T) hG hX hP hD hS hA (pmO cy a o b S f) (pmO cy a o b T f) (fun h1 h2 => vx_runV (As := [.int p1]) (rest := [.int 0, .ref b]) ⟨hx, hb, hml, hown, hts⟩ (qX11_withdraw l hl9 D cy tt a o S p1 (s.heap).size (Sum.inr (v, T)) e1) (cwV 1 hts gL_withdraw_X11_withdraw rfl rfl rfl (by decide +kernel) ⟨Nat.le_of_ble_eq_true rfl, Nat.le_of_ble_eq_true rfl⟩) ⟨h1, va_recv hK hP (ci := 11) (q0 := 1) rfl rfl, h2⟩ rfl rfl hl.1 rfl (lv_room (Nat.le_of_ble_eq_true rfl)) dL_withdraw_4 ⟨Nat.le_of_ble_eq_true rfl, Nat.le_of_ble_eq_true rfl⟩) (c2 := 3) (s2 := 18) rfl rfl (fun H locs hP hD hS => ?_)
    refine lv_i2l hx hb dL_withdraw_7 rfl ?_
    refine va_last (q0 := 0) (t0 := 3) hx hb hK hP hD hS rfl rfl (show vp_in (0 : Int32) 1 by unfold vp_in; decide) dL_withdraw_8 (fun H locs hP hD hS => ?_)
    refine lv_goto (tgt := 18) hx hb dL_withdraw_9 (by decide) ?_
    refine lv_iconst (v := (0 : Int32)) hx hb dL_withdraw_18 (by decide) ?_
    refine vx_ret (W.widen (k := 3) (n := 18) (by decide) (by decide) ?_)
    exact W.iret (v := (0 : Int32)) hx hb hr (fun t ht hW => ⟨⟨(0 : Int32), (T, vp_updL f 0 v.toInt64), rfl, rfl, by rw [ht]; exact hP, hD⟩, hS.F ht⟩) hS.2.2 dL_withdraw_19
  · refine tcT (R0 := Int32 × SX11) (fun st v t q => by obtain ⟨⟨r, u, -, hu, -⟩, -⟩ := q; cases hu) hG hX hP hD hS hA (pmO cy a o b S f) (fun h1 h2 => vx_runV (As := [.int p1]) (rest := [.int 0, .ref b]) ⟨hx, hb, hml, hown, hts⟩ (qX11_withdraw l hl9 D cy tt a o S p1 (s.heap).size (Sum.inl n) e1) (cwV 1 hts gL_withdraw_X11_withdraw rfl rfl rfl (by decide +kernel) ⟨Nat.le_of_ble_eq_true rfl, Nat.le_of_ble_eq_true rfl⟩) ⟨h1, va_recv hK hP (ci := 11) (q0 := 1) rfl rfl, h2⟩ rfl rfl hl.1 rfl (lv_room (Nat.le_of_ble_eq_true rfl)) dL_withdraw_4 ⟨Nat.le_of_ble_eq_true rfl, Nat.le_of_ble_eq_true rfl⟩) (fun ce q9 H locs hP hS hce hcv hcl => ?_)
    match i, e2 with
    | 0, e2 =>
      cases Option.some.inj e2
      refine vx_catch hown [] ⟨0, 9, 12, 21⟩ [⟨0, 9, 15, 15⟩] (htab.trans rfl) (fun z hz => nomatch hz) rfl (by decide) (hts (.classLink RL 21 "java/lang/IndexOutOfBoundsException") (by decide +kernel)) (cast_w hG).2.2 hce hcv hcl ?_
      refine lv_astore_n (lv' := [(3, .ref q9), (0, .ref (a o)), (1, .int p1), (2, .ref b)]) hx hb dL_withdraw_12 rfl hl (by decide) rfl (fun ls hl => ?_)
      refine lv_iconst (v := (1 : Int32)) hx hb dL_withdraw_13 (by decide) ?_
      refine vx_ret (W.widen (k := 3) (n := 18) (by decide) (by decide) ?_)
      exact W.iret (v := (1 : Int32)) hx hb hr (fun t ht hW => ⟨⟨(1 : Int32), (S, f), rfl, rfl, by rw [ht]; exact hP, hD⟩, hS.F ht⟩) hS.2.2 dL_withdraw_14
    | 1, e2 =>
      cases Option.some.inj e2
      refine vx_catch hown [⟨0, 9, 12, 21⟩] ⟨0, 9, 15, 15⟩ [] (htab.trans rfl) (fun z hz => by cases List.mem_singleton.mp hz; exact Or.inr ⟨by decide, "java/lang/IndexOutOfBoundsException", hts (.classLink RL 21 "java/lang/IndexOutOfBoundsException") (by decide +kernel), hN.2.1⟩) rfl (by decide) (hts (.classLink RL 15 "java/lang/IllegalStateException") (by decide +kernel)) (cast_w hG).2.1 hce hcv hcl ?_
      refine lv_astore_n (lv' := [(3, .ref q9), (0, .ref (a o)), (1, .int p1), (2, .ref b)]) hx hb dL_withdraw_15 rfl hl (by decide) rfl (fun ls hl => ?_)
      refine lv_iconst (v := (2 : Int32)) hx hb dL_withdraw_16 (by decide) ?_
      refine vx_ret (W.widen (k := 3) (n := 18) (by decide) (by decide) ?_)
      exact W.iret (v := (2 : Int32)) hx hb hr (fun t ht hW => ⟨⟨(2 : Int32), (S, f), rfl, rfl, by rw [ht]; exact hP, hD⟩, hS.F ht⟩) hS.2.2 dL_withdraw_17
    | i + 2, e2 => cases e2
theorem qL_type (l : Launch) (hl9 : l.stackTraces = false) (D : va_G) (cy : Nat → ClassId) (tt : Nat → Nat) (a : Nat → Nat) (o b : Nat) (S : SX11) (p1 : Int32) (f : Nat → Int64) (sz : Nat) (res : Int32 × (SX11 × (Nat → Int64))) (h : wrO [2, 3] S f (DX11_type S p1) res) : vx_Met l yL_type wsL_type ({ frames := 8, cells := 2, slots := 12, locals := 141 } : Room) (lP D cy tt sz [.ref (a o), .int p1, .ref b] (oC cy b f :: wX11 cy a o S)) (va_Qi (fun r (u : SX11 × (Nat → Int64)) => (r, u) = res) (fun u t => mB D sz (oC cy b f :: wX11 cy a o S) (oC cy b u.2 :: wX11 cy a o u.1) t) (va_A (oC cy b f :: wX11 cy a o S) sz)) (fun _ _ _ => False) 2 12 (va_A (oC cy b f :: wX11 cy a o S) sz) := by
  refine vx_ofWH (cc := cL_type) (maxL := 4) (ret := (some .int)) (by decide) rfl ?_
  intro p e s m args below meth c s₁ B hml hv
  obtain ⟨rfl, hsz, hP, hG, hD0, hX, hN⟩ := hv
  have hx := B.exec
  have hb := B.bytes
  have hr := B.returns
  have hts := atoms_spec (ws := wsL_type) B.pre
  have hown : s.vm.findClass RL = some m.cls := findClass_of_methodNamed B.named
  have hlocks := B.notSynchronized
  have htab := vx_table (x := yL_type) B (hts _ List.mem_cons_self)
  have hK := hG.1
  subst hsz
  have hD := hD0.self (sz := s.heap.size)
  have hA : ∀ q : Nat, s.heap.size ≤ q → (va_A (oC cy b f :: wX11 cy a o S) s.heap.size) q := fun q h => Or.inr h
  have hS : va_S (va_A (oC cy b f :: wX11 cy a o S) s.heap.size) s.heap s.heap [] := va_S.rf
  have hl := lv_entry ([.ref (a o), .int p1, .ref b]) (n := 4) (Nat.le_of_ble_eq_true rfl)
  rw [lg_entry_eq]
  generalize (lg_sl ([.ref (a o), .int p1, .ref b]) ++ List.replicate (4 - (lg_sl ([.ref (a o), .int p1, .ref b])).length) Slot.unset).toArray = ls at hl ⊢
  have hl : lv_has ls 4 [(0, .ref (a o)), (1, .int p1), (2, .ref b)] := hl
  refine lv_aload_n hx hb dL_type_0 rfl (lv_at hl 2 rfl) ?_
  refine lv_iconst (v := (0 : Int32)) hx hb dL_type_1 (by decide) ?_
  refine lv_aload_n hx hb dL_type_2 rfl (lv_at hl 0 rfl) ?_
  refine lv_iload_n hx hb dL_type_3 rfl (lv_at hl 1 rfl) ?_
  rcases h with ⟨v, T, e1, rfl⟩ | ⟨i, n, e1, e2, rfl⟩
  · refine tcNm (x0 := (v, T)) (wf := fun T => wX11 cy a o T) (ws' := oC cy b f :: wX11 cy a o T) hG hX hP hD hS hA (pmO cy a o b S f) (pmO cy a o b T f) (fun h1 h2 => vx_runV (As := [.int p1]) (rest := [.int 0, .ref b]) ⟨hx, hb, hml, hown, hts⟩ (qX11_type l hl9 D cy tt a o S p1 (s.heap).size (Sum.inr (v, T)) e1) (cwV 1 hts gL_type_X11_type rfl rfl rfl (by decide +kernel) ⟨Nat.le_of_ble_eq_true rfl, Nat.le_of_ble_eq_true rfl⟩) ⟨h1, va_recv hK hP (ci := 11) (q0 := 1) rfl rfl, h2⟩ rfl rfl hl.1 rfl (lv_room (Nat.le_of_ble_eq_true rfl)) dL_type_4 ⟨Nat.le_of_ble_eq_true rfl, Nat.le_of_ble_eq_true rfl⟩) (c2 := 2) (s2 := 12) rfl rfl (fun H locs hP hD hS => ?_)
    refine lv_i2l hx hb dL_type_7 rfl ?_
    refine va_last (q0 := 0) (t0 := 3) hx hb hK hP hD hS rfl rfl (show vp_in (0 : Int32) 1 by unfold vp_in; decide) dL_type_8 (fun H locs hP hD hS => ?_)
    refine lv_goto (tgt := 18) hx hb dL_type_9 (by decide) ?_
    refine lv_iconst (v := (0 : Int32)) hx hb dL_type_18 (by decide) ?_
    refine vx_ret (W.widen (k := 2) (n := 12) (by decide) (by decide) ?_)
    exact W.iret (v := (0 : Int32)) hx hb hr (fun t ht hW => ⟨⟨(0 : Int32), (T, vp_updL f 0 v.toInt64), rfl, rfl, by rw [ht]; exact hP, hD⟩, hS.F ht⟩) hS.2.2 dL_type_19
  · refine tcT (R0 := Int32 × SX11) (fun st v t q => by obtain ⟨⟨r, u, -, hu, -⟩, -⟩ := q; cases hu) hG hX hP hD hS hA (pmO cy a o b S f) (fun h1 h2 => vx_runV (As := [.int p1]) (rest := [.int 0, .ref b]) ⟨hx, hb, hml, hown, hts⟩ (qX11_type l hl9 D cy tt a o S p1 (s.heap).size (Sum.inl n) e1) (cwV 1 hts gL_type_X11_type rfl rfl rfl (by decide +kernel) ⟨Nat.le_of_ble_eq_true rfl, Nat.le_of_ble_eq_true rfl⟩) ⟨h1, va_recv hK hP (ci := 11) (q0 := 1) rfl rfl, h2⟩ rfl rfl hl.1 rfl (lv_room (Nat.le_of_ble_eq_true rfl)) dL_type_4 ⟨Nat.le_of_ble_eq_true rfl, Nat.le_of_ble_eq_true rfl⟩) (fun ce q9 H locs hP hS hce hcv hcl => ?_)
    match i, e2 with
    | 0, e2 =>
      cases Option.some.inj e2
      refine vx_catch hown [] ⟨0, 9, 12, 13⟩ [⟨0, 9, 15, 15⟩] (htab.trans rfl) (fun z hz => nomatch hz) rfl (by decide) (hts (.classLink RL 13 "java/lang/IllegalArgumentException") (by decide +kernel)) (cast_w hG).1 hce hcv hcl ?_
      refine lv_astore_n (lv' := [(3, .ref q9), (0, .ref (a o)), (1, .int p1), (2, .ref b)]) hx hb dL_type_12 rfl hl (by decide) rfl (fun ls hl => ?_)
      refine lv_iconst (v := (1 : Int32)) hx hb dL_type_13 (by decide) ?_
      refine vx_ret (W.widen (k := 2) (n := 12) (by decide) (by decide) ?_)
      exact W.iret (v := (1 : Int32)) hx hb hr (fun t ht hW => ⟨⟨(1 : Int32), (S, f), rfl, rfl, by rw [ht]; exact hP, hD⟩, hS.F ht⟩) hS.2.2 dL_type_14
    | 1, e2 =>
      cases Option.some.inj e2
      refine vx_catch hown [⟨0, 9, 12, 13⟩] ⟨0, 9, 15, 15⟩ [] (htab.trans rfl) (fun z hz => by cases List.mem_singleton.mp hz; exact Or.inr ⟨by decide, "java/lang/IllegalArgumentException", hts (.classLink RL 13 "java/lang/IllegalArgumentException") (by decide +kernel), hN.2.2⟩) rfl (by decide) (hts (.classLink RL 15 "java/lang/IllegalStateException") (by decide +kernel)) (cast_w hG).2.1 hce hcv hcl ?_
      refine lv_astore_n (lv' := [(3, .ref q9), (0, .ref (a o)), (1, .int p1), (2, .ref b)]) hx hb dL_type_15 rfl hl (by decide) rfl (fun ls hl => ?_)
      refine lv_iconst (v := (2 : Int32)) hx hb dL_type_16 (by decide) ?_
      refine vx_ret (W.widen (k := 2) (n := 12) (by decide) (by decide) ?_)
      exact W.iret (v := (2 : Int32)) hx hb hr (fun t ht hW => ⟨⟨(2 : Int32), (S, f), rfl, rfl, by rw [ht]; exact hP, hD⟩, hS.F ht⟩) hS.2.2 dL_type_17
    | i + 2, e2 => cases e2
theorem qL_undo (l : Launch) (hl9 : l.stackTraces = false) (D : va_G) (cy : Nat → ClassId) (tt : Nat → Nat) (a : Nat → Nat) (o b : Nat) (S : SX11) (f : Nat → Int64) (sz : Nat) (res : Int32 × (SX11 × (Nat → Int64))) (h : wrO [3] S f (DX11_undo S) res) : vx_Met l yL_undo wsL_undo ({ frames := 8, cells := 1, slots := 6, locals := 226 } : Room) (lP D cy tt sz [.ref (a o), .ref b] (oC cy b f :: wX11 cy a o S)) (va_Qi (fun r (u : SX11 × (Nat → Int64)) => (r, u) = res) (fun u t => mB D sz (oC cy b f :: wX11 cy a o S) (oC cy b u.2 :: wX11 cy a o u.1) t) (va_A (oC cy b f :: wX11 cy a o S) sz)) (fun _ _ _ => False) 1 6 (va_A (oC cy b f :: wX11 cy a o S) sz) := by
  refine vx_ofWH (cc := cL_undo) (maxL := 3) (ret := (some .int)) (by decide) rfl ?_
  intro p e s m args below meth c s₁ B hml hv
  obtain ⟨rfl, hsz, hP, hG, hD0, hX, hN⟩ := hv
  have hx := B.exec
  have hb := B.bytes
  have hr := B.returns
  have hts := atoms_spec (ws := wsL_undo) B.pre
  have hown : s.vm.findClass RL = some m.cls := findClass_of_methodNamed B.named
  have hlocks := B.notSynchronized
  have htab := vx_table (x := yL_undo) B (hts _ List.mem_cons_self)
  have hK := hG.1
  subst hsz
  have hD := hD0.self (sz := s.heap.size)
  have hA : ∀ q : Nat, s.heap.size ≤ q → (va_A (oC cy b f :: wX11 cy a o S) s.heap.size) q := fun q h => Or.inr h
  have hS : va_S (va_A (oC cy b f :: wX11 cy a o S) s.heap.size) s.heap s.heap [] := va_S.rf
  have hl := lv_entry ([.ref (a o), .ref b]) (n := 3) (Nat.le_of_ble_eq_true rfl)
  rw [lg_entry_eq]
  generalize (lg_sl ([.ref (a o), .ref b]) ++ List.replicate (3 - (lg_sl ([.ref (a o), .ref b])).length) Slot.unset).toArray = ls at hl ⊢
  have hl : lv_has ls 3 [(0, .ref (a o)), (1, .ref b)] := hl
  refine lv_aload_n hx hb dL_undo_0 rfl (lv_at hl 1 rfl) ?_
  refine lv_iconst (v := (0 : Int32)) hx hb dL_undo_1 (by decide) ?_
  refine lv_aload_n hx hb dL_undo_2 rfl (lv_at hl 0 rfl) ?_
  rcases h with ⟨v, T, e1, rfl⟩ | ⟨i, n, e1, e2, rfl⟩
  · refine tcNm (x0 := (v, T)) (wf := fun T => wX11 cy a o T) (ws' := oC cy b f :: wX11 cy a o T) hG hX hP hD hS hA (pmO cy a o b S f) (pmO cy a o b T f) (fun h1 h2 => vx_runV (As := []) (rest := [.int 0, .ref b]) ⟨hx, hb, hml, hown, hts⟩ (qX11_undo l hl9 D cy tt a o S  (s.heap).size (Sum.inr (v, T)) e1) (cwV 0 hts gL_undo_X11_undo rfl rfl rfl (by decide +kernel) ⟨Nat.le_of_ble_eq_true rfl, Nat.le_of_ble_eq_true rfl⟩) ⟨h1, va_recv hK hP (ci := 11) (q0 := 1) rfl rfl, h2⟩ rfl rfl hl.1 rfl (lv_room (Nat.le_of_ble_eq_true rfl)) dL_undo_3 ⟨Nat.le_of_ble_eq_true rfl, Nat.le_of_ble_eq_true rfl⟩) (c2 := 1) (s2 := 6) rfl rfl (fun H locs hP hD hS => ?_)
    refine lv_i2l hx hb dL_undo_6 rfl ?_
    refine va_last (q0 := 0) (t0 := 3) hx hb hK hP hD hS rfl rfl (show vp_in (0 : Int32) 1 by unfold vp_in; decide) dL_undo_7 (fun H locs hP hD hS => ?_)
    refine lv_goto (tgt := 14) hx hb dL_undo_8 (by decide) ?_
    refine lv_iconst (v := (0 : Int32)) hx hb dL_undo_14 (by decide) ?_
    refine vx_ret (W.widen (k := 1) (n := 6) (by decide) (by decide) ?_)
    exact W.iret (v := (0 : Int32)) hx hb hr (fun t ht hW => ⟨⟨(0 : Int32), (T, vp_updL f 0 v.toInt64), rfl, rfl, by rw [ht]; exact hP, hD⟩, hS.F ht⟩) hS.2.2 dL_undo_15
  · refine tcT (R0 := Int32 × SX11) (fun st v t q => by obtain ⟨⟨r, u, -, hu, -⟩, -⟩ := q; cases hu) hG hX hP hD hS hA (pmO cy a o b S f) (fun h1 h2 => vx_runV (As := []) (rest := [.int 0, .ref b]) ⟨hx, hb, hml, hown, hts⟩ (qX11_undo l hl9 D cy tt a o S  (s.heap).size (Sum.inl n) e1) (cwV 0 hts gL_undo_X11_undo rfl rfl rfl (by decide +kernel) ⟨Nat.le_of_ble_eq_true rfl, Nat.le_of_ble_eq_true rfl⟩) ⟨h1, va_recv hK hP (ci := 11) (q0 := 1) rfl rfl, h2⟩ rfl rfl hl.1 rfl (lv_room (Nat.le_of_ble_eq_true rfl)) dL_undo_3 ⟨Nat.le_of_ble_eq_true rfl, Nat.le_of_ble_eq_true rfl⟩) (fun ce q9 H locs hP hS hce hcv hcl => ?_)
    match i, e2 with
    | 0, e2 =>
      cases Option.some.inj e2
      refine vx_catch hown [] ⟨0, 8, 11, 15⟩ [] (htab.trans rfl) (fun z hz => nomatch hz) rfl (by decide) (hts (.classLink RL 15 "java/lang/IllegalStateException") (by decide +kernel)) (cast_w hG).2.1 hce hcv hcl ?_
      refine lv_astore_n (lv' := [(2, .ref q9), (0, .ref (a o)), (1, .ref b)]) hx hb dL_undo_11 rfl hl (by decide) rfl (fun ls hl => ?_)
      refine lv_iconst (v := (1 : Int32)) hx hb dL_undo_12 (by decide) ?_
      refine vx_ret (W.widen (k := 1) (n := 6) (by decide) (by decide) ?_)
      exact W.iret (v := (1 : Int32)) hx hb hr (fun t ht hW => ⟨⟨(1 : Int32), (S, f), rfl, rfl, by rw [ht]; exact hP, hD⟩, hS.F ht⟩) hS.2.2 dL_undo_13
    | i + 1, e2 => cases e2
