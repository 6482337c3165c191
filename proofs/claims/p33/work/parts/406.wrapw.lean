theorem qL_addWork (l : Launch) (hl9 : l.stackTraces = false) (D : va_G) (cy : Nat → ClassId) (tt : Nat → Nat) (a : Nat → Nat) (o : Nat) (S : SX11) (p1 : Int32) (p2 : Int32) (p3 : Int32) (sz : Nat) (res : Int32 × SX11) (h : DL_addWork S p1 p2 p3 = some res) : vx_Met l yL_addWork wsL_addWork ({ frames := 8, cells := 1, slots := 6, locals := 229 } : Room) (lP D cy tt sz [.ref (a o), .int p1, .int p2, .int p3] (wX11 cy a o S)) (va_Qi (fun r (u : SX11) => (r, u) = res) (fun u t => mB D sz (wX11 cy a o S) (wX11 cy a o u) t) (va_A (wX11 cy a o S) sz)) (fun _ _ _ => False) 1 6 (va_A (wX11 cy a o S) sz) := by
  refine vx_ofWH (cc := cL_addWork) (maxL := 5) (ret := (some .int)) (by decide) rfl ?_
  intro p e s m args below meth c s₁ B hml hv
  obtain ⟨rfl, hsz, hP, hG, hD0, hX, hN⟩ := hv
  have hx := B.exec
  have hb := B.bytes
  have hr := B.returns
  have hts := atoms_spec (ws := wsL_addWork) B.pre
  have hown : s.vm.findClass RL = some m.cls := findClass_of_methodNamed B.named
  have hlocks := B.notSynchronized
  have htab := vx_table (x := yL_addWork) B (hts _ List.mem_cons_self)
  have hK := hG.1
  subst hsz
  have hD := hD0.self (sz := s.heap.size)
  have hA : ∀ q : Nat, s.heap.size ≤ q → (va_A (wX11 cy a o S) s.heap.size) q := fun q h => Or.inr h
  have hS : va_S (va_A (wX11 cy a o S) s.heap.size) s.heap s.heap [] := va_S.rf
  have hl := lv_entry ([.ref (a o), .int p1, .int p2, .int p3]) (n := 5) (Nat.le_of_ble_eq_true rfl)
  rw [lg_entry_eq]
  generalize (lg_sl ([.ref (a o), .int p1, .int p2, .int p3]) ++ List.replicate (5 - (lg_sl ([.ref (a o), .int p1, .int p2, .int p3])).length) Slot.unset).toArray = ls at hl ⊢
  have hl : lv_has ls 5 [(0, .ref (a o)), (1, .int p1), (2, .int p2), (3, .int p3)] := hl
  rw [DL_addWork] at h
  refine lv_aload_n hx hb dL_addWork_0 rfl (lv_at hl 0 rfl) ?_
  refine lv_iload_n hx hb dL_addWork_1 rfl (lv_at hl 1 rfl) ?_
  refine lv_iload_n hx hb dL_addWork_2 rfl (lv_at hl 2 rfl) ?_
  refine lv_iload_n hx hb dL_addWork_3 rfl (lv_at hl 3 rfl) ?_
  rcases wxW_o h with ⟨v, T, e1, rfl⟩ | ⟨i, n, e1, e2, rfl⟩
  · refine tcNm (x0 := (v, T)) (wf := fun T => wX11 cy a o T) (ws' := wX11 cy a o T) hG hX hP hD hS hA (pmA [] (wX11 cy a o S)) (pmA [] (wX11 cy a o T)) (fun h1 h2 => vx_runV (As := [.int p1, .int p2, .int p3]) (rest := []) ⟨hx, hb, hml, hown, hts⟩ (qX11_addWork l hl9 D cy tt a o S p1 p2 p3 (s.heap).size (Sum.inr (v, T)) e1) (cwV 3 hts gL_addWork_X11_addWork rfl rfl rfl (by decide +kernel) ⟨Nat.le_of_ble_eq_true rfl, Nat.le_of_ble_eq_true rfl⟩) ⟨h1, va_recv hK hP (ci := 11) (q0 := 0) rfl rfl, h2⟩ rfl rfl hl.1 rfl (lv_room (Nat.le_of_ble_eq_true rfl)) dL_addWork_4 ⟨Nat.le_of_ble_eq_true rfl, Nat.le_of_ble_eq_true rfl⟩) (c2 := 0) (s2 := 0) rfl rfl (fun H locs hP hD hS => ?_)
    refine vx_ret (W.widen (k := 1) (n := 6) (by decide) (by decide) ?_)
    exact W.iret (v := v) hx hb hr (fun t ht hW => ⟨⟨v, T, rfl, rfl, by rw [ht]; exact hP, hD⟩, hS.F ht⟩) hS.2.2 dL_addWork_7
  · refine tcT (R0 := Int32 × SX11) (fun st v t q => by obtain ⟨⟨r, u, -, hu, -⟩, -⟩ := q; cases hu) hG hX hP hD hS hA (pmA [] (wX11 cy a o S)) (fun h1 h2 => vx_runV (As := [.int p1, .int p2, .int p3]) (rest := []) ⟨hx, hb, hml, hown, hts⟩ (qX11_addWork l hl9 D cy tt a o S p1 p2 p3 (s.heap).size (Sum.inl n) e1) (cwV 3 hts gL_addWork_X11_addWork rfl rfl rfl (by decide +kernel) ⟨Nat.le_of_ble_eq_true rfl, Nat.le_of_ble_eq_true rfl⟩) ⟨h1, va_recv hK hP (ci := 11) (q0 := 0) rfl rfl, h2⟩ rfl rfl hl.1 rfl (lv_room (Nat.le_of_ble_eq_true rfl)) dL_addWork_4 ⟨Nat.le_of_ble_eq_true rfl, Nat.le_of_ble_eq_true rfl⟩) (fun ce q9 H locs hP hS hce hcv hcl => ?_)
    match i, e2 with
    | 0, e2 =>
      cases Option.some.inj e2
      refine vx_catch hown [] ⟨0, 7, 8, 15⟩ [⟨0, 7, 14, 17⟩] (htab.trans rfl) (fun z hz => nomatch hz) rfl (by decide) (hts (.classLink RL 15 "java/lang/IllegalArgumentException") (by decide +kernel)) (cast_w hG).1 hce hcv hcl ?_
      refine lv_astore (lv' := [(4, .ref q9), (0, .ref (a o)), (1, .int p1), (2, .int p2), (3, .int p3)]) hx hb dL_addWork_8 hl (by decide) rfl (fun ls hl => ?_)
      refine lv_sipush (v := (-901 : Int32)) hx hb dL_addWork_10 (by decide) ?_
      refine vx_ret (W.widen (k := 1) (n := 6) (by decide) (by decide) ?_)
      exact W.iret (v := (-901 : Int32)) hx hb hr (fun t ht hW => ⟨⟨(-901 : Int32), S, rfl, rfl, by rw [ht]; exact hP, hD⟩, hS.F ht⟩) hS.2.2 dL_addWork_13
    | 1, e2 =>
      cases Option.some.inj e2
      refine vx_catch hown [⟨0, 7, 8, 15⟩] ⟨0, 7, 14, 17⟩ [] (htab.trans rfl) (fun z hz => by cases List.mem_singleton.mp hz; exact Or.inr ⟨by decide, "java/lang/IllegalArgumentException", hts (.classLink RL 15 "java/lang/IllegalArgumentException") (by decide +kernel), hN.2.2⟩) rfl (by decide) (hts (.classLink RL 17 "java/lang/IllegalStateException") (by decide +kernel)) (cast_w hG).2.1 hce hcv hcl ?_
      refine lv_astore (lv' := [(4, .ref q9), (0, .ref (a o)), (1, .int p1), (2, .int p2), (3, .int p3)]) hx hb dL_addWork_14 hl (by decide) rfl (fun ls hl => ?_)
      refine lv_sipush (v := (-902 : Int32)) hx hb dL_addWork_16 (by decide) ?_
      refine vx_ret (W.widen (k := 1) (n := 6) (by decide) (by decide) ?_)
      exact W.iret (v := (-902 : Int32)) hx hb hr (fun t ht hW => ⟨⟨(-902 : Int32), S, rfl, rfl, by rw [ht]; exact hP, hD⟩, hS.F ht⟩) hS.2.2 dL_addWork_19
    | i + 2, e2 => cases e2
theorem qL_addEntrant (l : Launch) (hl9 : l.stackTraces = false) (D : va_G) (cy : Nat → ClassId) (tt : Nat → Nat) (a : Nat → Nat) (o : Nat) (S : SX11) (sz : Nat) (res : Int32 × SX11) (h : DL_addEntrant S = some res) : vx_Met l yL_addEntrant wsL_addEntrant ({ frames := 8, cells := 1, slots := 6, locals := 226 } : Room) (lP D cy tt sz [.ref (a o)] (wX11 cy a o S)) (va_Qi (fun r (u : SX11) => (r, u) = res) (fun u t => mB D sz (wX11 cy a o S) (wX11 cy a o u) t) (va_A (wX11 cy a o S) sz)) (fun _ _ _ => False) 1 6 (va_A (wX11 cy a o S) sz) := by
  refine vx_ofWH (cc := cL_addEntrant) (maxL := 2) (ret := (some .int)) (by decide) rfl ?_
  intro p e s m args below meth c s₁ B hml hv
  obtain ⟨rfl, hsz, hP, hG, hD0, hX, hN⟩ := hv
  have hx := B.exec
  have hb := B.bytes
  have hr := B.returns
  have hts := atoms_spec (ws := wsL_addEntrant) B.pre
  have hown : s.vm.findClass RL = some m.cls := findClass_of_methodNamed B.named
  have hlocks := B.notSynchronized
  have htab := vx_table (x := yL_addEntrant) B (hts _ List.mem_cons_self)
  have hK := hG.1
  subst hsz
  have hD := hD0.self (sz := s.heap.size)
  have hA : ∀ q : Nat, s.heap.size ≤ q → (va_A (wX11 cy a o S) s.heap.size) q := fun q h => Or.inr h
  have hS : va_S (va_A (wX11 cy a o S) s.heap.size) s.heap s.heap [] := va_S.rf
  have hl := lv_entry ([.ref (a o)]) (n := 2) (Nat.le_of_ble_eq_true rfl)
  rw [lg_entry_eq]
  generalize (lg_sl ([.ref (a o)]) ++ List.replicate (2 - (lg_sl ([.ref (a o)])).length) Slot.unset).toArray = ls at hl ⊢
  have hl : lv_has ls 2 [(0, .ref (a o))] := hl
  rw [DL_addEntrant] at h
  refine lv_aload_n hx hb dL_addEntrant_0 rfl (lv_at hl 0 rfl) ?_
  rcases wxW_o h with ⟨v, T, e1, rfl⟩ | ⟨i, n, e1, e2, rfl⟩
  · refine tcNm (x0 := (v, T)) (wf := fun T => wX11 cy a o T) (ws' := wX11 cy a o T) hG hX hP hD hS hA (pmA [] (wX11 cy a o S)) (pmA [] (wX11 cy a o T)) (fun h1 h2 => vx_runV (As := []) (rest := []) ⟨hx, hb, hml, hown, hts⟩ (qX11_addEntrant l hl9 D cy tt a o S  (s.heap).size (Sum.inr (v, T)) e1) (cwV 0 hts gL_addEntrant_X11_addEntrant rfl rfl rfl (by decide +kernel) ⟨Nat.le_of_ble_eq_true rfl, Nat.le_of_ble_eq_true rfl⟩) ⟨h1, va_recv hK hP (ci := 11) (q0 := 0) rfl rfl, h2⟩ rfl rfl hl.1 rfl (lv_room (Nat.le_of_ble_eq_true rfl)) dL_addEntrant_1 ⟨Nat.le_of_ble_eq_true rfl, Nat.le_of_ble_eq_true rfl⟩) (c2 := 0) (s2 := 0) rfl rfl (fun H locs hP hD hS => ?_)
    refine vx_ret (W.widen (k := 1) (n := 6) (by decide) (by decide) ?_)
    exact W.iret (v := v) hx hb hr (fun t ht hW => ⟨⟨v, T, rfl, rfl, by rw [ht]; exact hP, hD⟩, hS.F ht⟩) hS.2.2 dL_addEntrant_4
  · refine tcT (R0 := Int32 × SX11) (fun st v t q => by obtain ⟨⟨r, u, -, hu, -⟩, -⟩ := q; cases hu) hG hX hP hD hS hA (pmA [] (wX11 cy a o S)) (fun h1 h2 => vx_runV (As := []) (rest := []) ⟨hx, hb, hml, hown, hts⟩ (qX11_addEntrant l hl9 D cy tt a o S  (s.heap).size (Sum.inl n) e1) (cwV 0 hts gL_addEntrant_X11_addEntrant rfl rfl rfl (by decide +kernel) ⟨Nat.le_of_ble_eq_true rfl, Nat.le_of_ble_eq_true rfl⟩) ⟨h1, va_recv hK hP (ci := 11) (q0 := 0) rfl rfl, h2⟩ rfl rfl hl.1 rfl (lv_room (Nat.le_of_ble_eq_true rfl)) dL_addEntrant_1 ⟨Nat.le_of_ble_eq_true rfl, Nat.le_of_ble_eq_true rfl⟩) (fun ce q9 H locs hP hS hce hcv hcl => ?_)
    match i, e2 with
    | 0, e2 =>
      cases Option.some.inj e2
      refine vx_catch hown [] ⟨0, 4, 5, 17⟩ [] (htab.trans rfl) (fun z hz => nomatch hz) rfl (by decide) (hts (.classLink RL 17 "java/lang/IllegalStateException") (by decide +kernel)) (cast_w hG).2.1 hce hcv hcl ?_
      refine lv_astore_n (lv' := [(1, .ref q9), (0, .ref (a o))]) hx hb dL_addEntrant_5 rfl hl (by decide) rfl (fun ls hl => ?_)
      refine lv_sipush (v := (-902 : Int32)) hx hb dL_addEntrant_6 (by decide) ?_
      refine vx_ret (W.widen (k := 1) (n := 6) (by decide) (by decide) ?_)
      exact W.iret (v := (-902 : Int32)) hx hb hr (fun t ht hW => ⟨⟨(-902 : Int32), S, rfl, rfl, by rw [ht]; exact hP, hD⟩, hS.F ht⟩) hS.2.2 dL_addEntrant_9
    | i + 1, e2 => cases e2
theorem qL_bar (l : Launch) (hl9 : l.stackTraces = false) (D : va_G) (cy : Nat → ClassId) (tt : Nat → Nat) (a : Nat → Nat) (o : Nat) (S : SX11) (p1 : Int32) (p2 : Int32) (p3 : Int32) (sz : Nat) (res : Int32 × SX11) (h : DL_bar S p1 p2 p3 = some res) : vx_Met l yL_bar wsL_bar ({ frames := 10, cells := 1, slots := 6, locals := 230 } : Room) (lP D cy tt sz [.ref (a o), .int p1, .int p2, .int p3] (wX11 cy a o S)) (va_Qi (fun r (u : SX11) => (r, u) = res) (fun u t => mB D sz (wX11 cy a o S) (wX11 cy a o u) t) (va_A (wX11 cy a o S) sz)) (fun _ _ _ => False) 1 6 (va_A (wX11 cy a o S) sz) := by
  refine vx_ofWH (cc := cL_bar) (maxL := 5) (ret := (some .int)) (by decide) rfl ?_
  intro p e s m args below meth c s₁ B hml hv
  obtain ⟨rfl, hsz, hP, hG, hD0, hX, hN⟩ := hv
  have hx := B.exec
  have hb := B.bytes
  have hr := B.returns
  have hts := atoms_spec (ws := wsL_bar) B.pre
  have hown : s.vm.findClass RL = some m.cls := findClass_of_methodNamed B.named
  have hlocks := B.notSynchronized
  have htab := vx_table (x := yL_bar) B (hts _ List.mem_cons_self)
  have hK := hG.1
  subst hsz
  have hD := hD0.self (sz := s.heap.size)
  have hA : ∀ q : Nat, s.heap.size ≤ q → (va_A (wX11 cy a o S) s.heap.size) q := fun q h => Or.inr h
  have hS : va_S (va_A (wX11 cy a o S) s.heap.size) s.heap s.heap [] := va_S.rf
  have hl := lv_entry ([.ref (a o), .int p1, .int p2, .int p3]) (n := 5) (Nat.le_of_ble_eq_true rfl)
  rw [lg_entry_eq]
  generalize (lg_sl ([.ref (a o), .int p1, .int p2, .int p3]) ++ List.replicate (5 - (lg_sl ([.ref (a o), .int p1, .int p2, .int p3])).length) Slot.unset).toArray = ls at hl ⊢
  have hl : lv_has ls 5 [(0, .ref (a o)), (1, .int p1), (2, .int p2), (3, .int p3)] := hl
  rw [DL_bar] at h
  refine lv_aload_n hx hb dL_bar_0 rfl (lv_at hl 0 rfl) ?_
  refine lv_iload_n hx hb dL_bar_1 rfl (lv_at hl 1 rfl) ?_
  refine lv_iload_n hx hb dL_bar_2 rfl (lv_at hl 2 rfl) ?_
  refine lv_iload_n hx hb dL_bar_3 rfl (lv_at hl 3 rfl) ?_
  rcases wxB_o h with ⟨v, T, e1, rfl⟩ | ⟨i, n, e1, e2, rfl⟩
  · refine tcNm (x0 := (v, T)) (wf := fun T => wX11 cy a o T) (ws' := wX11 cy a o T) hG hX hP hD hS hA (pmA [] (wX11 cy a o S)) (pmA [] (wX11 cy a o T)) (fun h1 h2 => vx_runV (As := [.int p1, .int p2, .int p3]) (rest := []) ⟨hx, hb, hml, hown, hts⟩ (qX11_bar l hl9 D cy tt a o S p1 p2 p3 (s.heap).size (Sum.inr (v, T)) e1) (cwV 3 hts gL_bar_X11_bar rfl rfl rfl (by decide +kernel) ⟨Nat.le_of_ble_eq_true rfl, Nat.le_of_ble_eq_true rfl⟩) ⟨h1, va_recv hK hP (ci := 11) (q0 := 0) rfl rfl, h2⟩ rfl rfl hl.1 rfl (lv_room (Nat.le_of_ble_eq_true rfl)) dL_bar_4 ⟨Nat.le_of_ble_eq_true rfl, Nat.le_of_ble_eq_true rfl⟩) (c2 := 0) (s2 := 0) rfl rfl (fun H locs hP hD hS => ?_)
    refine lv_if_eq (tgt := 14) hx hb dL_bar_7 (by decide) (fun cc => ?_) (fun cc => ?_)
    · rw [show (if v = 0 then (0 : Int32) else 1) = 0 from if_pos cc]
      refine lv_iconst (v := (0 : Int32)) hx hb dL_bar_14 (by decide) ?_
      refine vx_ret (W.widen (k := 1) (n := 6) (by decide) (by decide) ?_)
      exact W.iret (v := (0 : Int32)) hx hb hr (fun t ht hW => ⟨⟨(0 : Int32), T, rfl, rfl, by rw [ht]; exact hP, hD⟩, hS.F ht⟩) hS.2.2 dL_bar_15
    · rw [show (if v = 0 then (0 : Int32) else 1) = 1 from if_neg cc]
      refine lv_iconst (v := (1 : Int32)) hx hb dL_bar_10 (by decide) ?_
      refine lv_goto (tgt := 15) hx hb dL_bar_11 (by decide) ?_
      refine vx_ret (W.widen (k := 1) (n := 6) (by decide) (by decide) ?_)
      exact W.iret (v := (1 : Int32)) hx hb hr (fun t ht hW => ⟨⟨(1 : Int32), T, rfl, rfl, by rw [ht]; exact hP, hD⟩, hS.F ht⟩) hS.2.2 dL_bar_15
  · refine tcT (R0 := Int32 × SX11) (fun st v t q => by obtain ⟨⟨r, u, -, hu, -⟩, -⟩ := q; cases hu) hG hX hP hD hS hA (pmA [] (wX11 cy a o S)) (fun h1 h2 => vx_runV (As := [.int p1, .int p2, .int p3]) (rest := []) ⟨hx, hb, hml, hown, hts⟩ (qX11_bar l hl9 D cy tt a o S p1 p2 p3 (s.heap).size (Sum.inl n) e1) (cwV 3 hts gL_bar_X11_bar rfl rfl rfl (by decide +kernel) ⟨Nat.le_of_ble_eq_true rfl, Nat.le_of_ble_eq_true rfl⟩) ⟨h1, va_recv hK hP (ci := 11) (q0 := 0) rfl rfl, h2⟩ rfl rfl hl.1 rfl (lv_room (Nat.le_of_ble_eq_true rfl)) dL_bar_4 ⟨Nat.le_of_ble_eq_true rfl, Nat.le_of_ble_eq_true rfl⟩) (fun ce q9 H locs hP hS hce hcv hcl => ?_)
    match i, e2 with
    | 0, e2 =>
      cases Option.some.inj e2
      refine vx_catch hown [] ⟨0, 15, 16, 23⟩ [] (htab.trans rfl) (fun z hz => nomatch hz) rfl (by decide) (hts (.classLink RL 23 "java/lang/IndexOutOfBoundsException") (by decide +kernel)) (cast_w hG).2.2 hce hcv hcl ?_
      refine lv_astore (lv' := [(4, .ref q9), (0, .ref (a o)), (1, .int p1), (2, .int p2), (3, .int p3)]) hx hb dL_bar_16 hl (by decide) rfl (fun ls hl => ?_)
      refine lv_sipush (v := (-903 : Int32)) hx hb dL_bar_18 (by decide) ?_
      refine vx_ret (W.widen (k := 1) (n := 6) (by decide) (by decide) ?_)
      exact W.iret (v := (-903 : Int32)) hx hb hr (fun t ht hW => ⟨⟨(-903 : Int32), S, rfl, rfl, by rw [ht]; exact hP, hD⟩, hS.F ht⟩) hS.2.2 dL_bar_21
    | i + 1, e2 => cases e2
theorem qL_set (l : Launch) (hl9 : l.stackTraces = false) (D : va_G) (cy : Nat → ClassId) (tt : Nat → Nat) (a : Nat → Nat) (o : Nat) (S : SX11) (p1 : Int32) (p2 : Int32) (sz : Nat) (res : Int32 × SX11) (h : DL_set S p1 p2 = some res) : vx_Met l yL_set wsL_set ({ frames := 8, cells := 1, slots := 6, locals := 229 } : Room) (lP D cy tt sz [.ref (a o), .int p1, .int p2] (wX11 cy a o S)) (va_Qi (fun r (u : SX11) => (r, u) = res) (fun u t => mB D sz (wX11 cy a o S) (wX11 cy a o u) t) (va_A (wX11 cy a o S) sz)) (fun _ _ _ => False) 1 6 (va_A (wX11 cy a o S) sz) := by
  refine vx_ofWH (cc := cL_set) (maxL := 4) (ret := (some .int)) (by decide) rfl ?_
  intro p e s m args below meth c s₁ B hml hv
  obtain ⟨rfl, hsz, hP, hG, hD0, hX, hN⟩ := hv
  have hx := B.exec
  have hb := B.bytes
  have hr := B.returns
  have hts := atoms_spec (ws := wsL_set) B.pre
  have hown : s.vm.findClass RL = some m.cls := findClass_of_methodNamed B.named
  have hlocks := B.notSynchronized
  have htab := vx_table (x := yL_set) B (hts _ List.mem_cons_self)
  have hK := hG.1
  subst hsz
  have hD := hD0.self (sz := s.heap.size)
  have hA : ∀ q : Nat, s.heap.size ≤ q → (va_A (wX11 cy a o S) s.heap.size) q := fun q h => Or.inr h
  have hS : va_S (va_A (wX11 cy a o S) s.heap.size) s.heap s.heap [] := va_S.rf
  have hl := lv_entry ([.ref (a o), .int p1, .int p2]) (n := 4) (Nat.le_of_ble_eq_true rfl)
  rw [lg_entry_eq]
  generalize (lg_sl ([.ref (a o), .int p1, .int p2]) ++ List.replicate (4 - (lg_sl ([.ref (a o), .int p1, .int p2])).length) Slot.unset).toArray = ls at hl ⊢
  have hl : lv_has ls 4 [(0, .ref (a o)), (1, .int p1), (2, .int p2)] := hl
  rw [DL_set] at h
  refine lv_aload_n hx hb dL_set_0 rfl (lv_at hl 0 rfl) ?_
  refine lv_iload_n hx hb dL_set_1 rfl (lv_at hl 1 rfl) ?_
  refine lv_iload_n hx hb dL_set_2 rfl (lv_at hl 2 rfl) ?_
  rcases wxW_o h with ⟨v, T, e1, rfl⟩ | ⟨i, n, e1, e2, rfl⟩
  · refine tcNm (x0 := (v, T)) (wf := fun T => wX11 cy a o T) (ws' := wX11 cy a o T) hG hX hP hD hS hA (pmA [] (wX11 cy a o S)) (pmA [] (wX11 cy a o T)) (fun h1 h2 => vx_runV (As := [.int p1, .int p2]) (rest := []) ⟨hx, hb, hml, hown, hts⟩ (qX11_set l hl9 D cy tt a o S p1 p2 (s.heap).size (Sum.inr (v, T)) e1) (cwV 2 hts gL_set_X11_set rfl rfl rfl (by decide +kernel) ⟨Nat.le_of_ble_eq_true rfl, Nat.le_of_ble_eq_true rfl⟩) ⟨h1, va_recv hK hP (ci := 11) (q0 := 0) rfl rfl, h2⟩ rfl rfl hl.1 rfl (lv_room (Nat.le_of_ble_eq_true rfl)) dL_set_3 ⟨Nat.le_of_ble_eq_true rfl, Nat.le_of_ble_eq_true rfl⟩) (c2 := 0) (s2 := 0) rfl rfl (fun H locs hP hD hS => ?_)
    refine vx_ret (W.widen (k := 1) (n := 6) (by decide) (by decide) ?_)
    exact W.iret (v := v) hx hb hr (fun t ht hW => ⟨⟨v, T, rfl, rfl, by rw [ht]; exact hP, hD⟩, hS.F ht⟩) hS.2.2 dL_set_6
  · refine tcT (R0 := Int32 × SX11) (fun st v t q => by obtain ⟨⟨r, u, -, hu, -⟩, -⟩ := q; cases hu) hG hX hP hD hS hA (pmA [] (wX11 cy a o S)) (fun h1 h2 => vx_runV (As := [.int p1, .int p2]) (rest := []) ⟨hx, hb, hml, hown, hts⟩ (qX11_set l hl9 D cy tt a o S p1 p2 (s.heap).size (Sum.inl n) e1) (cwV 2 hts gL_set_X11_set rfl rfl rfl (by decide +kernel) ⟨Nat.le_of_ble_eq_true rfl, Nat.le_of_ble_eq_true rfl⟩) ⟨h1, va_recv hK hP (ci := 11) (q0 := 0) rfl rfl, h2⟩ rfl rfl hl.1 rfl (lv_room (Nat.le_of_ble_eq_true rfl)) dL_set_3 ⟨Nat.le_of_ble_eq_true rfl, Nat.le_of_ble_eq_true rfl⟩) (fun ce q9 H locs hP hS hce hcv hcl => ?_)
    match i, e2 with
    | 0, e2 =>
      cases Option.some.inj e2
      refine vx_catch hown [] ⟨0, 6, 7, 15⟩ [⟨0, 6, 12, 17⟩] (htab.trans rfl) (fun z hz => nomatch hz) rfl (by decide) (hts (.classLink RL 15 "java/lang/IllegalArgumentException") (by decide +kernel)) (cast_w hG).1 hce hcv hcl ?_
      refine lv_astore_n (lv' := [(3, .ref q9), (0, .ref (a o)), (1, .int p1), (2, .int p2)]) hx hb dL_set_7 rfl hl (by decide) rfl (fun ls hl => ?_)
      refine lv_sipush (v := (-901 : Int32)) hx hb dL_set_8 (by decide) ?_
      refine vx_ret (W.widen (k := 1) (n := 6) (by decide) (by decide) ?_)
      exact W.iret (v := (-901 : Int32)) hx hb hr (fun t ht hW => ⟨⟨(-901 : Int32), S, rfl, rfl, by rw [ht]; exact hP, hD⟩, hS.F ht⟩) hS.2.2 dL_set_11
    | 1, e2 =>
      cases Option.some.inj e2
      refine vx_catch hown [⟨0, 6, 7, 15⟩] ⟨0, 6, 12, 17⟩ [] (htab.trans rfl) (fun z hz => by cases List.mem_singleton.mp hz; exact Or.inr ⟨by decide, "java/lang/IllegalArgumentException", hts (.classLink RL 15 "java/lang/IllegalArgumentException") (by decide +kernel), hN.2.2⟩) rfl (by decide) (hts (.classLink RL 17 "java/lang/IllegalStateException") (by decide +kernel)) (cast_w hG).2.1 hce hcv hcl ?_
      refine lv_astore_n (lv' := [(3, .ref q9), (0, .ref (a o)), (1, .int p1), (2, .int p2)]) hx hb dL_set_12 rfl hl (by decide) rfl (fun ls hl => ?_)
      refine lv_sipush (v := (-902 : Int32)) hx hb dL_set_13 (by decide) ?_
      refine vx_ret (W.widen (k := 1) (n := 6) (by decide) (by decide) ?_)
      exact W.iret (v := (-902 : Int32)) hx hb hr (fun t ht hW => ⟨⟨(-902 : Int32), S, rfl, rfl, by rw [ht]; exact hP, hD⟩, hS.F ht⟩) hS.2.2 dL_set_16
    | i + 2, e2 => cases e2
theorem qL_setRule (l : Launch) (hl9 : l.stackTraces = false) (D : va_G) (cy : Nat → ClassId) (tt : Nat → Nat) (a : Nat → Nat) (o : Nat) (S : SX11) (p1 : Int32) (p2 : Int32) (p3 : Int32) (sz : Nat) (res : Int32 × SX11) (h : DL_setRule S p1 p2 p3 = some res) : vx_Met l yL_setRule wsL_setRule ({ frames := 9, cells := 1, slots := 6, locals := 230 } : Room) (lP D cy tt sz [.ref (a o), .int p1, .int p2, .int p3] (wX11 cy a o S)) (va_Qi (fun r (u : SX11) => (r, u) = res) (fun u t => mB D sz (wX11 cy a o S) (wX11 cy a o u) t) (va_A (wX11 cy a o S) sz)) (fun _ _ _ => False) 1 6 (va_A (wX11 cy a o S) sz) := by
  refine vx_ofWH (cc := cL_setRule) (maxL := 5) (ret := (some .int)) (by decide) rfl ?_
  intro p e s m args below meth c s₁ B hml hv
  obtain ⟨rfl, hsz, hP, hG, hD0, hX, hN⟩ := hv
  have hx := B.exec
  have hb := B.bytes
  have hr := B.returns
  have hts := atoms_spec (ws := wsL_setRule) B.pre
  have hown : s.vm.findClass RL = some m.cls := findClass_of_methodNamed B.named
  have hlocks := B.notSynchronized
  have htab := vx_table (x := yL_setRule) B (hts _ List.mem_cons_self)
  have hK := hG.1
  subst hsz
  have hD := hD0.self (sz := s.heap.size)
  have hA : ∀ q : Nat, s.heap.size ≤ q → (va_A (wX11 cy a o S) s.heap.size) q := fun q h => Or.inr h
  have hS : va_S (va_A (wX11 cy a o S) s.heap.size) s.heap s.heap [] := va_S.rf
  have hl := lv_entry ([.ref (a o), .int p1, .int p2, .int p3]) (n := 5) (Nat.le_of_ble_eq_true rfl)
  rw [lg_entry_eq]
  generalize (lg_sl ([.ref (a o), .int p1, .int p2, .int p3]) ++ List.replicate (5 - (lg_sl ([.ref (a o), .int p1, .int p2, .int p3])).length) Slot.unset).toArray = ls at hl ⊢
  have hl : lv_has ls 5 [(0, .ref (a o)), (1, .int p1), (2, .int p2), (3, .int p3)] := hl
  rw [DL_setRule] at h
  refine lv_aload_n hx hb dL_setRule_0 rfl (lv_at hl 0 rfl) ?_
  refine lv_iload_n hx hb dL_setRule_1 rfl (lv_at hl 1 rfl) ?_
  refine lv_iload_n hx hb dL_setRule_2 rfl (lv_at hl 2 rfl) ?_
  refine lv_iload_n hx hb dL_setRule_3 rfl (lv_at hl 3 rfl) ?_
  rcases wxW_o h with ⟨v, T, e1, rfl⟩ | ⟨i, n, e1, e2, rfl⟩
  · refine tcNm (x0 := (v, T)) (wf := fun T => wX11 cy a o T) (ws' := wX11 cy a o T) hG hX hP hD hS hA (pmA [] (wX11 cy a o S)) (pmA [] (wX11 cy a o T)) (fun h1 h2 => vx_runV (As := [.int p1, .int p2, .int p3]) (rest := []) ⟨hx, hb, hml, hown, hts⟩ (qX11_setRule l hl9 D cy tt a o S p1 p2 p3 (s.heap).size (Sum.inr (v, T)) e1) (cwV 3 hts gL_setRule_X11_setRule rfl rfl rfl (by decide +kernel) ⟨Nat.le_of_ble_eq_true rfl, Nat.le_of_ble_eq_true rfl⟩) ⟨h1, va_recv hK hP (ci := 11) (q0 := 0) rfl rfl, h2⟩ rfl rfl hl.1 rfl (lv_room (Nat.le_of_ble_eq_true rfl)) dL_setRule_4 ⟨Nat.le_of_ble_eq_true rfl, Nat.le_of_ble_eq_true rfl⟩) (c2 := 0) (s2 := 0) rfl rfl (fun H locs hP hD hS => ?_)
    refine vx_ret (W.widen (k := 1) (n := 6) (by decide) (by decide) ?_)
    exact W.iret (v := v) hx hb hr (fun t ht hW => ⟨⟨v, T, rfl, rfl, by rw [ht]; exact hP, hD⟩, hS.F ht⟩) hS.2.2 dL_setRule_7
  · refine tcT (R0 := Int32 × SX11) (fun st v t q => by obtain ⟨⟨r, u, -, hu, -⟩, -⟩ := q; cases hu) hG hX hP hD hS hA (pmA [] (wX11 cy a o S)) (fun h1 h2 => vx_runV (As := [.int p1, .int p2, .int p3]) (rest := []) ⟨hx, hb, hml, hown, hts⟩ (qX11_setRule l hl9 D cy tt a o S p1 p2 p3 (s.heap).size (Sum.inl n) e1) (cwV 3 hts gL_setRule_X11_setRule rfl rfl rfl (by decide +kernel) ⟨Nat.le_of_ble_eq_true rfl, Nat.le_of_ble_eq_true rfl⟩) ⟨h1, va_recv hK hP (ci := 11) (q0 := 0) rfl rfl, h2⟩ rfl rfl hl.1 rfl (lv_room (Nat.le_of_ble_eq_true rfl)) dL_setRule_4 ⟨Nat.le_of_ble_eq_true rfl, Nat.le_of_ble_eq_true rfl⟩) (fun ce q9 H locs hP hS hce hcv hcl => ?_)
    match i, e2 with
    | 0, e2 =>
      cases Option.some.inj e2
      refine vx_catch hown [] ⟨0, 7, 8, 23⟩ [⟨0, 7, 14, 15⟩, ⟨0, 7, 20, 17⟩] (htab.trans rfl) (fun z hz => nomatch hz) rfl (by decide) (hts (.classLink RL 23 "java/lang/IndexOutOfBoundsException") (by decide +kernel)) (cast_w hG).2.2 hce hcv hcl ?_
      refine lv_astore (lv' := [(4, .ref q9), (0, .ref (a o)), (1, .int p1), (2, .int p2), (3, .int p3)]) hx hb dL_setRule_8 hl (by decide) rfl (fun ls hl => ?_)
      refine lv_sipush (v := (-903 : Int32)) hx hb dL_setRule_10 (by decide) ?_
      refine vx_ret (W.widen (k := 1) (n := 6) (by decide) (by decide) ?_)
      exact W.iret (v := (-903 : Int32)) hx hb hr (fun t ht hW => ⟨⟨(-903 : Int32), S, rfl, rfl, by rw [ht]; exact hP, hD⟩, hS.F ht⟩) hS.2.2 dL_setRule_13
    | 1, e2 =>
      cases Option.some.inj e2
      refine vx_catch hown [⟨0, 7, 8, 23⟩] ⟨0, 7, 14, 15⟩ [⟨0, 7, 20, 17⟩] (htab.trans rfl) (fun z hz => by cases List.mem_singleton.mp hz; exact Or.inr ⟨by decide, "java/lang/IndexOutOfBoundsException", hts (.classLink RL 23 "java/lang/IndexOutOfBoundsException") (by decide +kernel), hN.1⟩) rfl (by decide) (hts (.classLink RL 15 "java/lang/IllegalArgumentException") (by decide +kernel)) (cast_w hG).1 hce hcv hcl ?_
      refine lv_astore (lv' := [(4, .ref q9), (0, .ref (a o)), (1, .int p1), (2, .int p2), (3, .int p3)]) hx hb dL_setRule_14 hl (by decide) rfl (fun ls hl => ?_)
      refine lv_sipush (v := (-901 : Int32)) hx hb dL_setRule_16 (by decide) ?_
      refine vx_ret (W.widen (k := 1) (n := 6) (by decide) (by decide) ?_)
      exact W.iret (v := (-901 : Int32)) hx hb hr (fun t ht hW => ⟨⟨(-901 : Int32), S, rfl, rfl, by rw [ht]; exact hP, hD⟩, hS.F ht⟩) hS.2.2 dL_setRule_19
    | 2, e2 =>
      cases Option.some.inj e2
      refine vx_catch hown [⟨0, 7, 8, 23⟩, ⟨0, 7, 14, 15⟩] ⟨0, 7, 20, 17⟩ [] (htab.trans rfl) (fun z hz => by
        rcases List.mem_cons.mp hz with hz | hz
        · cases hz; exact Or.inr ⟨by decide, "java/lang/IndexOutOfBoundsException", hts (.classLink RL 23 "java/lang/IndexOutOfBoundsException") (by decide +kernel), hN.2.1⟩
        · cases List.mem_singleton.mp hz; exact Or.inr ⟨by decide, "java/lang/IllegalArgumentException", hts (.classLink RL 15 "java/lang/IllegalArgumentException") (by decide +kernel), hN.2.2⟩) rfl (by decide) (hts (.classLink RL 17 "java/lang/IllegalStateException") (by decide +kernel)) (cast_w hG).2.1 hce hcv hcl ?_
      refine lv_astore (lv' := [(4, .ref q9), (0, .ref (a o)), (1, .int p1), (2, .int p2), (3, .int p3)]) hx hb dL_setRule_20 hl (by decide) rfl (fun ls hl => ?_)
      refine lv_sipush (v := (-902 : Int32)) hx hb dL_setRule_22 (by decide) ?_
      refine vx_ret (W.widen (k := 1) (n := 6) (by decide) (by decide) ?_)
      exact W.iret (v := (-902 : Int32)) hx hb hr (fun t ht hW => ⟨⟨(-902 : Int32), S, rfl, rfl, by rw [ht]; exact hP, hD⟩, hS.F ht⟩) hS.2.2 dL_setRule_25
    | i + 3, e2 => cases e2
theorem qL_setProgram (l : Launch) (hl9 : l.stackTraces = false) (D : va_G) (cy : Nat → ClassId) (tt : Nat → Nat) (a : Nat → Nat) (o : Nat) (S : SX11) (p1 : Int32) (p2 : Int32) (sz : Nat) (res : Int32 × SX11) (h : DL_setProgram S p1 p2 = some res) : vx_Met l yL_setProgram wsL_setProgram ({ frames := 10, cells := 1, slots := 6, locals := 229 } : Room) (lP D cy tt sz [.ref (a o), .int p1, .int p2] (wX11 cy a o S)) (va_Qi (fun r (u : SX11) => (r, u) = res) (fun u t => mB D sz (wX11 cy a o S) (wX11 cy a o u) t) (va_A (wX11 cy a o S) sz)) (fun _ _ _ => False) 1 6 (va_A (wX11 cy a o S) sz) := by
  refine vx_ofWH (cc := cL_setProgram) (maxL := 4) (ret := (some .int)) (by decide) rfl ?_
  intro p e s m args below meth c s₁ B hml hv
  obtain ⟨rfl, hsz, hP, hG, hD0, hX, hN⟩ := hv
  have hx := B.exec
  have hb := B.bytes
  have hr := B.returns
  have hts := atoms_spec (ws := wsL_setProgram) B.pre
  have hown : s.vm.findClass RL = some m.cls := findClass_of_methodNamed B.named
  have hlocks := B.notSynchronized
  have htab := vx_table (x := yL_setProgram) B (hts _ List.mem_cons_self)
  have hK := hG.1
  subst hsz
  have hD := hD0.self (sz := s.heap.size)
  have hA : ∀ q : Nat, s.heap.size ≤ q → (va_A (wX11 cy a o S) s.heap.size) q := fun q h => Or.inr h
  have hS : va_S (va_A (wX11 cy a o S) s.heap.size) s.heap s.heap [] := va_S.rf
  have hl := lv_entry ([.ref (a o), .int p1, .int p2]) (n := 4) (Nat.le_of_ble_eq_true rfl)
  rw [lg_entry_eq]
  generalize (lg_sl ([.ref (a o), .int p1, .int p2]) ++ List.replicate (4 - (lg_sl ([.ref (a o), .int p1, .int p2])).length) Slot.unset).toArray = ls at hl ⊢
  have hl : lv_has ls 4 [(0, .ref (a o)), (1, .int p1), (2, .int p2)] := hl
  rw [DL_setProgram] at h
  refine lv_aload_n hx hb dL_setProgram_0 rfl (lv_at hl 0 rfl) ?_
  refine lv_iload_n hx hb dL_setProgram_1 rfl (lv_at hl 1 rfl) ?_
  refine lv_iload_n hx hb dL_setProgram_2 rfl (lv_at hl 2 rfl) ?_
  rcases wxW_o h with ⟨v, T, e1, rfl⟩ | ⟨i, n, e1, e2, rfl⟩
  · refine tcMS (x0 := (v, T)) hG hX hP hD hS hA (fun h1 h2 => vx_runV (As := [.int p1, .int p2]) (rest := []) ⟨hx, hb, hml, hown, hts⟩ (qX11_setProgram l hl9 D cy tt a o S p1 p2 (s.heap).size (Sum.inr (v, T)) e1) (cwV 2 hts gL_setProgram_X11_setProgram rfl rfl rfl (by decide +kernel) ⟨Nat.le_of_ble_eq_true rfl, Nat.le_of_ble_eq_true rfl⟩) ⟨h1, va_recv hK hP (ci := 11) (q0 := 0) rfl rfl, h2⟩ rfl rfl hl.1 rfl (lv_room (Nat.le_of_ble_eq_true rfl)) dL_setProgram_3 ⟨Nat.le_of_ble_eq_true rfl, Nat.le_of_ble_eq_true rfl⟩) (c2 := 0) (s2 := 0) rfl rfl (fun H locs hP hD hS => ?_)
    refine vx_ret (W.widen (k := 1) (n := 6) (by decide) (by decide) ?_)
    exact W.iret (v := v) hx hb hr (fun t ht hW => ⟨⟨v, T, rfl, rfl, by rw [ht]; exact hP, hD⟩, hS.F ht⟩) hS.2.2 dL_setProgram_6
  · have hn1 : n = 1 := by
      match i, e2 with
      | 0, e2 => exact (Option.some.inj e2).symm
      | i + 1, e2 => cases e2
    subst hn1
    refine tcTS (fun st v t q => by obtain ⟨⟨r, u, -, hu, -⟩, -⟩ := q; cases hu) hG hX hP hD hS hA (fun h1 h2 => vx_runV (As := [.int p1, .int p2]) (rest := []) ⟨hx, hb, hml, hown, hts⟩ (qX11_setProgram l hl9 D cy tt a o S p1 p2 (s.heap).size (Sum.inl 1) e1) (cwV 2 hts gL_setProgram_X11_setProgram rfl rfl rfl (by decide +kernel) ⟨Nat.le_of_ble_eq_true rfl, Nat.le_of_ble_eq_true rfl⟩) ⟨h1, va_recv hK hP (ci := 11) (q0 := 0) rfl rfl, h2⟩ rfl rfl hl.1 rfl (lv_room (Nat.le_of_ble_eq_true rfl)) dL_setProgram_3 ⟨Nat.le_of_ble_eq_true rfl, Nat.le_of_ble_eq_true rfl⟩) (fun ce q9 H locs hP hS hce hcv hcl => ?_)
    refine vx_catch hown [] ⟨0, 6, 7, 23⟩ [⟨0, 6, 12, 15⟩] (htab.trans rfl) (fun z hz => nomatch hz) rfl (by decide) (hts (.classLink RL 23 "java/lang/IndexOutOfBoundsException") (by decide +kernel)) (cast_w hG).2.2 hce hcv hcl ?_
    refine lv_astore_n (lv' := [(3, .ref q9), (0, .ref (a o)), (1, .int p1), (2, .int p2)]) hx hb dL_setProgram_7 rfl hl (by decide) rfl (fun ls hl => ?_)
    refine lv_sipush (v := (-903 : Int32)) hx hb dL_setProgram_8 (by decide) ?_
    refine vx_ret (W.widen (k := 1) (n := 6) (by decide) (by decide) ?_)
    exact W.iret (v := (-903 : Int32)) hx hb hr (fun t ht hW => ⟨⟨(-903 : Int32), S, rfl, rfl, by rw [ht]; exact hP, hD⟩, hS.F ht⟩) hS.2.2 dL_setProgram_11
theorem qL_clearProgram (l : Launch) (hl9 : l.stackTraces = false) (D : va_G) (cy : Nat → ClassId) (tt : Nat → Nat) (a : Nat → Nat) (o : Nat) (S : SX11) (p1 : Int32) (p2 : Int32) (sz : Nat) (res : Int32 × SX11) (h : DL_clearProgram S p1 p2 = some res) : vx_Met l yL_clearProgram wsL_clearProgram ({ frames := 10, cells := 1, slots := 6, locals := 229 } : Room) (lP D cy tt sz [.ref (a o), .int p1, .int p2] (wX11 cy a o S)) (va_Qi (fun r (u : SX11) => (r, u) = res) (fun u t => mB D sz (wX11 cy a o S) (wX11 cy a o u) t) (va_A (wX11 cy a o S) sz)) (fun _ _ _ => False) 1 6 (va_A (wX11 cy a o S) sz) := by
  refine vx_ofWH (cc := cL_clearProgram) (maxL := 4) (ret := (some .int)) (by decide) rfl ?_
  intro p e s m args below meth c s₁ B hml hv
  obtain ⟨rfl, hsz, hP, hG, hD0, hX, hN⟩ := hv
  have hx := B.exec
  have hb := B.bytes
  have hr := B.returns
  have hts := atoms_spec (ws := wsL_clearProgram) B.pre
  have hown : s.vm.findClass RL = some m.cls := findClass_of_methodNamed B.named
  have hlocks := B.notSynchronized
  have htab := vx_table (x := yL_clearProgram) B (hts _ List.mem_cons_self)
  have hK := hG.1
  subst hsz
  have hD := hD0.self (sz := s.heap.size)
  have hA : ∀ q : Nat, s.heap.size ≤ q → (va_A (wX11 cy a o S) s.heap.size) q := fun q h => Or.inr h
  have hS : va_S (va_A (wX11 cy a o S) s.heap.size) s.heap s.heap [] := va_S.rf
  have hl := lv_entry ([.ref (a o), .int p1, .int p2]) (n := 4) (Nat.le_of_ble_eq_true rfl)
  rw [lg_entry_eq]
  generalize (lg_sl ([.ref (a o), .int p1, .int p2]) ++ List.replicate (4 - (lg_sl ([.ref (a o), .int p1, .int p2])).length) Slot.unset).toArray = ls at hl ⊢
  have hl : lv_has ls 4 [(0, .ref (a o)), (1, .int p1), (2, .int p2)] := hl
  rw [DL_clearProgram] at h
  refine lv_aload_n hx hb dL_clearProgram_0 rfl (lv_at hl 0 rfl) ?_
  refine lv_iload_n hx hb dL_clearProgram_1 rfl (lv_at hl 1 rfl) ?_
  refine lv_iload_n hx hb dL_clearProgram_2 rfl (lv_at hl 2 rfl) ?_
  rcases wxW_o h with ⟨v, T, e1, rfl⟩ | ⟨i, n, e1, e2, rfl⟩
  · refine tcNm (x0 := (v, T)) (wf := fun T => wX11 cy a o T) (ws' := wX11 cy a o T) hG hX hP hD hS hA (pmA [] (wX11 cy a o S)) (pmA [] (wX11 cy a o T)) (fun h1 h2 => vx_runV (As := [.int p1, .int p2]) (rest := []) ⟨hx, hb, hml, hown, hts⟩ (qX11_clearProgram l hl9 D cy tt a o S p1 p2 (s.heap).size (Sum.inr (v, T)) e1) (cwV 2 hts gL_clearProgram_X11_clearProgram rfl rfl rfl (by decide +kernel) ⟨Nat.le_of_ble_eq_true rfl, Nat.le_of_ble_eq_true rfl⟩) ⟨h1, va_recv hK hP (ci := 11) (q0 := 0) rfl rfl, h2⟩ rfl rfl hl.1 rfl (lv_room (Nat.le_of_ble_eq_true rfl)) dL_clearProgram_3 ⟨Nat.le_of_ble_eq_true rfl, Nat.le_of_ble_eq_true rfl⟩) (c2 := 0) (s2 := 0) rfl rfl (fun H locs hP hD hS => ?_)
    refine vx_ret (W.widen (k := 1) (n := 6) (by decide) (by decide) ?_)
    exact W.iret (v := v) hx hb hr (fun t ht hW => ⟨⟨v, T, rfl, rfl, by rw [ht]; exact hP, hD⟩, hS.F ht⟩) hS.2.2 dL_clearProgram_6
  · refine tcT (R0 := Int32 × SX11) (fun st v t q => by obtain ⟨⟨r, u, -, hu, -⟩, -⟩ := q; cases hu) hG hX hP hD hS hA (pmA [] (wX11 cy a o S)) (fun h1 h2 => vx_runV (As := [.int p1, .int p2]) (rest := []) ⟨hx, hb, hml, hown, hts⟩ (qX11_clearProgram l hl9 D cy tt a o S p1 p2 (s.heap).size (Sum.inl n) e1) (cwV 2 hts gL_clearProgram_X11_clearProgram rfl rfl rfl (by decide +kernel) ⟨Nat.le_of_ble_eq_true rfl, Nat.le_of_ble_eq_true rfl⟩) ⟨h1, va_recv hK hP (ci := 11) (q0 := 0) rfl rfl, h2⟩ rfl rfl hl.1 rfl (lv_room (Nat.le_of_ble_eq_true rfl)) dL_clearProgram_3 ⟨Nat.le_of_ble_eq_true rfl, Nat.le_of_ble_eq_true rfl⟩) (fun ce q9 H locs hP hS hce hcv hcl => ?_)
    match i, e2 with
    | 0, e2 =>
      cases Option.some.inj e2
      refine vx_catch hown [] ⟨0, 6, 7, 23⟩ [] (htab.trans rfl) (fun z hz => nomatch hz) rfl (by decide) (hts (.classLink RL 23 "java/lang/IndexOutOfBoundsException") (by decide +kernel)) (cast_w hG).2.2 hce hcv hcl ?_
      refine lv_astore_n (lv' := [(3, .ref q9), (0, .ref (a o)), (1, .int p1), (2, .int p2)]) hx hb dL_clearProgram_7 rfl hl (by decide) rfl (fun ls hl => ?_)
      refine lv_sipush (v := (-903 : Int32)) hx hb dL_clearProgram_8 (by decide) ?_
      refine vx_ret (W.widen (k := 1) (n := 6) (by decide) (by decide) ?_)
      exact W.iret (v := (-903 : Int32)) hx hb hr (fun t ht hW => ⟨⟨(-903 : Int32), S, rfl, rfl, by rw [ht]; exact hP, hD⟩, hS.F ht⟩) hS.2.2 dL_clearProgram_11
    | i + 1, e2 => cases e2
theorem qL_begin (l : Launch) (hl9 : l.stackTraces = false) (D : va_G) (cy : Nat → ClassId) (tt : Nat → Nat) (a : Nat → Nat) (o : Nat) (S : SX11) (p1 : Int32) (sz : Nat) (res : Int32 × SX11) (h : DL_begin S p1 = some res) : vx_Met l yL_begin wsL_begin ({ frames := 8, cells := 1, slots := 6, locals := 227 } : Room) (lP D cy tt sz [.ref (a o), .int p1] (wX11 cy a o S)) (va_Qi (fun r (u : SX11) => (r, u) = res) (fun u t => mB D sz (wX11 cy a o S) (wX11 cy a o u) t) (va_A (wX11 cy a o S) sz)) (fun _ _ _ => False) 1 6 (va_A (wX11 cy a o S) sz) := by
  refine vx_ofWH (cc := cL_begin) (maxL := 3) (ret := (some .int)) (by decide) rfl ?_
  intro p e s m args below meth c s₁ B hml hv
  obtain ⟨rfl, hsz, hP, hG, hD0, hX, hN⟩ := hv
  have hx := B.exec
  have hb := B.bytes
  have hr := B.returns
  have hts := atoms_spec (ws := wsL_begin) B.pre
  have hown : s.vm.findClass RL = some m.cls := findClass_of_methodNamed B.named
  have hlocks := B.notSynchronized
  have htab := vx_table (x := yL_begin) B (hts _ List.mem_cons_self)
  have hK := hG.1
  subst hsz
  have hD := hD0.self (sz := s.heap.size)
  have hA : ∀ q : Nat, s.heap.size ≤ q → (va_A (wX11 cy a o S) s.heap.size) q := fun q h => Or.inr h
  have hS : va_S (va_A (wX11 cy a o S) s.heap.size) s.heap s.heap [] := va_S.rf
  have hl := lv_entry ([.ref (a o), .int p1]) (n := 3) (Nat.le_of_ble_eq_true rfl)
  rw [lg_entry_eq]
  generalize (lg_sl ([.ref (a o), .int p1]) ++ List.replicate (3 - (lg_sl ([.ref (a o), .int p1])).length) Slot.unset).toArray = ls at hl ⊢
  have hl : lv_has ls 3 [(0, .ref (a o)), (1, .int p1)] := hl
  rw [DL_begin] at h
  refine lv_aload_n hx hb dL_begin_0 rfl (lv_at hl 0 rfl) ?_
  refine lv_iload_n hx hb dL_begin_1 rfl (lv_at hl 1 rfl) ?_
  rcases wxW_o h with ⟨v, T, e1, rfl⟩ | ⟨i, n, e1, e2, rfl⟩
  · refine tcNm (x0 := (v, T)) (wf := fun T => wX11 cy a o T) (ws' := wX11 cy a o T) hG hX hP hD hS hA (pmA [] (wX11 cy a o S)) (pmA [] (wX11 cy a o T)) (fun h1 h2 => vx_runV (As := [.int p1]) (rest := []) ⟨hx, hb, hml, hown, hts⟩ (qX11_begin l hl9 D cy tt a o S p1 (s.heap).size (Sum.inr (v, T)) e1) (cwV 1 hts gL_begin_X11_begin rfl rfl rfl (by decide +kernel) ⟨Nat.le_of_ble_eq_true rfl, Nat.le_of_ble_eq_true rfl⟩) ⟨h1, va_recv hK hP (ci := 11) (q0 := 0) rfl rfl, h2⟩ rfl rfl hl.1 rfl (lv_room (Nat.le_of_ble_eq_true rfl)) dL_begin_2 ⟨Nat.le_of_ble_eq_true rfl, Nat.le_of_ble_eq_true rfl⟩) (c2 := 0) (s2 := 0) rfl rfl (fun H locs hP hD hS => ?_)
    refine vx_ret (W.widen (k := 1) (n := 6) (by decide) (by decide) ?_)
    exact W.iret (v := v) hx hb hr (fun t ht hW => ⟨⟨v, T, rfl, rfl, by rw [ht]; exact hP, hD⟩, hS.F ht⟩) hS.2.2 dL_begin_5
  · refine tcT (R0 := Int32 × SX11) (fun st v t q => by obtain ⟨⟨r, u, -, hu, -⟩, -⟩ := q; cases hu) hG hX hP hD hS hA (pmA [] (wX11 cy a o S)) (fun h1 h2 => vx_runV (As := [.int p1]) (rest := []) ⟨hx, hb, hml, hown, hts⟩ (qX11_begin l hl9 D cy tt a o S p1 (s.heap).size (Sum.inl n) e1) (cwV 1 hts gL_begin_X11_begin rfl rfl rfl (by decide +kernel) ⟨Nat.le_of_ble_eq_true rfl, Nat.le_of_ble_eq_true rfl⟩) ⟨h1, va_recv hK hP (ci := 11) (q0 := 0) rfl rfl, h2⟩ rfl rfl hl.1 rfl (lv_room (Nat.le_of_ble_eq_true rfl)) dL_begin_2 ⟨Nat.le_of_ble_eq_true rfl, Nat.le_of_ble_eq_true rfl⟩) (fun ce q9 H locs hP hS hce hcv hcl => ?_)
    match i, e2 with
    | 0, e2 =>
      cases Option.some.inj e2
      refine vx_catch hown [] ⟨0, 5, 6, 15⟩ [⟨0, 5, 11, 17⟩] (htab.trans rfl) (fun z hz => nomatch hz) rfl (by decide) (hts (.classLink RL 15 "java/lang/IllegalArgumentException") (by decide +kernel)) (cast_w hG).1 hce hcv hcl ?_
      refine lv_astore_n (lv' := [(2, .ref q9), (0, .ref (a o)), (1, .int p1)]) hx hb dL_begin_6 rfl hl (by decide) rfl (fun ls hl => ?_)
      refine lv_sipush (v := (-901 : Int32)) hx hb dL_begin_7 (by decide) ?_
      refine vx_ret (W.widen (k := 1) (n := 6) (by decide) (by decide) ?_)
      exact W.iret (v := (-901 : Int32)) hx hb hr (fun t ht hW => ⟨⟨(-901 : Int32), S, rfl, rfl, by rw [ht]; exact hP, hD⟩, hS.F ht⟩) hS.2.2 dL_begin_10
    | 1, e2 =>
      cases Option.some.inj e2
      refine vx_catch hown [⟨0, 5, 6, 15⟩] ⟨0, 5, 11, 17⟩ [] (htab.trans rfl) (fun z hz => by cases List.mem_singleton.mp hz; exact Or.inr ⟨by decide, "java/lang/IllegalArgumentException", hts (.classLink RL 15 "java/lang/IllegalArgumentException") (by decide +kernel), hN.2.2⟩) rfl (by decide) (hts (.classLink RL 17 "java/lang/IllegalStateException") (by decide +kernel)) (cast_w hG).2.1 hce hcv hcl ?_
      refine lv_astore_n (lv' := [(2, .ref q9), (0, .ref (a o)), (1, .int p1)]) hx hb dL_begin_11 rfl hl (by decide) rfl (fun ls hl => ?_)
      refine lv_sipush (v := (-902 : Int32)) hx hb dL_begin_12 (by decide) ?_
      refine vx_ret (W.widen (k := 1) (n := 6) (by decide) (by decide) ?_)
      exact W.iret (v := (-902 : Int32)) hx hb hr (fun t ht hW => ⟨⟨(-902 : Int32), S, rfl, rfl, by rw [ht]; exact hP, hD⟩, hS.F ht⟩) hS.2.2 dL_begin_15
    | i + 2, e2 => cases e2
