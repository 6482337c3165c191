theorem qL_play (l : Launch) (hl9 : l.stackTraces = false) (D : va_G) (cy : Nat → ClassId) (tt : Nat → Nat) (a : Nat → Nat) (o : Nat) (S : SX11) (p1 : Int32) (sz : Nat) (res : Int32 × SX11) (h : DL_play S p1 = some res) : vx_Met l yL_play wsL_play ({ frames := 8, cells := 1, slots := 6, locals := 227 } : Room) (lP D cy tt sz [.ref (a o), .int p1] (wX11 cy a o S)) (va_Qi (fun r (u : SX11) => (r, u) = res) (fun u t => mB D sz (wX11 cy a o S) (wX11 cy a o u) t) (va_A (wX11 cy a o S) sz)) (fun _ _ _ => False) 1 6 (va_A (wX11 cy a o S) sz) := by
  refine vx_ofWH (cc := cL_play) (maxL := 3) (ret := (some .int)) (by decide) rfl ?_
  intro p e s m args below meth c s₁ B hml hv
  obtain ⟨rfl, hsz, hP, hG, hD0, hX, hN⟩ := hv
  have hx := B.exec
  have hb := B.bytes
  have hr := B.returns
  have hts := atoms_spec (ws := wsL_play) B.pre
  have hown : s.vm.findClass RL = some m.cls := findClass_of_methodNamed B.named
  have hlocks := B.notSynchronized
  have htab := vx_table (x := yL_play) B (hts _ List.mem_cons_self)
  have hK := hG.1
  subst hsz
  have hD := hD0.self (sz := s.heap.size)
  have hA : ∀ q : Nat, s.heap.size ≤ q → (va_A (wX11 cy a o S) s.heap.size) q := fun q h => Or.inr h
  have hS : va_S (va_A (wX11 cy a o S) s.heap.size) s.heap s.heap [] := va_S.rf
  have hl := lv_entry ([.ref (a o), .int p1]) (n := 3) (Nat.le_of_ble_eq_true rfl)
  rw [lg_entry_eq]
  generalize (lg_sl ([.ref (a o), .int p1]) ++ List.replicate (3 - (lg_sl ([.ref (a o), .int p1])).length) Slot.unset).toArray = ls at hl ⊢
  have hl : lv_has ls 3 [(0, .ref (a o)), (1, .int p1)] := hl
  rw [DL_play] at h
  refine lv_aload_n hx hb dL_play_0 rfl (lv_at hl 0 rfl) ?_
  refine lv_iload_n hx hb dL_play_1 rfl (lv_at hl 1 rfl) ?_
  rcases wxW_o h with ⟨v, T, e1, rfl⟩ | ⟨i, n, e1, e2, rfl⟩
  · refine tcNm (x0 := (v, T)) (wf := fun T => wX11 cy a o T) (ws' := wX11 cy a o T) hG hX hP hD hS hA (pmA [] (wX11 cy a o S)) (pmA [] (wX11 cy a o T)) (fun h1 h2 => vx_runV (As := [.int p1]) (rest := []) ⟨hx, hb, hml, hown, hts⟩ (qX11_play l hl9 D cy tt a o S p1 (s.heap).size (Sum.inr (v, T)) e1) (cwV 1 hts gL_play_X11_play rfl rfl rfl (by decide +kernel) ⟨Nat.le_of_ble_eq_true rfl, Nat.le_of_ble_eq_true rfl⟩) ⟨h1, va_recv hK hP (ci := 11) (q0 := 0) rfl rfl, h2⟩ rfl rfl hl.1 rfl (lv_room (Nat.le_of_ble_eq_true rfl)) dL_play_2 ⟨Nat.le_of_ble_eq_true rfl, Nat.le_of_ble_eq_true rfl⟩) (c2 := 0) (s2 := 0) rfl rfl (fun H locs hP hD hS => ?_)
    refine vx_ret (W.widen (k := 1) (n := 6) (by decide) (by decide) ?_)
    exact W.iret (v := v) hx hb hr (fun t ht hW => ⟨⟨v, T, rfl, rfl, by rw [ht]; exact hP, hD⟩, hS.F ht⟩) hS.2.2 dL_play_5
  · refine tcT (R0 := Int32 × SX11) (fun st v t q => by obtain ⟨⟨r, u, -, hu, -⟩, -⟩ := q; cases hu) hG hX hP hD hS hA (pmA [] (wX11 cy a o S)) (fun h1 h2 => vx_runV (As := [.int p1]) (rest := []) ⟨hx, hb, hml, hown, hts⟩ (qX11_play l hl9 D cy tt a o S p1 (s.heap).size (Sum.inl n) e1) (cwV 1 hts gL_play_X11_play rfl rfl rfl (by decide +kernel) ⟨Nat.le_of_ble_eq_true rfl, Nat.le_of_ble_eq_true rfl⟩) ⟨h1, va_recv hK hP (ci := 11) (q0 := 0) rfl rfl, h2⟩ rfl rfl hl.1 rfl (lv_room (Nat.le_of_ble_eq_true rfl)) dL_play_2 ⟨Nat.le_of_ble_eq_true rfl, Nat.le_of_ble_eq_true rfl⟩) (fun ce q9 H locs hP hS hce hcv hcl => ?_)
    match i, e2 with
    | 0, e2 =>
      cases Option.some.inj e2
      refine vx_catch hown [] ⟨0, 5, 6, 15⟩ [⟨0, 5, 11, 17⟩] (htab.trans rfl) (fun z hz => nomatch hz) rfl (by decide) (hts (.classLink RL 15 "java/lang/IllegalArgumentException") (by decide +kernel)) (cast_w hG).1 hce hcv hcl ?_
      refine lv_astore_n (lv' := [(2, .ref q9), (0, .ref (a o)), (1, .int p1)]) hx hb dL_play_6 rfl hl (by decide) rfl (fun ls hl => ?_)
      refine lv_sipush (v := (-901 : Int32)) hx hb dL_play_7 (by decide) ?_
      refine vx_ret (W.widen (k := 1) (n := 6) (by decide) (by decide) ?_)
      exact W.iret (v := (-901 : Int32)) hx hb hr (fun t ht hW => ⟨⟨(-901 : Int32), S, rfl, rfl, by rw [ht]; exact hP, hD⟩, hS.F ht⟩) hS.2.2 dL_play_10
    | 1, e2 =>
      cases Option.some.inj e2
      refine vx_catch hown [⟨0, 5, 6, 15⟩] ⟨0, 5, 11, 17⟩ [] (htab.trans rfl) (fun z hz => by cases List.mem_singleton.mp hz; exact Or.inr ⟨by decide, "java/lang/IllegalArgumentException", hts (.classLink RL 15 "java/lang/IllegalArgumentException") (by decide +kernel), hN.2.2⟩) rfl (by decide) (hts (.classLink RL 17 "java/lang/IllegalStateException") (by decide +kernel)) (cast_w hG).2.1 hce hcv hcl ?_
      refine lv_astore_n (lv' := [(2, .ref q9), (0, .ref (a o)), (1, .int p1)]) hx hb dL_play_11 rfl hl (by decide) rfl (fun ls hl => ?_)
      refine lv_sipush (v := (-902 : Int32)) hx hb dL_play_12 (by decide) ?_
      refine vx_ret (W.widen (k := 1) (n := 6) (by decide) (by decide) ?_)
      exact W.iret (v := (-902 : Int32)) hx hb hr (fun t ht hW => ⟨⟨(-902 : Int32), S, rfl, rfl, by rw [ht]; exact hP, hD⟩, hS.F ht⟩) hS.2.2 dL_play_15
    | i + 2, e2 => cases e2
theorem qL_mark (l : Launch) (hl9 : l.stackTraces = false) (D : va_G) (cy : Nat → ClassId) (tt : Nat → Nat) (a : Nat → Nat) (o : Nat) (S : SX11) (p1 : Int32) (p2 : Int32) (p3 : Int32) (sz : Nat) (res : Int32 × SX11) (h : DL_mark S p1 p2 p3 = some res) : vx_Met l yL_mark wsL_mark ({ frames := 10, cells := 1, slots := 6, locals := 252 } : Room) (lP D cy tt sz [.ref (a o), .int p1, .int p2, .int p3] (wX11 cy a o S)) (va_Qi (fun r (u : SX11) => (r, u) = res) (fun u t => mB D sz (wX11 cy a o S) (wX11 cy a o u) t) (va_A (wX11 cy a o S) sz)) (fun _ _ _ => False) 1 6 (va_A (wX11 cy a o S) sz) := by
  refine vx_ofWH (cc := cL_mark) (maxL := 5) (ret := (some .int)) (by decide) rfl ?_
  intro p e s m args below meth c s₁ B hml hv
  obtain ⟨rfl, hsz, hP, hG, hD0, hX, hN⟩ := hv
  have hx := B.exec
  have hb := B.bytes
  have hr := B.returns
  have hts := atoms_spec (ws := wsL_mark) B.pre
  have hown : s.vm.findClass RL = some m.cls := findClass_of_methodNamed B.named
  have hlocks := B.notSynchronized
  have htab := vx_table (x := yL_mark) B (hts _ List.mem_cons_self)
  have hK := hG.1
  subst hsz
  have hD := hD0.self (sz := s.heap.size)
  have hA : ∀ q : Nat, s.heap.size ≤ q → (va_A (wX11 cy a o S) s.heap.size) q := fun q h => Or.inr h
  have hS : va_S (va_A (wX11 cy a o S) s.heap.size) s.heap s.heap [] := va_S.rf
  have hl := lv_entry ([.ref (a o), .int p1, .int p2, .int p3]) (n := 5) (Nat.le_of_ble_eq_true rfl)
  rw [lg_entry_eq]
  generalize (lg_sl ([.ref (a o), .int p1, .int p2, .int p3]) ++ List.replicate (5 - (lg_sl ([.ref (a o), .int p1, .int p2, .int p3])).length) Slot.unset).toArray = ls at hl ⊢
  have hl : lv_has ls 5 [(0, .ref (a o)), (1, .int p1), (2, .int p2), (3, .int p3)] := hl
  rw [DL_mark] at h
  refine lv_aload_n hx hb dL_mark_0 rfl (lv_at hl 0 rfl) ?_
  refine lv_iload_n hx hb dL_mark_1 rfl (lv_at hl 1 rfl) ?_
  refine lv_iload_n hx hb dL_mark_2 rfl (lv_at hl 2 rfl) ?_
  refine lv_iload_n hx hb dL_mark_3 rfl (lv_at hl 3 rfl) ?_
  rcases wxW_o h with ⟨v, T, e1, rfl⟩ | ⟨i, n, e1, e2, rfl⟩
  · refine tcNm (x0 := (v, T)) (wf := fun T => wX11 cy a o T) (ws' := wX11 cy a o T) hG hX hP hD hS hA (pmA [] (wX11 cy a o S)) (pmA [] (wX11 cy a o T)) (fun h1 h2 => vx_runV (As := [.int p1, .int p2, .int p3]) (rest := []) ⟨hx, hb, hml, hown, hts⟩ (qX11_mark l hl9 D cy tt a o S p1 p2 p3 (s.heap).size (Sum.inr (v, T)) e1) (cwV 3 hts gL_mark_X11_mark rfl rfl rfl (by decide +kernel) ⟨Nat.le_of_ble_eq_true rfl, Nat.le_of_ble_eq_true rfl⟩) ⟨h1, va_recv hK hP (ci := 11) (q0 := 0) rfl rfl, h2⟩ rfl rfl hl.1 rfl (lv_room (Nat.le_of_ble_eq_true rfl)) dL_mark_4 ⟨Nat.le_of_ble_eq_true rfl, Nat.le_of_ble_eq_true rfl⟩) (c2 := 0) (s2 := 0) rfl rfl (fun H locs hP hD hS => ?_)
    refine vx_ret (W.widen (k := 1) (n := 6) (by decide) (by decide) ?_)
    exact W.iret (v := v) hx hb hr (fun t ht hW => ⟨⟨v, T, rfl, rfl, by rw [ht]; exact hP, hD⟩, hS.F ht⟩) hS.2.2 dL_mark_7
  · refine tcT (R0 := Int32 × SX11) (fun st v t q => by obtain ⟨⟨r, u, -, hu, -⟩, -⟩ := q; cases hu) hG hX hP hD hS hA (pmA [] (wX11 cy a o S)) (fun h1 h2 => vx_runV (As := [.int p1, .int p2, .int p3]) (rest := []) ⟨hx, hb, hml, hown, hts⟩ (qX11_mark l hl9 D cy tt a o S p1 p2 p3 (s.heap).size (Sum.inl n) e1) (cwV 3 hts gL_mark_X11_mark rfl rfl rfl (by decide +kernel) ⟨Nat.le_of_ble_eq_true rfl, Nat.le_of_ble_eq_true rfl⟩) ⟨h1, va_recv hK hP (ci := 11) (q0 := 0) rfl rfl, h2⟩ rfl rfl hl.1 rfl (lv_room (Nat.le_of_ble_eq_true rfl)) dL_mark_4 ⟨Nat.le_of_ble_eq_true rfl, Nat.le_of_ble_eq_true rfl⟩) (fun ce q9 H locs hP hS hce hcv hcl => ?_)
    match i, e2 with
    | 0, e2 =>
      cases Option.some.inj e2
      refine vx_catch hown [] ⟨0, 7, 8, 23⟩ [⟨0, 7, 14, 15⟩, ⟨0, 7, 20, 17⟩] (htab.trans rfl) (fun z hz => nomatch hz) rfl (by decide) (hts (.classLink RL 23 "java/lang/IndexOutOfBoundsException") (by decide +kernel)) (cast_w hG).2.2 hce hcv hcl ?_
      refine lv_astore (lv' := [(4, .ref q9), (0, .ref (a o)), (1, .int p1), (2, .int p2), (3, .int p3)]) hx hb dL_mark_8 hl (by decide) rfl (fun ls hl => ?_)
      refine lv_sipush (v := (-903 : Int32)) hx hb dL_mark_10 (by decide) ?_
      refine vx_ret (W.widen (k := 1) (n := 6) (by decide) (by decide) ?_)
      exact W.iret (v := (-903 : Int32)) hx hb hr (fun t ht hW => ⟨⟨(-903 : Int32), S, rfl, rfl, by rw [ht]; exact hP, hD⟩, hS.F ht⟩) hS.2.2 dL_mark_13
    | 1, e2 =>
      cases Option.some.inj e2
      refine vx_catch hown [⟨0, 7, 8, 23⟩] ⟨0, 7, 14, 15⟩ [⟨0, 7, 20, 17⟩] (htab.trans rfl) (fun z hz => by cases List.mem_singleton.mp hz; exact Or.inr ⟨by decide, "java/lang/IndexOutOfBoundsException", hts (.classLink RL 23 "java/lang/IndexOutOfBoundsException") (by decide +kernel), hN.1⟩) rfl (by decide) (hts (.classLink RL 15 "java/lang/IllegalArgumentException") (by decide +kernel)) (cast_w hG).1 hce hcv hcl ?_
      refine lv_astore (lv' := [(4, .ref q9), (0, .ref (a o)), (1, .int p1), (2, .int p2), (3, .int p3)]) hx hb dL_mark_14 hl (by decide) rfl (fun ls hl => ?_)
      refine lv_sipush (v := (-901 : Int32)) hx hb dL_mark_16 (by decide) ?_
      refine vx_ret (W.widen (k := 1) (n := 6) (by decide) (by decide) ?_)
      exact W.iret (v := (-901 : Int32)) hx hb hr (fun t ht hW => ⟨⟨(-901 : Int32), S, rfl, rfl, by rw [ht]; exact hP, hD⟩, hS.F ht⟩) hS.2.2 dL_mark_19
    | 2, e2 =>
      cases Option.some.inj e2
      refine vx_catch hown [⟨0, 7, 8, 23⟩, ⟨0, 7, 14, 15⟩] ⟨0, 7, 20, 17⟩ [] (htab.trans rfl) (fun z hz => by
        rcases List.mem_cons.mp hz with hz | hz
        · cases hz; exact Or.inr ⟨by decide, "java/lang/IndexOutOfBoundsException", hts (.classLink RL 23 "java/lang/IndexOutOfBoundsException") (by decide +kernel), hN.2.1⟩
        · cases List.mem_singleton.mp hz; exact Or.inr ⟨by decide, "java/lang/IllegalArgumentException", hts (.classLink RL 15 "java/lang/IllegalArgumentException") (by decide +kernel), hN.2.2⟩) rfl (by decide) (hts (.classLink RL 17 "java/lang/IllegalStateException") (by decide +kernel)) (cast_w hG).2.1 hce hcv hcl ?_
      refine lv_astore (lv' := [(4, .ref q9), (0, .ref (a o)), (1, .int p1), (2, .int p2), (3, .int p3)]) hx hb dL_mark_20 hl (by decide) rfl (fun ls hl => ?_)
      refine lv_sipush (v := (-902 : Int32)) hx hb dL_mark_22 (by decide) ?_
      refine vx_ret (W.widen (k := 1) (n := 6) (by decide) (by decide) ?_)
      exact W.iret (v := (-902 : Int32)) hx hb hr (fun t ht hW => ⟨⟨(-902 : Int32), S, rfl, rfl, by rw [ht]; exact hP, hD⟩, hS.F ht⟩) hS.2.2 dL_mark_25
    | i + 3, e2 => cases e2
theorem qL_abstain (l : Launch) (hl9 : l.stackTraces = false) (D : va_G) (cy : Nat → ClassId) (tt : Nat → Nat) (a : Nat → Nat) (o : Nat) (S : SX11) (p1 : Int32) (p2 : Int32) (sz : Nat) (res : Int32 × SX11) (h : DL_abstain S p1 p2 = some res) : vx_Met l yL_abstain wsL_abstain ({ frames := 10, cells := 1, slots := 6, locals := 251 } : Room) (lP D cy tt sz [.ref (a o), .int p1, .int p2] (wX11 cy a o S)) (va_Qi (fun r (u : SX11) => (r, u) = res) (fun u t => mB D sz (wX11 cy a o S) (wX11 cy a o u) t) (va_A (wX11 cy a o S) sz)) (fun _ _ _ => False) 1 6 (va_A (wX11 cy a o S) sz) := by
  refine vx_ofWH (cc := cL_abstain) (maxL := 4) (ret := (some .int)) (by decide) rfl ?_
  intro p e s m args below meth c s₁ B hml hv
  obtain ⟨rfl, hsz, hP, hG, hD0, hX, hN⟩ := hv
  have hx := B.exec
  have hb := B.bytes
  have hr := B.returns
  have hts := atoms_spec (ws := wsL_abstain) B.pre
  have hown : s.vm.findClass RL = some m.cls := findClass_of_methodNamed B.named
  have hlocks := B.notSynchronized
  have htab := vx_table (x := yL_abstain) B (hts _ List.mem_cons_self)
  have hK := hG.1
  subst hsz
  have hD := hD0.self (sz := s.heap.size)
  have hA : ∀ q : Nat, s.heap.size ≤ q → (va_A (wX11 cy a o S) s.heap.size) q := fun q h => Or.inr h
  have hS : va_S (va_A (wX11 cy a o S) s.heap.size) s.heap s.heap [] := va_S.rf
  have hl := lv_entry ([.ref (a o), .int p1, .int p2]) (n := 4) (Nat.le_of_ble_eq_true rfl)
  rw [lg_entry_eq]
  generalize (lg_sl ([.ref (a o), .int p1, .int p2]) ++ List.replicate (4 - (lg_sl ([.ref (a o), .int p1, .int p2])).length) Slot.unset).toArray = ls at hl ⊢
  have hl : lv_has ls 4 [(0, .ref (a o)), (1, .int p1), (2, .int p2)] := hl
  rw [DL_abstain] at h
  refine lv_aload_n hx hb dL_abstain_0 rfl (lv_at hl 0 rfl) ?_
  refine lv_iload_n hx hb dL_abstain_1 rfl (lv_at hl 1 rfl) ?_
  refine lv_iload_n hx hb dL_abstain_2 rfl (lv_at hl 2 rfl) ?_
  rcases wxW_o h with ⟨v, T, e1, rfl⟩ | ⟨i, n, e1, e2, rfl⟩
  · refine tcNm (x0 := (v, T)) (wf := fun T => wX11 cy a o T) (ws' := wX11 cy a o T) hG hX hP hD hS hA (pmA [] (wX11 cy a o S)) (pmA [] (wX11 cy a o T)) (fun h1 h2 => vx_runV (As := [.int p1, .int p2]) (rest := []) ⟨hx, hb, hml, hown, hts⟩ (qX11_abstain l hl9 D cy tt a o S p1 p2 (s.heap).size (Sum.inr (v, T)) e1) (cwV 2 hts gL_abstain_X11_abstain rfl rfl rfl (by decide +kernel) ⟨Nat.le_of_ble_eq_true rfl, Nat.le_of_ble_eq_true rfl⟩) ⟨h1, va_recv hK hP (ci := 11) (q0 := 0) rfl rfl, h2⟩ rfl rfl hl.1 rfl (lv_room (Nat.le_of_ble_eq_true rfl)) dL_abstain_3 ⟨Nat.le_of_ble_eq_true rfl, Nat.le_of_ble_eq_true rfl⟩) (c2 := 0) (s2 := 0) rfl rfl (fun H locs hP hD hS => ?_)
    refine vx_ret (W.widen (k := 1) (n := 6) (by decide) (by decide) ?_)
    exact W.iret (v := v) hx hb hr (fun t ht hW => ⟨⟨v, T, rfl, rfl, by rw [ht]; exact hP, hD⟩, hS.F ht⟩) hS.2.2 dL_abstain_6
  · refine tcT (R0 := Int32 × SX11) (fun st v t q => by obtain ⟨⟨r, u, -, hu, -⟩, -⟩ := q; cases hu) hG hX hP hD hS hA (pmA [] (wX11 cy a o S)) (fun h1 h2 => vx_runV (As := [.int p1, .int p2]) (rest := []) ⟨hx, hb, hml, hown, hts⟩ (qX11_abstain l hl9 D cy tt a o S p1 p2 (s.heap).size (Sum.inl n) e1) (cwV 2 hts gL_abstain_X11_abstain rfl rfl rfl (by decide +kernel) ⟨Nat.le_of_ble_eq_true rfl, Nat.le_of_ble_eq_true rfl⟩) ⟨h1, va_recv hK hP (ci := 11) (q0 := 0) rfl rfl, h2⟩ rfl rfl hl.1 rfl (lv_room (Nat.le_of_ble_eq_true rfl)) dL_abstain_3 ⟨Nat.le_of_ble_eq_true rfl, Nat.le_of_ble_eq_true rfl⟩) (fun ce q9 H locs hP hS hce hcv hcl => ?_)
    match i, e2 with
    | 0, e2 =>
      cases Option.some.inj e2
      refine vx_catch hown [] ⟨0, 6, 7, 23⟩ [⟨0, 6, 12, 17⟩] (htab.trans rfl) (fun z hz => nomatch hz) rfl (by decide) (hts (.classLink RL 23 "java/lang/IndexOutOfBoundsException") (by decide +kernel)) (cast_w hG).2.2 hce hcv hcl ?_
      refine lv_astore_n (lv' := [(3, .ref q9), (0, .ref (a o)), (1, .int p1), (2, .int p2)]) hx hb dL_abstain_7 rfl hl (by decide) rfl (fun ls hl => ?_)
      refine lv_sipush (v := (-903 : Int32)) hx hb dL_abstain_8 (by decide) ?_
      refine vx_ret (W.widen (k := 1) (n := 6) (by decide) (by decide) ?_)
      exact W.iret (v := (-903 : Int32)) hx hb hr (fun t ht hW => ⟨⟨(-903 : Int32), S, rfl, rfl, by rw [ht]; exact hP, hD⟩, hS.F ht⟩) hS.2.2 dL_abstain_11
    | 1, e2 =>
      cases Option.some.inj e2
      refine vx_catch hown [⟨0, 6, 7, 23⟩] ⟨0, 6, 12, 17⟩ [] (htab.trans rfl) (fun z hz => by cases List.mem_singleton.mp hz; exact Or.inr ⟨by decide, "java/lang/IndexOutOfBoundsException", hts (.classLink RL 23 "java/lang/IndexOutOfBoundsException") (by decide +kernel), hN.2.1⟩) rfl (by decide) (hts (.classLink RL 17 "java/lang/IllegalStateException") (by decide +kernel)) (cast_w hG).2.1 hce hcv hcl ?_
      refine lv_astore_n (lv' := [(3, .ref q9), (0, .ref (a o)), (1, .int p1), (2, .int p2)]) hx hb dL_abstain_12 rfl hl (by decide) rfl (fun ls hl => ?_)
      refine lv_sipush (v := (-902 : Int32)) hx hb dL_abstain_13 (by decide) ?_
      refine vx_ret (W.widen (k := 1) (n := 6) (by decide) (by decide) ?_)
      exact W.iret (v := (-902 : Int32)) hx hb hr (fun t ht hW => ⟨⟨(-902 : Int32), S, rfl, rfl, by rw [ht]; exact hP, hD⟩, hS.F ht⟩) hS.2.2 dL_abstain_16
    | i + 2, e2 => cases e2
theorem qL_close (l : Launch) (hl9 : l.stackTraces = false) (D : va_G) (cy : Nat → ClassId) (tt : Nat → Nat) (a : Nat → Nat) (o : Nat) (S : SX11) (sz : Nat) (res : Int32 × SX11) (h : DL_close S = some res) : vx_Met l yL_close wsL_close ({ frames := 8, cells := 1, slots := 6, locals := 227 } : Room) (lP D cy tt sz [.ref (a o)] (wX11 cy a o S)) (va_Qi (fun r (u : SX11) => (r, u) = res) (fun u t => mB D sz (wX11 cy a o S) (wX11 cy a o u) t) (va_A (wX11 cy a o S) sz)) (fun _ _ _ => False) 1 6 (va_A (wX11 cy a o S) sz) := by
  refine vx_ofWH (cc := cL_close) (maxL := 2) (ret := (some .int)) (by decide) rfl ?_
  intro p e s m args below meth c s₁ B hml hv
  obtain ⟨rfl, hsz, hP, hG, hD0, hX, hN⟩ := hv
  have hx := B.exec
  have hb := B.bytes
  have hr := B.returns
  have hts := atoms_spec (ws := wsL_close) B.pre
  have hown : s.vm.findClass RL = some m.cls := findClass_of_methodNamed B.named
  have hlocks := B.notSynchronized
  have htab := vx_table (x := yL_close) B (hts _ List.mem_cons_self)
  have hK := hG.1
  subst hsz
  have hD := hD0.self (sz := s.heap.size)
  have hA : ∀ q : Nat, s.heap.size ≤ q → (va_A (wX11 cy a o S) s.heap.size) q := fun q h => Or.inr h
  have hS : va_S (va_A (wX11 cy a o S) s.heap.size) s.heap s.heap [] := va_S.rf
  have hl := lv_entry ([.ref (a o)]) (n := 2) (Nat.le_of_ble_eq_true rfl)
  rw [lg_entry_eq]
  generalize (lg_sl ([.ref (a o)]) ++ List.replicate (2 - (lg_sl ([.ref (a o)])).length) Slot.unset).toArray = ls at hl ⊢
  have hl : lv_has ls 2 [(0, .ref (a o))] := hl
  rw [DL_close] at h
  refine lv_aload_n hx hb dL_close_0 rfl (lv_at hl 0 rfl) ?_
  rcases wxW_o h with ⟨v, T, e1, rfl⟩ | ⟨i, n, e1, e2, rfl⟩
  · refine tcNm (x0 := (v, T)) (wf := fun T => wX11 cy a o T) (ws' := wX11 cy a o T) hG hX hP hD hS hA (pmA [] (wX11 cy a o S)) (pmA [] (wX11 cy a o T)) (fun h1 h2 => vx_runV (As := []) (rest := []) ⟨hx, hb, hml, hown, hts⟩ (qX11_close l hl9 D cy tt a o S  (s.heap).size (Sum.inr (v, T)) e1) (cwV 0 hts gL_close_X11_close rfl rfl rfl (by decide +kernel) ⟨Nat.le_of_ble_eq_true rfl, Nat.le_of_ble_eq_true rfl⟩) ⟨h1, va_recv hK hP (ci := 11) (q0 := 0) rfl rfl, h2⟩ rfl rfl hl.1 rfl (lv_room (Nat.le_of_ble_eq_true rfl)) dL_close_1 ⟨Nat.le_of_ble_eq_true rfl, Nat.le_of_ble_eq_true rfl⟩) (c2 := 0) (s2 := 0) rfl rfl (fun H locs hP hD hS => ?_)
    refine vx_ret (W.widen (k := 1) (n := 6) (by decide) (by decide) ?_)
    exact W.iret (v := v) hx hb hr (fun t ht hW => ⟨⟨v, T, rfl, rfl, by rw [ht]; exact hP, hD⟩, hS.F ht⟩) hS.2.2 dL_close_4
  · refine tcT (R0 := Int32 × SX11) (fun st v t q => by obtain ⟨⟨r, u, -, hu, -⟩, -⟩ := q; cases hu) hG hX hP hD hS hA (pmA [] (wX11 cy a o S)) (fun h1 h2 => vx_runV (As := []) (rest := []) ⟨hx, hb, hml, hown, hts⟩ (qX11_close l hl9 D cy tt a o S  (s.heap).size (Sum.inl n) e1) (cwV 0 hts gL_close_X11_close rfl rfl rfl (by decide +kernel) ⟨Nat.le_of_ble_eq_true rfl, Nat.le_of_ble_eq_true rfl⟩) ⟨h1, va_recv hK hP (ci := 11) (q0 := 0) rfl rfl, h2⟩ rfl rfl hl.1 rfl (lv_room (Nat.le_of_ble_eq_true rfl)) dL_close_1 ⟨Nat.le_of_ble_eq_true rfl, Nat.le_of_ble_eq_true rfl⟩) (fun ce q9 H locs hP hS hce hcv hcl => ?_)
    match i, e2 with
    | 0, e2 =>
      cases Option.some.inj e2
      refine vx_catch hown [] ⟨0, 4, 5, 17⟩ [] (htab.trans rfl) (fun z hz => nomatch hz) rfl (by decide) (hts (.classLink RL 17 "java/lang/IllegalStateException") (by decide +kernel)) (cast_w hG).2.1 hce hcv hcl ?_
      refine lv_astore_n (lv' := [(1, .ref q9), (0, .ref (a o))]) hx hb dL_close_5 rfl hl (by decide) rfl (fun ls hl => ?_)
      refine lv_sipush (v := (-902 : Int32)) hx hb dL_close_6 (by decide) ?_
      refine vx_ret (W.widen (k := 1) (n := 6) (by decide) (by decide) ?_)
      exact W.iret (v := (-902 : Int32)) hx hb hr (fun t ht hW => ⟨⟨(-902 : Int32), S, rfl, rfl, by rw [ht]; exact hP, hD⟩, hS.F ht⟩) hS.2.2 dL_close_9
    | i + 1, e2 => cases e2
theorem qL_withdraw (l : Launch) (hl9 : l.stackTraces = false) (D : va_G) (cy : Nat → ClassId) (tt : Nat → Nat) (a : Nat → Nat) (o : Nat) (S : SX11) (p1 : Int32) (sz : Nat) (res : Int32 × SX11) (h : DL_withdraw S p1 = some res) : vx_Met l yL_withdraw wsL_withdraw ({ frames := 9, cells := 1, slots := 6, locals := 227 } : Room) (lP D cy tt sz [.ref (a o), .int p1] (wX11 cy a o S)) (va_Qi (fun r (u : SX11) => (r, u) = res) (fun u t => mB D sz (wX11 cy a o S) (wX11 cy a o u) t) (va_A (wX11 cy a o S) sz)) (fun _ _ _ => False) 1 6 (va_A (wX11 cy a o S) sz) := by
  refine vx_ofWH (cc := cL_withdraw) (maxL := 3) (ret := (some .int)) (by decide) rfl ?_
  intro p e s m args below meth c s₁ B hml hv
  obtain ⟨rfl, hsz, hP, hG, hD0, hX, hN⟩ := hv
  have hx := B.exec
  have hb := B.bytes
  have hr := B.returns
  have hts := atoms_spec (ws := wsL_withdraw) B.pre
  have hown : s.vm.findClass RL = some m.cls := findClass_of_methodNamed B.named
  have hlocks := B.notSynchronized
  have htab := vx_table (x := yL_withdraw) B (hts _ List.mem_cons_self)
  have hK := hG.1
  subst hsz
  have hD := hD0.self (sz := s.heap.size)
  have hA : ∀ q : Nat, s.heap.size ≤ q → (va_A (wX11 cy a o S) s.heap.size) q := fun q h => Or.inr h
  have hS : va_S (va_A (wX11 cy a o S) s.heap.size) s.heap s.heap [] := va_S.rf
  have hl := lv_entry ([.ref (a o), .int p1]) (n := 3) (Nat.le_of_ble_eq_true rfl)
  rw [lg_entry_eq]
  generalize (lg_sl ([.ref (a o), .int p1]) ++ List.replicate (3 - (lg_sl ([.ref (a o), .int p1])).length) Slot.unset).toArray = ls at hl ⊢
  have hl : lv_has ls 3 [(0, .ref (a o)), (1, .int p1)] := hl
  rw [DL_withdraw] at h
  refine lv_aload_n hx hb dL_withdraw_0 rfl (lv_at hl 0 rfl) ?_
  refine lv_iload_n hx hb dL_withdraw_1 rfl (lv_at hl 1 rfl) ?_
  rcases wxW_o h with ⟨v, T, e1, rfl⟩ | ⟨i, n, e1, e2, rfl⟩
  · refine tcNm (x0 := (v, T)) (wf := fun T => wX11 cy a o T) (ws' := wX11 cy a o T) hG hX hP hD hS hA (pmA [] (wX11 cy a o S)) (pmA [] (wX11 cy a o T)) (fun h1 h2 => vx_runV (As := [.int p1]) (rest := []) ⟨hx, hb, hml, hown, hts⟩ (qX11_withdraw l hl9 D cy tt a o S p1 (s.heap).size (Sum.inr (v, T)) e1) (cwV 1 hts gL_withdraw_X11_withdraw rfl rfl rfl (by decide +kernel) ⟨Nat.le_of_ble_eq_true rfl, Nat.le_of_ble_eq_true rfl⟩) ⟨h1, va_recv hK hP (ci := 11) (q0 := 0) rfl rfl, h2⟩ rfl rfl hl.1 rfl (lv_room (Nat.le_of_ble_eq_true rfl)) dL_withdraw_2 ⟨Nat.le_of_ble_eq_true rfl, Nat.le_of_ble_eq_true rfl⟩) (c2 := 0) (s2 := 0) rfl rfl (fun H locs hP hD hS => ?_)
    refine vx_ret (W.widen (k := 1) (n := 6) (by decide) (by decide) ?_)
    exact W.iret (v := v) hx hb hr (fun t ht hW => ⟨⟨v, T, rfl, rfl, by rw [ht]; exact hP, hD⟩, hS.F ht⟩) hS.2.2 dL_withdraw_5
  · refine tcT (R0 := Int32 × SX11) (fun st v t q => by obtain ⟨⟨r, u, -, hu, -⟩, -⟩ := q; cases hu) hG hX hP hD hS hA (pmA [] (wX11 cy a o S)) (fun h1 h2 => vx_runV (As := [.int p1]) (rest := []) ⟨hx, hb, hml, hown, hts⟩ (qX11_withdraw l hl9 D cy tt a o S p1 (s.heap).size (Sum.inl n) e1) (cwV 1 hts gL_withdraw_X11_withdraw rfl rfl rfl (by decide +kernel) ⟨Nat.le_of_ble_eq_true rfl, Nat.le_of_ble_eq_true rfl⟩) ⟨h1, va_recv hK hP (ci := 11) (q0 := 0) rfl rfl, h2⟩ rfl rfl hl.1 rfl (lv_room (Nat.le_of_ble_eq_true rfl)) dL_withdraw_2 ⟨Nat.le_of_ble_eq_true rfl, Nat.le_of_ble_eq_true rfl⟩) (fun ce q9 H locs hP hS hce hcv hcl => ?_)
    match i, e2 with
    | 0, e2 =>
      cases Option.some.inj e2
      refine vx_catch hown [] ⟨0, 5, 6, 23⟩ [⟨0, 5, 11, 17⟩] (htab.trans rfl) (fun z hz => nomatch hz) rfl (by decide) (hts (.classLink RL 23 "java/lang/IndexOutOfBoundsException") (by decide +kernel)) (cast_w hG).2.2 hce hcv hcl ?_
      refine lv_astore_n (lv' := [(2, .ref q9), (0, .ref (a o)), (1, .int p1)]) hx hb dL_withdraw_6 rfl hl (by decide) rfl (fun ls hl => ?_)
      refine lv_sipush (v := (-903 : Int32)) hx hb dL_withdraw_7 (by decide) ?_
      refine vx_ret (W.widen (k := 1) (n := 6) (by decide) (by decide) ?_)
      exact W.iret (v := (-903 : Int32)) hx hb hr (fun t ht hW => ⟨⟨(-903 : Int32), S, rfl, rfl, by rw [ht]; exact hP, hD⟩, hS.F ht⟩) hS.2.2 dL_withdraw_10
    | 1, e2 =>
      cases Option.some.inj e2
      refine vx_catch hown [⟨0, 5, 6, 23⟩] ⟨0, 5, 11, 17⟩ [] (htab.trans rfl) (fun z hz => by cases List.mem_singleton.mp hz; exact Or.inr ⟨by decide, "java/lang/IndexOutOfBoundsException", hts (.classLink RL 23 "java/lang/IndexOutOfBoundsException") (by decide +kernel), hN.2.1⟩) rfl (by decide) (hts (.classLink RL 17 "java/lang/IllegalStateException") (by decide +kernel)) (cast_w hG).2.1 hce hcv hcl ?_
      refine lv_astore_n (lv' := [(2, .ref q9), (0, .ref (a o)), (1, .int p1)]) hx hb dL_withdraw_11 rfl hl (by decide) rfl (fun ls hl => ?_)
      refine lv_sipush (v := (-902 : Int32)) hx hb dL_withdraw_12 (by decide) ?_
      refine vx_ret (W.widen (k := 1) (n := 6) (by decide) (by decide) ?_)
      exact W.iret (v := (-902 : Int32)) hx hb hr (fun t ht hW => ⟨⟨(-902 : Int32), S, rfl, rfl, by rw [ht]; exact hP, hD⟩, hS.F ht⟩) hS.2.2 dL_withdraw_15
    | i + 2, e2 => cases e2
theorem qL_type (l : Launch) (hl9 : l.stackTraces = false) (D : va_G) (cy : Nat → ClassId) (tt : Nat → Nat) (a : Nat → Nat) (o : Nat) (S : SX11) (p1 : Int32) (sz : Nat) (res : Int32 × SX11) (h : DL_type S p1 = some res) : vx_Met l yL_type wsL_type ({ frames := 8, cells := 1, slots := 6, locals := 141 } : Room) (lP D cy tt sz [.ref (a o), .int p1] (wX11 cy a o S)) (va_Qi (fun r (u : SX11) => (r, u) = res) (fun u t => mB D sz (wX11 cy a o S) (wX11 cy a o u) t) (va_A (wX11 cy a o S) sz)) (fun _ _ _ => False) 1 6 (va_A (wX11 cy a o S) sz) := by
  refine vx_ofWH (cc := cL_type) (maxL := 3) (ret := (some .int)) (by decide) rfl ?_
  intro p e s m args below meth c s₁ B hml hv
  obtain ⟨rfl, hsz, hP, hG, hD0, hX, hN⟩ := hv
  have hx := B.exec
  have hb := B.bytes
  have hr := B.returns
  have hts := atoms_spec (ws := wsL_type) B.pre
  have hown : s.vm.findClass RL = some m.cls := findClass_of_methodNamed B.named
  have hlocks := B.notSynchronized
  have htab := vx_table (x := yL_type) B (hts _ List.mem_cons_self)
  have hK := hG.1
  subst hsz
  have hD := hD0.self (sz := s.heap.size)
  have hA : ∀ q : Nat, s.heap.size ≤ q → (va_A (wX11 cy a o S) s.heap.size) q := fun q h => Or.inr h
  have hS : va_S (va_A (wX11 cy a o S) s.heap.size) s.heap s.heap [] := va_S.rf
  have hl := lv_entry ([.ref (a o), .int p1]) (n := 3) (Nat.le_of_ble_eq_true rfl)
  rw [lg_entry_eq]
  generalize (lg_sl ([.ref (a o), .int p1]) ++ List.replicate (3 - (lg_sl ([.ref (a o), .int p1])).length) Slot.unset).toArray = ls at hl ⊢
  have hl : lv_has ls 3 [(0, .ref (a o)), (1, .int p1)] := hl
  rw [DL_type] at h
  refine lv_aload_n hx hb dL_type_0 rfl (lv_at hl 0 rfl) ?_
  refine lv_iload_n hx hb dL_type_1 rfl (lv_at hl 1 rfl) ?_
  rcases wxW_o h with ⟨v, T, e1, rfl⟩ | ⟨i, n, e1, e2, rfl⟩
  · refine tcNm (x0 := (v, T)) (wf := fun T => wX11 cy a o T) (ws' := wX11 cy a o T) hG hX hP hD hS hA (pmA [] (wX11 cy a o S)) (pmA [] (wX11 cy a o T)) (fun h1 h2 => vx_runV (As := [.int p1]) (rest := []) ⟨hx, hb, hml, hown, hts⟩ (qX11_type l hl9 D cy tt a o S p1 (s.heap).size (Sum.inr (v, T)) e1) (cwV 1 hts gL_type_X11_type rfl rfl rfl (by decide +kernel) ⟨Nat.le_of_ble_eq_true rfl, Nat.le_of_ble_eq_true rfl⟩) ⟨h1, va_recv hK hP (ci := 11) (q0 := 0) rfl rfl, h2⟩ rfl rfl hl.1 rfl (lv_room (Nat.le_of_ble_eq_true rfl)) dL_type_2 ⟨Nat.le_of_ble_eq_true rfl, Nat.le_of_ble_eq_true rfl⟩) (c2 := 0) (s2 := 0) rfl rfl (fun H locs hP hD hS => ?_)
    refine vx_ret (W.widen (k := 1) (n := 6) (by decide) (by decide) ?_)
    exact W.iret (v := v) hx hb hr (fun t ht hW => ⟨⟨v, T, rfl, rfl, by rw [ht]; exact hP, hD⟩, hS.F ht⟩) hS.2.2 dL_type_5
  · refine tcT (R0 := Int32 × SX11) (fun st v t q => by obtain ⟨⟨r, u, -, hu, -⟩, -⟩ := q; cases hu) hG hX hP hD hS hA (pmA [] (wX11 cy a o S)) (fun h1 h2 => vx_runV (As := [.int p1]) (rest := []) ⟨hx, hb, hml, hown, hts⟩ (qX11_type l hl9 D cy tt a o S p1 (s.heap).size (Sum.inl n) e1) (cwV 1 hts gL_type_X11_type rfl rfl rfl (by decide +kernel) ⟨Nat.le_of_ble_eq_true rfl, Nat.le_of_ble_eq_true rfl⟩) ⟨h1, va_recv hK hP (ci := 11) (q0 := 0) rfl rfl, h2⟩ rfl rfl hl.1 rfl (lv_room (Nat.le_of_ble_eq_true rfl)) dL_type_2 ⟨Nat.le_of_ble_eq_true rfl, Nat.le_of_ble_eq_true rfl⟩) (fun ce q9 H locs hP hS hce hcv hcl => ?_)
    match i, e2 with
    | 0, e2 =>
      cases Option.some.inj e2
      refine vx_catch hown [] ⟨0, 5, 6, 15⟩ [⟨0, 5, 11, 17⟩] (htab.trans rfl) (fun z hz => nomatch hz) rfl (by decide) (hts (.classLink RL 15 "java/lang/IllegalArgumentException") (by decide +kernel)) (cast_w hG).1 hce hcv hcl ?_
      refine lv_astore_n (lv' := [(2, .ref q9), (0, .ref (a o)), (1, .int p1)]) hx hb dL_type_6 rfl hl (by decide) rfl (fun ls hl => ?_)
      refine lv_sipush (v := (-901 : Int32)) hx hb dL_type_7 (by decide) ?_
      refine vx_ret (W.widen (k := 1) (n := 6) (by decide) (by decide) ?_)
      exact W.iret (v := (-901 : Int32)) hx hb hr (fun t ht hW => ⟨⟨(-901 : Int32), S, rfl, rfl, by rw [ht]; exact hP, hD⟩, hS.F ht⟩) hS.2.2 dL_type_10
    | 1, e2 =>
      cases Option.some.inj e2
      refine vx_catch hown [⟨0, 5, 6, 15⟩] ⟨0, 5, 11, 17⟩ [] (htab.trans rfl) (fun z hz => by cases List.mem_singleton.mp hz; exact Or.inr ⟨by decide, "java/lang/IllegalArgumentException", hts (.classLink RL 15 "java/lang/IllegalArgumentException") (by decide +kernel), hN.2.2⟩) rfl (by decide) (hts (.classLink RL 17 "java/lang/IllegalStateException") (by decide +kernel)) (cast_w hG).2.1 hce hcv hcl ?_
      refine lv_astore_n (lv' := [(2, .ref q9), (0, .ref (a o)), (1, .int p1)]) hx hb dL_type_11 rfl hl (by decide) rfl (fun ls hl => ?_)
      refine lv_sipush (v := (-902 : Int32)) hx hb dL_type_12 (by decide) ?_
      refine vx_ret (W.widen (k := 1) (n := 6) (by decide) (by decide) ?_)
      exact W.iret (v := (-902 : Int32)) hx hb hr (fun t ht hW => ⟨⟨(-902 : Int32), S, rfl, rfl, by rw [ht]; exact hP, hD⟩, hS.F ht⟩) hS.2.2 dL_type_15
    | i + 2, e2 => cases e2
theorem qL_undo (l : Launch) (hl9 : l.stackTraces = false) (D : va_G) (cy : Nat → ClassId) (tt : Nat → Nat) (a : Nat → Nat) (o : Nat) (S : SX11) (sz : Nat) (res : Int32 × SX11) (h : DL_undo S = some res) : vx_Met l yL_undo wsL_undo ({ frames := 8, cells := 1, slots := 6, locals := 226 } : Room) (lP D cy tt sz [.ref (a o)] (wX11 cy a o S)) (va_Qi (fun r (u : SX11) => (r, u) = res) (fun u t => mB D sz (wX11 cy a o S) (wX11 cy a o u) t) (va_A (wX11 cy a o S) sz)) (fun _ _ _ => False) 1 6 (va_A (wX11 cy a o S) sz) := by
  refine vx_ofWH (cc := cL_undo) (maxL := 2) (ret := (some .int)) (by decide) rfl ?_
  intro p e s m args below meth c s₁ B hml hv
  obtain ⟨rfl, hsz, hP, hG, hD0, hX, hN⟩ := hv
  have hx := B.exec
  have hb := B.bytes
  have hr := B.returns
  have hts := atoms_spec (ws := wsL_undo) B.pre
  have hown : s.vm.findClass RL = some m.cls := findClass_of_methodNamed B.named
  have hlocks := B.notSynchronized
  have htab := vx_table (x := yL_undo) B (hts _ List.mem_cons_self)
  have hK := hG.1
  subst hsz
  have hD := hD0.self (sz := s.heap.size)
  have hA : ∀ q : Nat, s.heap.size ≤ q → (va_A (wX11 cy a o S) s.heap.size) q := fun q h => Or.inr h
  have hS : va_S (va_A (wX11 cy a o S) s.heap.size) s.heap s.heap [] := va_S.rf
  have hl := lv_entry ([.ref (a o)]) (n := 2) (Nat.le_of_ble_eq_true rfl)
  rw [lg_entry_eq]
  generalize (lg_sl ([.ref (a o)]) ++ List.replicate (2 - (lg_sl ([.ref (a o)])).length) Slot.unset).toArray = ls at hl ⊢
  have hl : lv_has ls 2 [(0, .ref (a o))] := hl
  rw [DL_undo] at h
  refine lv_aload_n hx hb dL_undo_0 rfl (lv_at hl 0 rfl) ?_
  rcases wxW_o h with ⟨v, T, e1, rfl⟩ | ⟨i, n, e1, e2, rfl⟩
  · refine tcNm (x0 := (v, T)) (wf := fun T => wX11 cy a o T) (ws' := wX11 cy a o T) hG hX hP hD hS hA (pmA [] (wX11 cy a o S)) (pmA [] (wX11 cy a o T)) (fun h1 h2 => vx_runV (As := []) (rest := []) ⟨hx, hb, hml, hown, hts⟩ (qX11_undo l hl9 D cy tt a o S  (s.heap).size (Sum.inr (v, T)) e1) (cwV 0 hts gL_undo_X11_undo rfl rfl rfl (by decide +kernel) ⟨Nat.le_of_ble_eq_true rfl, Nat.le_of_ble_eq_true rfl⟩) ⟨h1, va_recv hK hP (ci := 11) (q0 := 0) rfl rfl, h2⟩ rfl rfl hl.1 rfl (lv_room (Nat.le_of_ble_eq_true rfl)) dL_undo_1 ⟨Nat.le_of_ble_eq_true rfl, Nat.le_of_ble_eq_true rfl⟩) (c2 := 0) (s2 := 0) rfl rfl (fun H locs hP hD hS => ?_)
    refine vx_ret (W.widen (k := 1) (n := 6) (by decide) (by decide) ?_)
    exact W.iret (v := v) hx hb hr (fun t ht hW => ⟨⟨v, T, rfl, rfl, by rw [ht]; exact hP, hD⟩, hS.F ht⟩) hS.2.2 dL_undo_4
  · refine tcT (R0 := Int32 × SX11) (fun st v t q => by obtain ⟨⟨r, u, -, hu, -⟩, -⟩ := q; cases hu) hG hX hP hD hS hA (pmA [] (wX11 cy a o S)) (fun h1 h2 => vx_runV (As := []) (rest := []) ⟨hx, hb, hml, hown, hts⟩ (qX11_undo l hl9 D cy tt a o S  (s.heap).size (Sum.inl n) e1) (cwV 0 hts gL_undo_X11_undo rfl rfl rfl (by decide +kernel) ⟨Nat.le_of_ble_eq_true rfl, Nat.le_of_ble_eq_true rfl⟩) ⟨h1, va_recv hK hP (ci := 11) (q0 := 0) rfl rfl, h2⟩ rfl rfl hl.1 rfl (lv_room (Nat.le_of_ble_eq_true rfl)) dL_undo_1 ⟨Nat.le_of_ble_eq_true rfl, Nat.le_of_ble_eq_true rfl⟩) (fun ce q9 H locs hP hS hce hcv hcl => ?_)
    match i, e2 with
    | 0, e2 =>
      cases Option.some.inj e2
      refine vx_catch hown [] ⟨0, 4, 5, 17⟩ [] (htab.trans rfl) (fun z hz => nomatch hz) rfl (by decide) (hts (.classLink RL 17 "java/lang/IllegalStateException") (by decide +kernel)) (cast_w hG).2.1 hce hcv hcl ?_
      refine lv_astore_n (lv' := [(1, .ref q9), (0, .ref (a o))]) hx hb dL_undo_5 rfl hl (by decide) rfl (fun ls hl => ?_)
      refine lv_sipush (v := (-902 : Int32)) hx hb dL_undo_6 (by decide) ?_
      refine vx_ret (W.widen (k := 1) (n := 6) (by decide) (by decide) ?_)
      exact W.iret (v := (-902 : Int32)) hx hb hr (fun t ht hW => ⟨⟨(-902 : Int32), S, rfl, rfl, by rw [ht]; exact hP, hD⟩, hS.F ht⟩) hS.2.2 dL_undo_9
    | i + 1, e2 => cases e2
theorem qL_wouldBe (l : Launch) (hl9 : l.stackTraces = false) (D : va_G) (cy : Nat → ClassId) (tt : Nat → Nat) (a : Nat → Nat) (o : Nat) (S : SX11) (p1 : Int32) (sz : Nat) (res : Int32 × SX11) (h : DL_wouldBe S p1 = some res) : vx_Met l yL_wouldBe wsL_wouldBe ({ frames := 8, cells := 1, slots := 6, locals := 148 } : Room) (lP D cy tt sz [.ref (a o), .int p1] (wX11 cy a o S)) (va_Qi (fun r (u : SX11) => (r, u) = res) (fun u t => mB D sz (wX11 cy a o S) (wX11 cy a o u) t) (va_A (wX11 cy a o S) sz)) (fun _ _ _ => False) 1 6 (va_A (wX11 cy a o S) sz) := by
  refine vx_ofWH (cc := cL_wouldBe) (maxL := 3) (ret := (some .int)) (by decide) rfl ?_
  intro p e s m args below meth c s₁ B hml hv
  obtain ⟨rfl, hsz, hP, hG, hD0, hX, hN⟩ := hv
  have hx := B.exec
  have hb := B.bytes
  have hr := B.returns
  have hts := atoms_spec (ws := wsL_wouldBe) B.pre
  have hown : s.vm.findClass RL = some m.cls := findClass_of_methodNamed B.named
  have hlocks := B.notSynchronized
  have htab := vx_table (x := yL_wouldBe) B (hts _ List.mem_cons_self)
  have hK := hG.1
  subst hsz
  have hD := hD0.self (sz := s.heap.size)
  have hA : ∀ q : Nat, s.heap.size ≤ q → (va_A (wX11 cy a o S) s.heap.size) q := fun q h => Or.inr h
  have hS : va_S (va_A (wX11 cy a o S) s.heap.size) s.heap s.heap [] := va_S.rf
  have hl := lv_entry ([.ref (a o), .int p1]) (n := 3) (Nat.le_of_ble_eq_true rfl)
  rw [lg_entry_eq]
  generalize (lg_sl ([.ref (a o), .int p1]) ++ List.replicate (3 - (lg_sl ([.ref (a o), .int p1])).length) Slot.unset).toArray = ls at hl ⊢
  have hl : lv_has ls 3 [(0, .ref (a o)), (1, .int p1)] := hl
  rw [DL_wouldBe] at h
  refine lv_aload_n hx hb dL_wouldBe_0 rfl (lv_at hl 0 rfl) ?_
  refine lv_iload_n hx hb dL_wouldBe_1 rfl (lv_at hl 1 rfl) ?_
  rcases wxN_o h with ⟨v, T, e1, rfl⟩ | ⟨i, n, e1, e2, rfl⟩
  · refine tcNm (x0 := (v, T)) (wf := fun T => wX11n cy a o T) (ws' := wX11 cy a o (uX11_now S T)) hG hX hP hD hS hA (pmN1 cy a o S) (pmN1 cy a o (uX11_now S T)) (fun h1 h2 => vx_runV (As := [.int p1]) (rest := []) ⟨hx, hb, hml, hown, hts⟩ (qX11_wouldBe l hl9 D cy tt a o (gX11_now S) p1 (s.heap).size (Sum.inr (v, T)) e1) (cwV 1 hts gL_wouldBe_X11_wouldBe rfl rfl rfl (by decide +kernel) ⟨Nat.le_of_ble_eq_true rfl, Nat.le_of_ble_eq_true rfl⟩) ⟨h1, va_recv hK hP (ci := 11) (q0 := 0) rfl rfl, h2⟩ rfl rfl hl.1 rfl (lv_room (Nat.le_of_ble_eq_true rfl)) dL_wouldBe_2 ⟨Nat.le_of_ble_eq_true rfl, Nat.le_of_ble_eq_true rfl⟩) (c2 := 0) (s2 := 0) rfl rfl (fun H locs hP hD hS => ?_)
    refine vx_ret (W.widen (k := 1) (n := 6) (by decide) (by decide) ?_)
    exact W.iret (v := v) hx hb hr (fun t ht hW => ⟨⟨v, uX11_now S T, rfl, rfl, by rw [ht]; exact hP, hD⟩, hS.F ht⟩) hS.2.2 dL_wouldBe_5
  · refine tcT (R0 := Int32 × SX11n) (fun st v t q => by obtain ⟨⟨r, u, -, hu, -⟩, -⟩ := q; cases hu) hG hX hP hD hS hA (pmN1 cy a o S) (fun h1 h2 => vx_runV (As := [.int p1]) (rest := []) ⟨hx, hb, hml, hown, hts⟩ (qX11_wouldBe l hl9 D cy tt a o (gX11_now S) p1 (s.heap).size (Sum.inl n) e1) (cwV 1 hts gL_wouldBe_X11_wouldBe rfl rfl rfl (by decide +kernel) ⟨Nat.le_of_ble_eq_true rfl, Nat.le_of_ble_eq_true rfl⟩) ⟨h1, va_recv hK hP (ci := 11) (q0 := 0) rfl rfl, h2⟩ rfl rfl hl.1 rfl (lv_room (Nat.le_of_ble_eq_true rfl)) dL_wouldBe_2 ⟨Nat.le_of_ble_eq_true rfl, Nat.le_of_ble_eq_true rfl⟩) (fun ce q9 H locs hP hS hce hcv hcl => ?_)
    match i, e2 with
    | 0, e2 =>
      cases Option.some.inj e2
      refine vx_catch hown [] ⟨0, 5, 6, 15⟩ [] (htab.trans rfl) (fun z hz => nomatch hz) rfl (by decide) (hts (.classLink RL 15 "java/lang/IllegalArgumentException") (by decide +kernel)) (cast_w hG).1 hce hcv hcl ?_
      refine lv_astore_n (lv' := [(2, .ref q9), (0, .ref (a o)), (1, .int p1)]) hx hb dL_wouldBe_6 rfl hl (by decide) rfl (fun ls hl => ?_)
      refine lv_sipush (v := (-901 : Int32)) hx hb dL_wouldBe_7 (by decide) ?_
      refine vx_ret (W.widen (k := 1) (n := 6) (by decide) (by decide) ?_)
      exact W.iret (v := (-901 : Int32)) hx hb hr (fun t ht hW => ⟨⟨(-901 : Int32), S, rfl, rfl, by rw [ht]; exact hP, hD⟩, hS.F ht⟩) hS.2.2 dL_wouldBe_10
    | i + 1, e2 => cases e2
