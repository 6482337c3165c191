theorem qL_work (l : Launch) (hl9 : l.stackTraces = false) (D : va_G) (cy : Nat → ClassId) (tt : Nat → Nat) (a : Nat → Nat) (o b : Nat) (S : SX11) (p1 : Int32) (p2 : Int32) (f : Nat → Int64) (sz : Nat) (res : Int32 × (SX11 × (Nat → Int64))) (h : wrR [1, 2] S f (DX11_work (gX11_now S) p1 p2) res) : vx_Met l yL_work wsL_work ({ frames := 8, cells := 2, slots := 12, locals := 142 } : Room) (lP D cy tt sz [.ref (a o), .int p1, .int p2, .ref b] (oC cy b f :: wX11 cy a o S)) (va_Qi (fun r (u : SX11 × (Nat → Int64)) => (r, u) = res) (fun u t => mB D sz (oC cy b f :: wX11 cy a o S) (oC cy b u.2 :: wX11 cy a o u.1) t) (va_A (oC cy b f :: wX11 cy a o S) sz)) (fun _ _ _ => False) 2 12 (va_A (oC cy b f :: wX11 cy a o S) sz) := by
  refine vx_ofWH (cc := cL_work) (maxL := 5) (ret := (some .int)) (by decide) rfl ?_
  intro p e s m args below meth c s₁ B hml hv
  obtain ⟨rfl, hsz, hP, hG, hD0, hX, hN⟩ := hv
  have hx := B.exec
  have hb := B.bytes
  have hr := B.returns
  have hts := atoms_spec (ws := wsL_work) B.pre
  have hown : s.vm.findClass RL = some m.cls := findClass_of_methodNamed B.named
  have hlocks := B.notSynchronized
  have htab := vx_table (x := yL_work) B (hts _ List.mem_cons_self)
  have hK := hG.1
  subst hsz
  have hD := hD0.self (sz := s.heap.size)
  have hA : ∀ q : Nat, s.heap.size ≤ q → (va_A (oC cy b f :: wX11 cy a o S) s.heap.size) q := fun q h => Or.inr h
  have hS : va_S (va_A (oC cy b f :: wX11 cy a o S) s.heap.size) s.heap s.heap [] := va_S.rf
  have hl := lv_entry ([.ref (a o), .int p1, .int p2, .ref b]) (n := 5) (Nat.le_of_ble_eq_true rfl)
  rw [lg_entry_eq]
  generalize (lg_sl ([.ref (a o), .int p1, .int p2, .ref b]) ++ List.replicate (5 - (lg_sl ([.ref (a o), .int p1, .int p2, .ref b])).length) Slot.unset).toArray = ls at hl ⊢
  have hl : lv_has ls 5 [(0, .ref (a o)), (1, .int p1), (2, .int p2), (3, .ref b)] := hl
  refine lv_aload_n hx hb dL_work_0 rfl (lv_at hl 3 rfl) ?_
  refine lv_iconst (v := (0 : Int32)) hx hb dL_work_1 (by decide) ?_
  refine lv_aload_n hx hb dL_work_2 rfl (lv_at hl 0 rfl) ?_
  refine lv_iload_n hx hb dL_work_3 rfl (lv_at hl 1 rfl) ?_
  refine lv_iload_n hx hb dL_work_4 rfl (lv_at hl 2 rfl) ?_
  rcases h with ⟨v, e1, rfl⟩ | ⟨i, n, e1, e2, rfl⟩
  · refine tcNi (x0 := v) hG hX hP hD hS hA (pmR cy a o b S f) (fun h1 h2 => vx_runV (As := [.int p1, .int p2]) (rest := [.int 0, .ref b]) ⟨hx, hb, hml, hown, hts⟩ (qX11_work l hl9 D cy tt a o (gX11_now S) p1 p2 (s.heap).size (Sum.inr v) e1) (cwV 2 hts gL_work_X11_work rfl rfl rfl (by decide +kernel) ⟨Nat.le_of_ble_eq_true rfl, Nat.le_of_ble_eq_true rfl⟩) ⟨h1, va_recv hK hP (ci := 11) (q0 := 1) rfl rfl, h2⟩ rfl rfl hl.1 rfl (lv_room (Nat.le_of_ble_eq_true rfl)) dL_work_5 ⟨Nat.le_of_ble_eq_true rfl, Nat.le_of_ble_eq_true rfl⟩) (c2 := 2) (s2 := 12) rfl rfl (fun H locs hP hS => ?_)
    refine lv_i2l hx hb dL_work_8 rfl ?_
    refine va_last (q0 := 0) (t0 := 3) hx hb hK hP hD hS rfl rfl (show vp_in (0 : Int32) 1 by unfold vp_in; decide) dL_work_9 (fun H locs hP hD hS => ?_)
    refine lv_goto (tgt := 21) hx hb dL_work_10 (by decide) ?_
    refine lv_iconst (v := (0 : Int32)) hx hb dL_work_21 (by decide) ?_
    refine vx_ret (W.widen (k := 2) (n := 12) (by decide) (by decide) ?_)
    exact W.iret (v := (0 : Int32)) hx hb hr (fun t ht hW => ⟨⟨(0 : Int32), (S, vp_updL f 0 v.toInt64), rfl, rfl, by rw [ht]; exact hP, hD⟩, hS.F ht⟩) hS.2.2 dL_work_22
  · refine tcT (R0 := Int32) (fun st v t q => by obtain ⟨⟨r, u, -, hu, -⟩, -⟩ := q; cases hu) hG hX hP hD hS hA (pmR cy a o b S f) (fun h1 h2 => vx_runV (As := [.int p1, .int p2]) (rest := [.int 0, .ref b]) ⟨hx, hb, hml, hown, hts⟩ (qX11_work l hl9 D cy tt a o (gX11_now S) p1 p2 (s.heap).size (Sum.inl n) e1) (cwV 2 hts gL_work_X11_work rfl rfl rfl (by decide +kernel) ⟨Nat.le_of_ble_eq_true rfl, Nat.le_of_ble_eq_true rfl⟩) ⟨h1, va_recv hK hP (ci := 11) (q0 := 1) rfl rfl, h2⟩ rfl rfl hl.1 rfl (lv_room (Nat.le_of_ble_eq_true rfl)) dL_work_5 ⟨Nat.le_of_ble_eq_true rfl, Nat.le_of_ble_eq_true rfl⟩) (fun ce q9 H locs hP hS hce hcv hcl => ?_)
    match i, e2 with
    | 0, e2 =>
      cases Option.some.inj e2
      refine vx_catch hown [] ⟨0, 10, 13, 21⟩ [⟨0, 10, 17, 13⟩] (htab.trans rfl) (fun z hz => nomatch hz) rfl (by decide) (hts (.classLink RL 21 "java/lang/IndexOutOfBoundsException") (by decide +kernel)) (cast_w hG).2.2 hce hcv hcl ?_
      refine lv_astore (lv' := [(4, .ref q9), (0, .ref (a o)), (1, .int p1), (2, .int p2), (3, .ref b)]) hx hb dL_work_13 hl (by decide) rfl (fun ls hl => ?_)
      refine lv_iconst (v := (1 : Int32)) hx hb dL_work_15 (by decide) ?_
      refine vx_ret (W.widen (k := 2) (n := 12) (by decide) (by decide) ?_)
      exact W.iret (v := (1 : Int32)) hx hb hr (fun t ht hW => ⟨⟨(1 : Int32), (S, f), rfl, rfl, by rw [ht]; exact hP, hD⟩, hS.F ht⟩) hS.2.2 dL_work_16
    | 1, e2 =>
      cases Option.some.inj e2
      refine vx_catch hown [⟨0, 10, 13, 21⟩] ⟨0, 10, 17, 13⟩ [] (htab.trans rfl) (fun z hz => by cases List.mem_singleton.mp hz; exact Or.inr ⟨by decide, "java/lang/IndexOutOfBoundsException", hts (.classLink RL 21 "java/lang/IndexOutOfBoundsException") (by decide +kernel), hN.1⟩) rfl (by decide) (hts (.classLink RL 13 "java/lang/IllegalArgumentException") (by decide +kernel)) (cast_w hG).1 hce hcv hcl ?_
      refine lv_astore (lv' := [(4, .ref q9), (0, .ref (a o)), (1, .int p1), (2, .int p2), (3, .ref b)]) hx hb dL_work_17 hl (by decide) rfl (fun ls hl => ?_)
      refine lv_iconst (v := (2 : Int32)) hx hb dL_work_19 (by decide) ?_
      refine vx_ret (W.widen (k := 2) (n := 12) (by decide) (by decide) ?_)
      exact W.iret (v := (2 : Int32)) hx hb hr (fun t ht hW => ⟨⟨(2 : Int32), (S, f), rfl, rfl, by rw [ht]; exact hP, hD⟩, hS.F ht⟩) hS.2.2 dL_work_20
    | i + 2, e2 => cases e2
theorem qL_rule (l : Launch) (hl9 : l.stackTraces = false) (D : va_G) (cy : Nat → ClassId) (tt : Nat → Nat) (a : Nat → Nat) (o b : Nat) (S : SX11) (p1 : Int32) (p2 : Int32) (f : Nat → Int64) (sz : Nat) (res : Int32 × (SX11 × (Nat → Int64))) (h : wrR [1, 2] S f (DX11_rule (gX11_now S) p1 p2) res) : vx_Met l yL_rule wsL_rule ({ frames := 9, cells := 2, slots := 12, locals := 162 } : Room) (lP D cy tt sz [.ref (a o), .int p1, .int p2, .ref b] (oC cy b f :: wX11 cy a o S)) (va_Qi (fun r (u : SX11 × (Nat → Int64)) => (r, u) = res) (fun u t => mB D sz (oC cy b f :: wX11 cy a o S) (oC cy b u.2 :: wX11 cy a o u.1) t) (va_A (oC cy b f :: wX11 cy a o S) sz)) (fun _ _ _ => False) 2 12 (va_A (oC cy b f :: wX11 cy a o S) sz) := by
  refine vx_ofWH (cc := cL_rule) (maxL := 5) (ret := (some .int)) (by decide) rfl ?_
  intro p e s m args below meth c s₁ B hml hv
  obtain ⟨rfl, hsz, hP, hG, hD0, hX, hN⟩ := hv
  have hx := B.exec
  have hb := B.bytes
  have hr := B.returns
  have hts := atoms_spec (ws := wsL_rule) B.pre
  have hown : s.vm.findClass RL = some m.cls := findClass_of_methodNamed B.named
  have hlocks := B.notSynchronized
  have htab := vx_table (x := yL_rule) B (hts _ List.mem_cons_self)
  have hK := hG.1
  subst hsz
  have hD := hD0.self (sz := s.heap.size)
  have hA : ∀ q : Nat, s.heap.size ≤ q → (va_A (oC cy b f :: wX11 cy a o S) s.heap.size) q := fun q h => Or.inr h
  have hS : va_S (va_A (oC cy b f :: wX11 cy a o S) s.heap.size) s.heap s.heap [] := va_S.rf
  have hl := lv_entry ([.ref (a o), .int p1, .int p2, .ref b]) (n := 5) (Nat.le_of_ble_eq_true rfl)
  rw [lg_entry_eq]
  generalize (lg_sl ([.ref (a o), .int p1, .int p2, .ref b]) ++ List.replicate (5 - (lg_sl ([.ref (a o), .int p1, .int p2, .ref b])).length) Slot.unset).toArray = ls at hl ⊢
  have hl : lv_has ls 5 [(0, .ref (a o)), (1, .int p1), (2, .int p2), (3, .ref b)] := hl
  refine lv_aload_n hx hb dL_rule_0 rfl (lv_at hl 3 rfl) ?_
  refine lv_iconst (v := (0 : Int32)) hx hb dL_rule_1 (by decide) ?_
  refine lv_aload_n hx hb dL_rule_2 rfl (lv_at hl 0 rfl) ?_
  refine lv_iload_n hx hb dL_rule_3 rfl (lv_at hl 1 rfl) ?_
  refine lv_iload_n hx hb dL_rule_4 rfl (lv_at hl 2 rfl) ?_
  rcases h with ⟨v, e1, rfl⟩ | ⟨i, n, e1, e2, rfl⟩
  · refine tcNi (x0 := v) hG hX hP hD hS hA (pmR cy a o b S f) (fun h1 h2 => vx_runV (As := [.int p1, .int p2]) (rest := [.int 0, .ref b]) ⟨hx, hb, hml, hown, hts⟩ (qX11_rule l hl9 D cy tt a o (gX11_now S) p1 p2 (s.heap).size (Sum.inr v) e1) (cwV 2 hts gL_rule_X11_rule rfl rfl rfl (by decide +kernel) ⟨Nat.le_of_ble_eq_true rfl, Nat.le_of_ble_eq_true rfl⟩) ⟨h1, va_recv hK hP (ci := 11) (q0 := 1) rfl rfl, h2⟩ rfl rfl hl.1 rfl (lv_room (Nat.le_of_ble_eq_true rfl)) dL_rule_5 ⟨Nat.le_of_ble_eq_true rfl, Nat.le_of_ble_eq_true rfl⟩) (c2 := 2) (s2 := 12) rfl rfl (fun H locs hP hS => ?_)
    refine lv_i2l hx hb dL_rule_8 rfl ?_
    refine va_last (q0 := 0) (t0 := 3) hx hb hK hP hD hS rfl rfl (show vp_in (0 : Int32) 1 by unfold vp_in; decide) dL_rule_9 (fun H locs hP hD hS => ?_)
    refine lv_goto (tgt := 21) hx hb dL_rule_10 (by decide) ?_
    refine lv_iconst (v := (0 : Int32)) hx hb dL_rule_21 (by decide) ?_
    refine vx_ret (W.widen (k := 2) (n := 12) (by decide) (by decide) ?_)
    exact W.iret (v := (0 : Int32)) hx hb hr (fun t ht hW => ⟨⟨(0 : Int32), (S, vp_updL f 0 v.toInt64), rfl, rfl, by rw [ht]; exact hP, hD⟩, hS.F ht⟩) hS.2.2 dL_rule_22
  · refine tcT (R0 := Int32) (fun st v t q => by obtain ⟨⟨r, u, -, hu, -⟩, -⟩ := q; cases hu) hG hX hP hD hS hA (pmR cy a o b S f) (fun h1 h2 => vx_runV (As := [.int p1, .int p2]) (rest := [.int 0, .ref b]) ⟨hx, hb, hml, hown, hts⟩ (qX11_rule l hl9 D cy tt a o (gX11_now S) p1 p2 (s.heap).size (Sum.inl n) e1) (cwV 2 hts gL_rule_X11_rule rfl rfl rfl (by decide +kernel) ⟨Nat.le_of_ble_eq_true rfl, Nat.le_of_ble_eq_true rfl⟩) ⟨h1, va_recv hK hP (ci := 11) (q0 := 1) rfl rfl, h2⟩ rfl rfl hl.1 rfl (lv_room (Nat.le_of_ble_eq_true rfl)) dL_rule_5 ⟨Nat.le_of_ble_eq_true rfl, Nat.le_of_ble_eq_true rfl⟩) (fun ce q9 H locs hP hS hce hcv hcl => ?_)
    match i, e2 with
    | 0, e2 =>
      cases Option.some.inj e2
      refine vx_catch hown [] ⟨0, 10, 13, 21⟩ [⟨0, 10, 17, 13⟩] (htab.trans rfl) (fun z hz => nomatch hz) rfl (by decide) (hts (.classLink RL 21 "java/lang/IndexOutOfBoundsException") (by decide +kernel)) (cast_w hG).2.2 hce hcv hcl ?_
      refine lv_astore (lv' := [(4, .ref q9), (0, .ref (a o)), (1, .int p1), (2, .int p2), (3, .ref b)]) hx hb dL_rule_13 hl (by decide) rfl (fun ls hl => ?_)
      refine lv_iconst (v := (1 : Int32)) hx hb dL_rule_15 (by decide) ?_
      refine vx_ret (W.widen (k := 2) (n := 12) (by decide) (by decide) ?_)
      exact W.iret (v := (1 : Int32)) hx hb hr (fun t ht hW => ⟨⟨(1 : Int32), (S, f), rfl, rfl, by rw [ht]; exact hP, hD⟩, hS.F ht⟩) hS.2.2 dL_rule_16
    | 1, e2 =>
      cases Option.some.inj e2
      refine vx_catch hown [⟨0, 10, 13, 21⟩] ⟨0, 10, 17, 13⟩ [] (htab.trans rfl) (fun z hz => by cases List.mem_singleton.mp hz; exact Or.inr ⟨by decide, "java/lang/IndexOutOfBoundsException", hts (.classLink RL 21 "java/lang/IndexOutOfBoundsException") (by decide +kernel), hN.1⟩) rfl (by decide) (hts (.classLink RL 13 "java/lang/IllegalArgumentException") (by decide +kernel)) (cast_w hG).1 hce hcv hcl ?_
      refine lv_astore (lv' := [(4, .ref q9), (0, .ref (a o)), (1, .int p1), (2, .int p2), (3, .ref b)]) hx hb dL_rule_17 hl (by decide) rfl (fun ls hl => ?_)
      refine lv_iconst (v := (2 : Int32)) hx hb dL_rule_19 (by decide) ?_
      refine vx_ret (W.widen (k := 2) (n := 12) (by decide) (by decide) ?_)
      exact W.iret (v := (2 : Int32)) hx hb hr (fun t ht hW => ⟨⟨(2 : Int32), (S, f), rfl, rfl, by rw [ht]; exact hP, hD⟩, hS.F ht⟩) hS.2.2 dL_rule_20
    | i + 2, e2 => cases e2
theorem qL_program (l : Launch) (hl9 : l.stackTraces = false) (D : va_G) (cy : Nat → ClassId) (tt : Nat → Nat) (a : Nat → Nat) (o b : Nat) (S : SX11) (p1 : Int32) (p2 : Int32) (p3 : Int32) (f : Nat → Int64) (sz : Nat) (res : Int32 × (SX11 × (Nat → Int64))) (h : wrR [1] S f (DX11_program (gX11_now S) p1 p2 p3) res) : vx_Met l yL_program wsL_program ({ frames := 10, cells := 2, slots := 12, locals := 186 } : Room) (lP D cy tt sz [.ref (a o), .int p1, .int p2, .int p3, .ref b] (oC cy b f :: wX11 cy a o S)) (va_Qi (fun r (u : SX11 × (Nat → Int64)) => (r, u) = res) (fun u t => mB D sz (oC cy b f :: wX11 cy a o S) (oC cy b u.2 :: wX11 cy a o u.1) t) (va_A (oC cy b f :: wX11 cy a o S) sz)) (fun _ _ _ => False) 2 12 (va_A (oC cy b f :: wX11 cy a o S) sz) := by
  refine vx_ofWH (cc := cL_program) (maxL := 6) (ret := (some .int)) (by decide) rfl ?_
  intro p e s m args below meth c s₁ B hml hv
  obtain ⟨rfl, hsz, hP, hG, hD0, hX, hN⟩ := hv
  have hx := B.exec
  have hb := B.bytes
  have hr := B.returns
  have hts := atoms_spec (ws := wsL_program) B.pre
  have hown : s.vm.findClass RL = some m.cls := findClass_of_methodNamed B.named
  have hlocks := B.notSynchronized
  have htab := vx_table (x := yL_program) B (hts _ List.mem_cons_self)
  have hK := hG.1
  subst hsz
  have hD := hD0.self (sz := s.heap.size)
  have hA : ∀ q : Nat, s.heap.size ≤ q → (va_A (oC cy b f :: wX11 cy a o S) s.heap.size) q := fun q h => Or.inr h
  have hS : va_S (va_A (oC cy b f :: wX11 cy a o S) s.heap.size) s.heap s.heap [] := va_S.rf
  have hl := lv_entry ([.ref (a o), .int p1, .int p2, .int p3, .ref b]) (n := 6) (Nat.le_of_ble_eq_true rfl)
  rw [lg_entry_eq]
  generalize (lg_sl ([.ref (a o), .int p1, .int p2, .int p3, .ref b]) ++ List.replicate (6 - (lg_sl ([.ref (a o), .int p1, .int p2, .int p3, .ref b])).length) Slot.unset).toArray = ls at hl ⊢
  have hl : lv_has ls 6 [(0, .ref (a o)), (1, .int p1), (2, .int p2), (3, .int p3), (4, .ref b)] := hl
  refine lv_aload hx hb dL_program_0 (lv_at hl 4 rfl) ?_
  refine lv_iconst (v := (0 : Int32)) hx hb dL_program_2 (by decide) ?_
  refine lv_aload_n hx hb dL_program_3 rfl (lv_at hl 0 rfl) ?_
  refine lv_iload_n hx hb dL_program_4 rfl (lv_at hl 1 rfl) ?_
  refine lv_iload_n hx hb dL_program_5 rfl (lv_at hl 2 rfl) ?_
  refine lv_iload_n hx hb dL_program_6 rfl (lv_at hl 3 rfl) ?_
  rcases h with ⟨v, e1, rfl⟩ | ⟨i, n, e1, e2, rfl⟩
  · refine tcNi (x0 := v) hG hX hP hD hS hA (pmR cy a o b S f) (fun h1 h2 => vx_runV (As := [.int p1, .int p2, .int p3]) (rest := [.int 0, .ref b]) ⟨hx, hb, hml, hown, hts⟩ (qX11_program l hl9 D cy tt a o (gX11_now S) p1 p2 p3 (s.heap).size (Sum.inr v) e1) (cwV 3 hts gL_program_X11_program rfl rfl rfl (by decide +kernel) ⟨Nat.le_of_ble_eq_true rfl, Nat.le_of_ble_eq_true rfl⟩) ⟨h1, va_recv hK hP (ci := 11) (q0 := 1) rfl rfl, h2⟩ rfl rfl hl.1 rfl (lv_room (Nat.le_of_ble_eq_true rfl)) dL_program_7 ⟨Nat.le_of_ble_eq_true rfl, Nat.le_of_ble_eq_true rfl⟩) (c2 := 2) (s2 := 12) rfl rfl (fun H locs hP hS => ?_)
    refine lv_i2l hx hb dL_program_10 rfl ?_
    refine va_last (q0 := 0) (t0 := 3) hx hb hK hP hD hS rfl rfl (show vp_in (0 : Int32) 1 by unfold vp_in; decide) dL_program_11 (fun H locs hP hD hS => ?_)
    refine lv_goto (tgt := 19) hx hb dL_program_12 (by decide) ?_
    refine lv_iconst (v := (0 : Int32)) hx hb dL_program_19 (by decide) ?_
    refine vx_ret (W.widen (k := 2) (n := 12) (by decide) (by decide) ?_)
    exact W.iret (v := (0 : Int32)) hx hb hr (fun t ht hW => ⟨⟨(0 : Int32), (S, vp_updL f 0 v.toInt64), rfl, rfl, by rw [ht]; exact hP, hD⟩, hS.F ht⟩) hS.2.2 dL_program_20
  · refine tcT (R0 := Int32) (fun st v t q => by obtain ⟨⟨r, u, -, hu, -⟩, -⟩ := q; cases hu) hG hX hP hD hS hA (pmR cy a o b S f) (fun h1 h2 => vx_runV (As := [.int p1, .int p2, .int p3]) (rest := [.int 0, .ref b]) ⟨hx, hb, hml, hown, hts⟩ (qX11_program l hl9 D cy tt a o (gX11_now S) p1 p2 p3 (s.heap).size (Sum.inl n) e1) (cwV 3 hts gL_program_X11_program rfl rfl rfl (by decide +kernel) ⟨Nat.le_of_ble_eq_true rfl, Nat.le_of_ble_eq_true rfl⟩) ⟨h1, va_recv hK hP (ci := 11) (q0 := 1) rfl rfl, h2⟩ rfl rfl hl.1 rfl (lv_room (Nat.le_of_ble_eq_true rfl)) dL_program_7 ⟨Nat.le_of_ble_eq_true rfl, Nat.le_of_ble_eq_true rfl⟩) (fun ce q9 H locs hP hS hce hcv hcl => ?_)
    match i, e2 with
    | 0, e2 =>
      cases Option.some.inj e2
      refine vx_catch hown [] ⟨0, 12, 15, 21⟩ [] (htab.trans rfl) (fun z hz => nomatch hz) rfl (by decide) (hts (.classLink RL 21 "java/lang/IndexOutOfBoundsException") (by decide +kernel)) (cast_w hG).2.2 hce hcv hcl ?_
      refine lv_astore (lv' := [(5, .ref q9), (0, .ref (a o)), (1, .int p1), (2, .int p2), (3, .int p3), (4, .ref b)]) hx hb dL_program_15 hl (by decide) rfl (fun ls hl => ?_)
      refine lv_iconst (v := (1 : Int32)) hx hb dL_program_17 (by decide) ?_
      refine vx_ret (W.widen (k := 2) (n := 12) (by decide) (by decide) ?_)
      exact W.iret (v := (1 : Int32)) hx hb hr (fun t ht hW => ⟨⟨(1 : Int32), (S, f), rfl, rfl, by rw [ht]; exact hP, hD⟩, hS.F ht⟩) hS.2.2 dL_program_18
    | i + 1, e2 => cases e2
theorem qL_flaw (l : Launch) (hl9 : l.stackTraces = false) (D : va_G) (cy : Nat → ClassId) (tt : Nat → Nat) (a : Nat → Nat) (o b : Nat) (S : SX11) (p1 : Int32) (p2 : Int32) (f : Nat → Int64) (sz : Nat) (res : Int32 × (SX11 × (Nat → Int64))) (h : wrR [1] S f (DX11_flaw (gX11_now S) p1 p2) res) : vx_Met l yL_flaw wsL_flaw ({ frames := 10, cells := 2, slots := 12, locals := 185 } : Room) (lP D cy tt sz [.ref (a o), .int p1, .int p2, .ref b] (oC cy b f :: wX11 cy a o S)) (va_Qi (fun r (u : SX11 × (Nat → Int64)) => (r, u) = res) (fun u t => mB D sz (oC cy b f :: wX11 cy a o S) (oC cy b u.2 :: wX11 cy a o u.1) t) (va_A (oC cy b f :: wX11 cy a o S) sz)) (fun _ _ _ => False) 2 12 (va_A (oC cy b f :: wX11 cy a o S) sz) := by
  refine vx_ofWH (cc := cL_flaw) (maxL := 5) (ret := (some .int)) (by decide) rfl ?_
  intro p e s m args below meth c s₁ B hml hv
  obtain ⟨rfl, hsz, hP, hG, hD0, hX, hN⟩ := hv
  have hx := B.exec
  have hb := B.bytes
  have hr := B.returns
  have hts := atoms_spec (ws := wsL_flaw) B.pre
  have hown : s.vm.findClass RL = some m.cls := findClass_of_methodNamed B.named
  have hlocks := B.notSynchronized
  have htab := vx_table (x := yL_flaw) B (hts _ List.mem_cons_self)
  have hK := hG.1
  subst hsz
  have hD := hD0.self (sz := s.heap.size)
  have hA : ∀ q : Nat, s.heap.size ≤ q → (va_A (oC cy b f :: wX11 cy a o S) s.heap.size) q := fun q h => Or.inr h
  have hS : va_S (va_A (oC cy b f :: wX11 cy a o S) s.heap.size) s.heap s.heap [] := va_S.rf
  have hl := lv_entry ([.ref (a o), .int p1, .int p2, .ref b]) (n := 5) (Nat.le_of_ble_eq_true rfl)
  rw [lg_entry_eq]
  generalize (lg_sl ([.ref (a o), .int p1, .int p2, .ref b]) ++ List.replicate (5 - (lg_sl ([.ref (a o), .int p1, .int p2, .ref b])).length) Slot.unset).toArray = ls at hl ⊢
  have hl : lv_has ls 5 [(0, .ref (a o)), (1, .int p1), (2, .int p2), (3, .ref b)] := hl
  refine lv_aload_n hx hb dL_flaw_0 rfl (lv_at hl 3 rfl) ?_
  refine lv_iconst (v := (0 : Int32)) hx hb dL_flaw_1 (by decide) ?_
  refine lv_aload_n hx hb dL_flaw_2 rfl (lv_at hl 0 rfl) ?_
  refine lv_iload_n hx hb dL_flaw_3 rfl (lv_at hl 1 rfl) ?_
  refine lv_iload_n hx hb dL_flaw_4 rfl (lv_at hl 2 rfl) ?_
  rcases h with ⟨v, e1, rfl⟩ | ⟨i, n, e1, e2, rfl⟩
  · refine tcNi (x0 := v) hG hX hP hD hS hA (pmR cy a o b S f) (fun h1 h2 => vx_runV (As := [.int p1, .int p2]) (rest := [.int 0, .ref b]) ⟨hx, hb, hml, hown, hts⟩ (qX11_flaw l hl9 D cy tt a o (gX11_now S) p1 p2 (s.heap).size (Sum.inr v) e1) (cwV 2 hts gL_flaw_X11_flaw rfl rfl rfl (by decide +kernel) ⟨Nat.le_of_ble_eq_true rfl, Nat.le_of_ble_eq_true rfl⟩) ⟨h1, va_recv hK hP (ci := 11) (q0 := 1) rfl rfl, h2⟩ rfl rfl hl.1 rfl (lv_room (Nat.le_of_ble_eq_true rfl)) dL_flaw_5 ⟨Nat.le_of_ble_eq_true rfl, Nat.le_of_ble_eq_true rfl⟩) (c2 := 2) (s2 := 12) rfl rfl (fun H locs hP hS => ?_)
    refine lv_i2l hx hb dL_flaw_8 rfl ?_
    refine va_last (q0 := 0) (t0 := 3) hx hb hK hP hD hS rfl rfl (show vp_in (0 : Int32) 1 by unfold vp_in; decide) dL_flaw_9 (fun H locs hP hD hS => ?_)
    refine lv_goto (tgt := 17) hx hb dL_flaw_10 (by decide) ?_
    refine lv_iconst (v := (0 : Int32)) hx hb dL_flaw_17 (by decide) ?_
    refine vx_ret (W.widen (k := 2) (n := 12) (by decide) (by decide) ?_)
    exact W.iret (v := (0 : Int32)) hx hb hr (fun t ht hW => ⟨⟨(0 : Int32), (S, vp_updL f 0 v.toInt64), rfl, rfl, by rw [ht]; exact hP, hD⟩, hS.F ht⟩) hS.2.2 dL_flaw_18
  · refine tcT (R0 := Int32) (fun st v t q => by obtain ⟨⟨r, u, -, hu, -⟩, -⟩ := q; cases hu) hG hX hP hD hS hA (pmR cy a o b S f) (fun h1 h2 => vx_runV (As := [.int p1, .int p2]) (rest := [.int 0, .ref b]) ⟨hx, hb, hml, hown, hts⟩ (qX11_flaw l hl9 D cy tt a o (gX11_now S) p1 p2 (s.heap).size (Sum.inl n) e1) (cwV 2 hts gL_flaw_X11_flaw rfl rfl rfl (by decide +kernel) ⟨Nat.le_of_ble_eq_true rfl, Nat.le_of_ble_eq_true rfl⟩) ⟨h1, va_recv hK hP (ci := 11) (q0 := 1) rfl rfl, h2⟩ rfl rfl hl.1 rfl (lv_room (Nat.le_of_ble_eq_true rfl)) dL_flaw_5 ⟨Nat.le_of_ble_eq_true rfl, Nat.le_of_ble_eq_true rfl⟩) (fun ce q9 H locs hP hS hce hcv hcl => ?_)
    match i, e2 with
    | 0, e2 =>
      cases Option.some.inj e2
      refine vx_catch hown [] ⟨0, 10, 13, 21⟩ [] (htab.trans rfl) (fun z hz => nomatch hz) rfl (by decide) (hts (.classLink RL 21 "java/lang/IndexOutOfBoundsException") (by decide +kernel)) (cast_w hG).2.2 hce hcv hcl ?_
      refine lv_astore (lv' := [(4, .ref q9), (0, .ref (a o)), (1, .int p1), (2, .int p2), (3, .ref b)]) hx hb dL_flaw_13 hl (by decide) rfl (fun ls hl => ?_)
      refine lv_iconst (v := (1 : Int32)) hx hb dL_flaw_15 (by decide) ?_
      refine vx_ret (W.widen (k := 2) (n := 12) (by decide) (by decide) ?_)
      exact W.iret (v := (1 : Int32)) hx hb hr (fun t ht hW => ⟨⟨(1 : Int32), (S, f), rfl, rfl, by rw [ht]; exact hP, hD⟩, hS.F ht⟩) hS.2.2 dL_flaw_16
    | i + 1, e2 => cases e2
theorem qL_info (l : Launch) (hl9 : l.stackTraces = false) (D : va_G) (cy : Nat → ClassId) (tt : Nat → Nat) (a : Nat → Nat) (o b : Nat) (S : SX11) (p1 : Int32) (f : Nat → Int64) (sz : Nat) (res : Int32 × (SX11 × (Nat → Int64))) (h : wrR [2] S f (DX11_info (gX11_now S) p1) res) : vx_Met l yL_info wsL_info ({ frames := 8, cells := 1, slots := 6, locals := 141 } : Room) (lP D cy tt sz [.ref (a o), .int p1, .ref b] (oC cy b f :: wX11 cy a o S)) (va_Qi (fun r (u : SX11 × (Nat → Int64)) => (r, u) = res) (fun u t => mB D sz (oC cy b f :: wX11 cy a o S) (oC cy b u.2 :: wX11 cy a o u.1) t) (va_A (oC cy b f :: wX11 cy a o S) sz)) (fun _ _ _ => False) 1 6 (va_A (oC cy b f :: wX11 cy a o S) sz) := by
  refine vx_ofWH (cc := cL_info) (maxL := 4) (ret := (some .int)) (by decide) rfl ?_
  intro p e s m args below meth c s₁ B hml hv
  obtain ⟨rfl, hsz, hP, hG, hD0, hX, hN⟩ := hv
  have hx := B.exec
  have hb := B.bytes
  have hr := B.returns
  have hts := atoms_spec (ws := wsL_info) B.pre
  have hown : s.vm.findClass RL = some m.cls := findClass_of_methodNamed B.named
  have hlocks := B.notSynchronized
  have htab := vx_table (x := yL_info) B (hts _ List.mem_cons_self)
  have hK := hG.1
  subst hsz
  have hD := hD0.self (sz := s.heap.size)
  have hA : ∀ q : Nat, s.heap.size ≤ q → (va_A (oC cy b f :: wX11 cy a o S) s.heap.size) q := fun q h => Or.inr h
  have hS : va_S (va_A (oC cy b f :: wX11 cy a o S) s.heap.size) s.heap s.heap [] := va_S.rf
  have hl := lv_entry ([.ref (a o), .int p1, .ref b]) (n := 4) (Nat.le_of_ble_eq_true rfl)
  rw [lg_entry_eq]
  generalize (lg_sl ([.ref (a o), .int p1, .ref b]) ++ List.replicate (4 - (lg_sl ([.ref (a o), .int p1, .ref b])).length) Slot.unset).toArray = ls at hl ⊢
  have hl : lv_has ls 4 [(0, .ref (a o)), (1, .int p1), (2, .ref b)] := hl
  refine lv_aload_n hx hb dL_info_0 rfl (lv_at hl 2 rfl) ?_
  refine lv_iconst (v := (0 : Int32)) hx hb dL_info_1 (by decide) ?_
  refine lv_aload_n hx hb dL_info_2 rfl (lv_at hl 0 rfl) ?_
  refine lv_iload_n hx hb dL_info_3 rfl (lv_at hl 1 rfl) ?_
  rcases h with ⟨v, e1, rfl⟩ | ⟨i, n, e1, e2, rfl⟩
  · refine tcNi (x0 := v) hG hX hP hD hS hA (pmR cy a o b S f) (fun h1 h2 => vx_runV (As := [.int p1]) (rest := [.int 0, .ref b]) ⟨hx, hb, hml, hown, hts⟩ (qX11_info l hl9 D cy tt a o (gX11_now S) p1 (s.heap).size (Sum.inr v) e1) (cwV 1 hts gL_info_X11_info rfl rfl rfl (by decide +kernel) ⟨Nat.le_of_ble_eq_true rfl, Nat.le_of_ble_eq_true rfl⟩) ⟨h1, va_recv hK hP (ci := 11) (q0 := 1) rfl rfl, h2⟩ rfl rfl hl.1 rfl (lv_room (Nat.le_of_ble_eq_true rfl)) dL_info_4 ⟨Nat.le_of_ble_eq_true rfl, Nat.le_of_ble_eq_true rfl⟩) (c2 := 1) (s2 := 6) rfl rfl (fun H locs hP hS => ?_)
    refine lv_i2l hx hb dL_info_7 rfl ?_
    refine va_last (q0 := 0) (t0 := 3) hx hb hK hP hD hS rfl rfl (show vp_in (0 : Int32) 1 by unfold vp_in; decide) dL_info_8 (fun H locs hP hD hS => ?_)
    refine lv_goto (tgt := 15) hx hb dL_info_9 (by decide) ?_
    refine lv_iconst (v := (0 : Int32)) hx hb dL_info_15 (by decide) ?_
    refine vx_ret (W.widen (k := 1) (n := 6) (by decide) (by decide) ?_)
    exact W.iret (v := (0 : Int32)) hx hb hr (fun t ht hW => ⟨⟨(0 : Int32), (S, vp_updL f 0 v.toInt64), rfl, rfl, by rw [ht]; exact hP, hD⟩, hS.F ht⟩) hS.2.2 dL_info_16
  · refine tcT (R0 := Int32) (fun st v t q => by obtain ⟨⟨r, u, -, hu, -⟩, -⟩ := q; cases hu) hG hX hP hD hS hA (pmR cy a o b S f) (fun h1 h2 => vx_runV (As := [.int p1]) (rest := [.int 0, .ref b]) ⟨hx, hb, hml, hown, hts⟩ (qX11_info l hl9 D cy tt a o (gX11_now S) p1 (s.heap).size (Sum.inl n) e1) (cwV 1 hts gL_info_X11_info rfl rfl rfl (by decide +kernel) ⟨Nat.le_of_ble_eq_true rfl, Nat.le_of_ble_eq_true rfl⟩) ⟨h1, va_recv hK hP (ci := 11) (q0 := 1) rfl rfl, h2⟩ rfl rfl hl.1 rfl (lv_room (Nat.le_of_ble_eq_true rfl)) dL_info_4 ⟨Nat.le_of_ble_eq_true rfl, Nat.le_of_ble_eq_true rfl⟩) (fun ce q9 H locs hP hS hce hcv hcl => ?_)
    match i, e2 with
    | 0, e2 =>
      cases Option.some.inj e2
      refine vx_catch hown [] ⟨0, 9, 12, 13⟩ [] (htab.trans rfl) (fun z hz => nomatch hz) rfl (by decide) (hts (.classLink RL 13 "java/lang/IllegalArgumentException") (by decide +kernel)) (cast_w hG).1 hce hcv hcl ?_
      refine lv_astore_n (lv' := [(3, .ref q9), (0, .ref (a o)), (1, .int p1), (2, .ref b)]) hx hb dL_info_12 rfl hl (by decide) rfl (fun ls hl => ?_)
      refine lv_iconst (v := (1 : Int32)) hx hb dL_info_13 (by decide) ?_
      refine vx_ret (W.widen (k := 1) (n := 6) (by decide) (by decide) ?_)
      exact W.iret (v := (1 : Int32)) hx hb hr (fun t ht hW => ⟨⟨(1 : Int32), (S, f), rfl, rfl, by rw [ht]; exact hP, hD⟩, hS.F ht⟩) hS.2.2 dL_info_14
    | i + 1, e2 => cases e2
theorem qL_entrant (l : Launch) (hl9 : l.stackTraces = false) (D : va_G) (cy : Nat → ClassId) (tt : Nat → Nat) (a : Nat → Nat) (o b : Nat) (S : SX11) (p1 : Int32) (p2 : Int32) (f : Nat → Int64) (sz : Nat) (res : Int32 × (SX11 × (Nat → Int64))) (h : wrR [1, 2] S f (DX11_entrant (gX11_now S) p1 p2) res) : vx_Met l yL_entrant wsL_entrant ({ frames := 9, cells := 2, slots := 12, locals := 163 } : Room) (lP D cy tt sz [.ref (a o), .int p1, .int p2, .ref b] (oC cy b f :: wX11 cy a o S)) (va_Qi (fun r (u : SX11 × (Nat → Int64)) => (r, u) = res) (fun u t => mB D sz (oC cy b f :: wX11 cy a o S) (oC cy b u.2 :: wX11 cy a o u.1) t) (va_A (oC cy b f :: wX11 cy a o S) sz)) (fun _ _ _ => False) 2 12 (va_A (oC cy b f :: wX11 cy a o S) sz) := by
  refine vx_ofWH (cc := cL_entrant) (maxL := 5) (ret := (some .int)) (by decide) rfl ?_
  intro p e s m args below meth c s₁ B hml hv
  obtain ⟨rfl, hsz, hP, hG, hD0, hX, hN⟩ := hv
  have hx := B.exec
  have hb := B.bytes
  have hr := B.returns
  have hts := atoms_spec (ws := wsL_entrant) B.pre
  have hown : s.vm.findClass RL = some m.cls := findClass_of_methodNamed B.named
  have hlocks := B.notSynchronized
  have htab := vx_table (x := yL_entrant) B (hts _ List.mem_cons_self)
  have hK := hG.1
  subst hsz
  have hD := hD0.self (sz := s.heap.size)
  have hA : ∀ q : Nat, s.heap.size ≤ q → (va_A (oC cy b f :: wX11 cy a o S) s.heap.size) q := fun q h => Or.inr h
  have hS : va_S (va_A (oC cy b f :: wX11 cy a o S) s.heap.size) s.heap s.heap [] := va_S.rf
  have hl := lv_entry ([.ref (a o), .int p1, .int p2, .ref b]) (n := 5) (Nat.le_of_ble_eq_true rfl)
  rw [lg_entry_eq]
  generalize (lg_sl ([.ref (a o), .int p1, .int p2, .ref b]) ++ List.replicate (5 - (lg_sl ([.ref (a o), .int p1, .int p2, .ref b])).length) Slot.unset).toArray = ls at hl ⊢
  have hl : lv_has ls 5 [(0, .ref (a o)), (1, .int p1), (2, .int p2), (3, .ref b)] := hl
  refine lv_aload_n hx hb dL_entrant_0 rfl (lv_at hl 3 rfl) ?_
  refine lv_iconst (v := (0 : Int32)) hx hb dL_entrant_1 (by decide) ?_
  refine lv_aload_n hx hb dL_entrant_2 rfl (lv_at hl 0 rfl) ?_
  refine lv_iload_n hx hb dL_entrant_3 rfl (lv_at hl 1 rfl) ?_
  refine lv_iload_n hx hb dL_entrant_4 rfl (lv_at hl 2 rfl) ?_
  rcases h with ⟨v, e1, rfl⟩ | ⟨i, n, e1, e2, rfl⟩
  · refine tcNi (x0 := v) hG hX hP hD hS hA (pmR cy a o b S f) (fun h1 h2 => vx_runV (As := [.int p1, .int p2]) (rest := [.int 0, .ref b]) ⟨hx, hb, hml, hown, hts⟩ (qX11_entrant l hl9 D cy tt a o (gX11_now S) p1 p2 (s.heap).size (Sum.inr v) e1) (cwV 2 hts gL_entrant_X11_entrant rfl rfl rfl (by decide +kernel) ⟨Nat.le_of_ble_eq_true rfl, Nat.le_of_ble_eq_true rfl⟩) ⟨h1, va_recv hK hP (ci := 11) (q0 := 1) rfl rfl, h2⟩ rfl rfl hl.1 rfl (lv_room (Nat.le_of_ble_eq_true rfl)) dL_entrant_5 ⟨Nat.le_of_ble_eq_true rfl, Nat.le_of_ble_eq_true rfl⟩) (c2 := 2) (s2 := 12) rfl rfl (fun H locs hP hS => ?_)
    refine lv_i2l hx hb dL_entrant_8 rfl ?_
    refine va_last (q0 := 0) (t0 := 3) hx hb hK hP hD hS rfl rfl (show vp_in (0 : Int32) 1 by unfold vp_in; decide) dL_entrant_9 (fun H locs hP hD hS => ?_)
    refine lv_goto (tgt := 21) hx hb dL_entrant_10 (by decide) ?_
    refine lv_iconst (v := (0 : Int32)) hx hb dL_entrant_21 (by decide) ?_
    refine vx_ret (W.widen (k := 2) (n := 12) (by decide) (by decide) ?_)
    exact W.iret (v := (0 : Int32)) hx hb hr (fun t ht hW => ⟨⟨(0 : Int32), (S, vp_updL f 0 v.toInt64), rfl, rfl, by rw [ht]; exact hP, hD⟩, hS.F ht⟩) hS.2.2 dL_entrant_22
  · refine tcT (R0 := Int32) (fun st v t q => by obtain ⟨⟨r, u, -, hu, -⟩, -⟩ := q; cases hu) hG hX hP hD hS hA (pmR cy a o b S f) (fun h1 h2 => vx_runV (As := [.int p1, .int p2]) (rest := [.int 0, .ref b]) ⟨hx, hb, hml, hown, hts⟩ (qX11_entrant l hl9 D cy tt a o (gX11_now S) p1 p2 (s.heap).size (Sum.inl n) e1) (cwV 2 hts gL_entrant_X11_entrant rfl rfl rfl (by decide +kernel) ⟨Nat.le_of_ble_eq_true rfl, Nat.le_of_ble_eq_true rfl⟩) ⟨h1, va_recv hK hP (ci := 11) (q0 := 1) rfl rfl, h2⟩ rfl rfl hl.1 rfl (lv_room (Nat.le_of_ble_eq_true rfl)) dL_entrant_5 ⟨Nat.le_of_ble_eq_true rfl, Nat.le_of_ble_eq_true rfl⟩) (fun ce q9 H locs hP hS hce hcv hcl => ?_)
    match i, e2 with
    | 0, e2 =>
      cases Option.some.inj e2
      refine vx_catch hown [] ⟨0, 10, 13, 21⟩ [⟨0, 10, 17, 13⟩] (htab.trans rfl) (fun z hz => nomatch hz) rfl (by decide) (hts (.classLink RL 21 "java/lang/IndexOutOfBoundsException") (by decide +kernel)) (cast_w hG).2.2 hce hcv hcl ?_
      refine lv_astore (lv' := [(4, .ref q9), (0, .ref (a o)), (1, .int p1), (2, .int p2), (3, .ref b)]) hx hb dL_entrant_13 hl (by decide) rfl (fun ls hl => ?_)
      refine lv_iconst (v := (1 : Int32)) hx hb dL_entrant_15 (by decide) ?_
      refine vx_ret (W.widen (k := 2) (n := 12) (by decide) (by decide) ?_)
      exact W.iret (v := (1 : Int32)) hx hb hr (fun t ht hW => ⟨⟨(1 : Int32), (S, f), rfl, rfl, by rw [ht]; exact hP, hD⟩, hS.F ht⟩) hS.2.2 dL_entrant_16
    | 1, e2 =>
      cases Option.some.inj e2
      refine vx_catch hown [⟨0, 10, 13, 21⟩] ⟨0, 10, 17, 13⟩ [] (htab.trans rfl) (fun z hz => by cases List.mem_singleton.mp hz; exact Or.inr ⟨by decide, "java/lang/IndexOutOfBoundsException", hts (.classLink RL 21 "java/lang/IndexOutOfBoundsException") (by decide +kernel), hN.1⟩) rfl (by decide) (hts (.classLink RL 13 "java/lang/IllegalArgumentException") (by decide +kernel)) (cast_w hG).1 hce hcv hcl ?_
      refine lv_astore (lv' := [(4, .ref q9), (0, .ref (a o)), (1, .int p1), (2, .int p2), (3, .ref b)]) hx hb dL_entrant_17 hl (by decide) rfl (fun ls hl => ?_)
      refine lv_iconst (v := (2 : Int32)) hx hb dL_entrant_19 (by decide) ?_
      refine vx_ret (W.widen (k := 2) (n := 12) (by decide) (by decide) ?_)
      exact W.iret (v := (2 : Int32)) hx hb hr (fun t ht hW => ⟨⟨(2 : Int32), (S, f), rfl, rfl, by rw [ht]; exact hP, hD⟩, hS.F ht⟩) hS.2.2 dL_entrant_20
    | i + 2, e2 => cases e2
theorem qL_marked (l : Launch) (hl9 : l.stackTraces = false) (D : va_G) (cy : Nat → ClassId) (tt : Nat → Nat) (a : Nat → Nat) (o b : Nat) (S : SX11) (p1 : Int32) (p2 : Int32) (p3 : Int32) (f : Nat → Int64) (sz : Nat) (res : Int32 × (SX11 × (Nat → Int64))) (h : wrR [1] S f (DX11_marked (gX11_now S) p1 p2 p3) res) : vx_Met l yL_marked wsL_marked ({ frames := 10, cells := 2, slots := 12, locals := 186 } : Room) (lP D cy tt sz [.ref (a o), .int p1, .int p2, .int p3, .ref b] (oC cy b f :: wX11 cy a o S)) (va_Qi (fun r (u : SX11 × (Nat → Int64)) => (r, u) = res) (fun u t => mB D sz (oC cy b f :: wX11 cy a o S) (oC cy b u.2 :: wX11 cy a o u.1) t) (va_A (oC cy b f :: wX11 cy a o S) sz)) (fun _ _ _ => False) 2 12 (va_A (oC cy b f :: wX11 cy a o S) sz) := by
  refine vx_ofWH (cc := cL_marked) (maxL := 6) (ret := (some .int)) (by decide) rfl ?_
  intro p e s m args below meth c s₁ B hml hv
  obtain ⟨rfl, hsz, hP, hG, hD0, hX, hN⟩ := hv
  have hx := B.exec
  have hb := B.bytes
  have hr := B.returns
  have hts := atoms_spec (ws := wsL_marked) B.pre
  have hown : s.vm.findClass RL = some m.cls := findClass_of_methodNamed B.named
  have hlocks := B.notSynchronized
  have htab := vx_table (x := yL_marked) B (hts _ List.mem_cons_self)
  have hK := hG.1
  subst hsz
  have hD := hD0.self (sz := s.heap.size)
  have hA : ∀ q : Nat, s.heap.size ≤ q → (va_A (oC cy b f :: wX11 cy a o S) s.heap.size) q := fun q h => Or.inr h
  have hS : va_S (va_A (oC cy b f :: wX11 cy a o S) s.heap.size) s.heap s.heap [] := va_S.rf
  have hl := lv_entry ([.ref (a o), .int p1, .int p2, .int p3, .ref b]) (n := 6) (Nat.le_of_ble_eq_true rfl)
  rw [lg_entry_eq]
  generalize (lg_sl ([.ref (a o), .int p1, .int p2, .int p3, .ref b]) ++ List.replicate (6 - (lg_sl ([.ref (a o), .int p1, .int p2, .int p3, .ref b])).length) Slot.unset).toArray = ls at hl ⊢
  have hl : lv_has ls 6 [(0, .ref (a o)), (1, .int p1), (2, .int p2), (3, .int p3), (4, .ref b)] := hl
  refine lv_aload hx hb dL_marked_0 (lv_at hl 4 rfl) ?_
  refine lv_iconst (v := (0 : Int32)) hx hb dL_marked_2 (by decide) ?_
  refine lv_aload_n hx hb dL_marked_3 rfl (lv_at hl 0 rfl) ?_
  refine lv_iload_n hx hb dL_marked_4 rfl (lv_at hl 1 rfl) ?_
  refine lv_iload_n hx hb dL_marked_5 rfl (lv_at hl 2 rfl) ?_
  refine lv_iload_n hx hb dL_marked_6 rfl (lv_at hl 3 rfl) ?_
  rcases h with ⟨v, e1, rfl⟩ | ⟨i, n, e1, e2, rfl⟩
  · refine tcNi (x0 := v) hG hX hP hD hS hA (pmR cy a o b S f) (fun h1 h2 => vx_runV (As := [.int p1, .int p2, .int p3]) (rest := [.int 0, .ref b]) ⟨hx, hb, hml, hown, hts⟩ (qX11_marked l hl9 D cy tt a o (gX11_now S) p1 p2 p3 (s.heap).size (Sum.inr v) e1) (cwV 3 hts gL_marked_X11_marked rfl rfl rfl (by decide +kernel) ⟨Nat.le_of_ble_eq_true rfl, Nat.le_of_ble_eq_true rfl⟩) ⟨h1, va_recv hK hP (ci := 11) (q0 := 1) rfl rfl, h2⟩ rfl rfl hl.1 rfl (lv_room (Nat.le_of_ble_eq_true rfl)) dL_marked_7 ⟨Nat.le_of_ble_eq_true rfl, Nat.le_of_ble_eq_true rfl⟩) (c2 := 2) (s2 := 12) rfl rfl (fun H locs hP hS => ?_)
    refine lv_i2l hx hb dL_marked_10 rfl ?_
    refine va_last (q0 := 0) (t0 := 3) hx hb hK hP hD hS rfl rfl (show vp_in (0 : Int32) 1 by unfold vp_in; decide) dL_marked_11 (fun H locs hP hD hS => ?_)
    refine lv_goto (tgt := 19) hx hb dL_marked_12 (by decide) ?_
    refine lv_iconst (v := (0 : Int32)) hx hb dL_marked_19 (by decide) ?_
    refine vx_ret (W.widen (k := 2) (n := 12) (by decide) (by decide) ?_)
    exact W.iret (v := (0 : Int32)) hx hb hr (fun t ht hW => ⟨⟨(0 : Int32), (S, vp_updL f 0 v.toInt64), rfl, rfl, by rw [ht]; exact hP, hD⟩, hS.F ht⟩) hS.2.2 dL_marked_20
  · refine tcT (R0 := Int32) (fun st v t q => by obtain ⟨⟨r, u, -, hu, -⟩, -⟩ := q; cases hu) hG hX hP hD hS hA (pmR cy a o b S f) (fun h1 h2 => vx_runV (As := [.int p1, .int p2, .int p3]) (rest := [.int 0, .ref b]) ⟨hx, hb, hml, hown, hts⟩ (qX11_marked l hl9 D cy tt a o (gX11_now S) p1 p2 p3 (s.heap).size (Sum.inl n) e1) (cwV 3 hts gL_marked_X11_marked rfl rfl rfl (by decide +kernel) ⟨Nat.le_of_ble_eq_true rfl, Nat.le_of_ble_eq_true rfl⟩) ⟨h1, va_recv hK hP (ci := 11) (q0 := 1) rfl rfl, h2⟩ rfl rfl hl.1 rfl (lv_room (Nat.le_of_ble_eq_true rfl)) dL_marked_7 ⟨Nat.le_of_ble_eq_true rfl, Nat.le_of_ble_eq_true rfl⟩) (fun ce q9 H locs hP hS hce hcv hcl => ?_)
    match i, e2 with
    | 0, e2 =>
      cases Option.some.inj e2
      refine vx_catch hown [] ⟨0, 12, 15, 21⟩ [] (htab.trans rfl) (fun z hz => nomatch hz) rfl (by decide) (hts (.classLink RL 21 "java/lang/IndexOutOfBoundsException") (by decide +kernel)) (cast_w hG).2.2 hce hcv hcl ?_
      refine lv_astore (lv' := [(5, .ref q9), (0, .ref (a o)), (1, .int p1), (2, .int p2), (3, .int p3), (4, .ref b)]) hx hb dL_marked_15 hl (by decide) rfl (fun ls hl => ?_)
      refine lv_iconst (v := (1 : Int32)) hx hb dL_marked_17 (by decide) ?_
      refine vx_ret (W.widen (k := 2) (n := 12) (by decide) (by decide) ?_)
      exact W.iret (v := (1 : Int32)) hx hb hr (fun t ht hW => ⟨⟨(1 : Int32), (S, f), rfl, rfl, by rw [ht]; exact hP, hD⟩, hS.F ht⟩) hS.2.2 dL_marked_18
    | i + 1, e2 => cases e2
theorem qL_history (l : Launch) (hl9 : l.stackTraces = false) (D : va_G) (cy : Nat → ClassId) (tt : Nat → Nat) (a : Nat → Nat) (o b : Nat) (S : SX11) (p1 : Int32) (p2 : Int32) (f : Nat → Int64) (sz : Nat) (res : Int32 × (SX11 × (Nat → Int64))) (h : wrR [1] S f (DX11_history (gX11_now S) p1 p2) res) : vx_Met l yL_history wsL_history ({ frames := 10, cells := 2, slots := 12, locals := 185 } : Room) (lP D cy tt sz [.ref (a o), .int p1, .int p2, .ref b] (oC cy b f :: wX11 cy a o S)) (va_Qi (fun r (u : SX11 × (Nat → Int64)) => (r, u) = res) (fun u t => mB D sz (oC cy b f :: wX11 cy a o S) (oC cy b u.2 :: wX11 cy a o u.1) t) (va_A (oC cy b f :: wX11 cy a o S) sz)) (fun _ _ _ => False) 2 12 (va_A (oC cy b f :: wX11 cy a o S) sz) := by
  refine vx_ofWH (cc := cL_history) (maxL := 5) (ret := (some .int)) (by decide) rfl ?_
  intro p e s m args below meth c s₁ B hml hv
  obtain ⟨rfl, hsz, hP, hG, hD0, hX, hN⟩ := hv
  have hx := B.exec
  have hb := B.bytes
  have hr := B.returns
  have hts := atoms_spec (ws := wsL_history) B.pre
  have hown : s.vm.findClass RL = some m.cls := findClass_of_methodNamed B.named
  have hlocks := B.notSynchronized
  have htab := vx_table (x := yL_history) B (hts _ List.mem_cons_self)
  have hK := hG.1
  subst hsz
  have hD := hD0.self (sz := s.heap.size)
  have hA : ∀ q : Nat, s.heap.size ≤ q → (va_A (oC cy b f :: wX11 cy a o S) s.heap.size) q := fun q h => Or.inr h
  have hS : va_S (va_A (oC cy b f :: wX11 cy a o S) s.heap.size) s.heap s.heap [] := va_S.rf
  have hl := lv_entry ([.ref (a o), .int p1, .int p2, .ref b]) (n := 5) (Nat.le_of_ble_eq_true rfl)
  rw [lg_entry_eq]
  generalize (lg_sl ([.ref (a o), .int p1, .int p2, .ref b]) ++ List.replicate (5 - (lg_sl ([.ref (a o), .int p1, .int p2, .ref b])).length) Slot.unset).toArray = ls at hl ⊢
  have hl : lv_has ls 5 [(0, .ref (a o)), (1, .int p1), (2, .int p2), (3, .ref b)] := hl
  refine lv_aload_n hx hb dL_history_0 rfl (lv_at hl 3 rfl) ?_
  refine lv_iconst (v := (0 : Int32)) hx hb dL_history_1 (by decide) ?_
  refine lv_aload_n hx hb dL_history_2 rfl (lv_at hl 0 rfl) ?_
  refine lv_iload_n hx hb dL_history_3 rfl (lv_at hl 1 rfl) ?_
  refine lv_iload_n hx hb dL_history_4 rfl (lv_at hl 2 rfl) ?_
  rcases h with ⟨v, e1, rfl⟩ | ⟨i, n, e1, e2, rfl⟩
  · refine tcNi (x0 := v) hG hX hP hD hS hA (pmR cy a o b S f) (fun h1 h2 => vx_runV (As := [.int p1, .int p2]) (rest := [.int 0, .ref b]) ⟨hx, hb, hml, hown, hts⟩ (qX11_history l hl9 D cy tt a o (gX11_now S) p1 p2 (s.heap).size (Sum.inr v) e1) (cwV 2 hts gL_history_X11_history rfl rfl rfl (by decide +kernel) ⟨Nat.le_of_ble_eq_true rfl, Nat.le_of_ble_eq_true rfl⟩) ⟨h1, va_recv hK hP (ci := 11) (q0 := 1) rfl rfl, h2⟩ rfl rfl hl.1 rfl (lv_room (Nat.le_of_ble_eq_true rfl)) dL_history_5 ⟨Nat.le_of_ble_eq_true rfl, Nat.le_of_ble_eq_true rfl⟩) (c2 := 2) (s2 := 12) rfl rfl (fun H locs hP hS => ?_)
    refine lv_i2l hx hb dL_history_8 rfl ?_
    refine va_last (q0 := 0) (t0 := 3) hx hb hK hP hD hS rfl rfl (show vp_in (0 : Int32) 1 by unfold vp_in; decide) dL_history_9 (fun H locs hP hD hS => ?_)
    refine lv_goto (tgt := 17) hx hb dL_history_10 (by decide) ?_
    refine lv_iconst (v := (0 : Int32)) hx hb dL_history_17 (by decide) ?_
    refine vx_ret (W.widen (k := 2) (n := 12) (by decide) (by decide) ?_)
    exact W.iret (v := (0 : Int32)) hx hb hr (fun t ht hW => ⟨⟨(0 : Int32), (S, vp_updL f 0 v.toInt64), rfl, rfl, by rw [ht]; exact hP, hD⟩, hS.F ht⟩) hS.2.2 dL_history_18
  · refine tcT (R0 := Int32) (fun st v t q => by obtain ⟨⟨r, u, -, hu, -⟩, -⟩ := q; cases hu) hG hX hP hD hS hA (pmR cy a o b S f) (fun h1 h2 => vx_runV (As := [.int p1, .int p2]) (rest := [.int 0, .ref b]) ⟨hx, hb, hml, hown, hts⟩ (qX11_history l hl9 D cy tt a o (gX11_now S) p1 p2 (s.heap).size (Sum.inl n) e1) (cwV 2 hts gL_history_X11_history rfl rfl rfl (by decide +kernel) ⟨Nat.le_of_ble_eq_true rfl, Nat.le_of_ble_eq_true rfl⟩) ⟨h1, va_recv hK hP (ci := 11) (q0 := 1) rfl rfl, h2⟩ rfl rfl hl.1 rfl (lv_room (Nat.le_of_ble_eq_true rfl)) dL_history_5 ⟨Nat.le_of_ble_eq_true rfl, Nat.le_of_ble_eq_true rfl⟩) (fun ce q9 H locs hP hS hce hcv hcl => ?_)
    match i, e2 with
    | 0, e2 =>
      cases Option.some.inj e2
      refine vx_catch hown [] ⟨0, 10, 13, 21⟩ [] (htab.trans rfl) (fun z hz => nomatch hz) rfl (by decide) (hts (.classLink RL 21 "java/lang/IndexOutOfBoundsException") (by decide +kernel)) (cast_w hG).2.2 hce hcv hcl ?_
      refine lv_astore (lv' := [(4, .ref q9), (0, .ref (a o)), (1, .int p1), (2, .int p2), (3, .ref b)]) hx hb dL_history_13 hl (by decide) rfl (fun ls hl => ?_)
      refine lv_iconst (v := (1 : Int32)) hx hb dL_history_15 (by decide) ?_
      refine vx_ret (W.widen (k := 2) (n := 12) (by decide) (by decide) ?_)
      exact W.iret (v := (1 : Int32)) hx hb hr (fun t ht hW => ⟨⟨(1 : Int32), (S, f), rfl, rfl, by rw [ht]; exact hP, hD⟩, hS.F ht⟩) hS.2.2 dL_history_16
    | i + 1, e2 => cases e2
theorem qL_wouldBe (l : Launch) (hl9 : l.stackTraces = false) (D : va_G) (cy : Nat → ClassId) (tt : Nat → Nat) (a : Nat → Nat) (o b : Nat) (S : SX11) (p1 : Int32) (f : Nat → Int64) (sz : Nat) (res : Int32 × (SX11 × (Nat → Int64))) (h : wrW [2] S f (DX11_wouldBe (gX11_now S) p1) res) : vx_Met l yL_wouldBe wsL_wouldBe ({ frames := 8, cells := 1, slots := 6, locals := 148 } : Room) (lP D cy tt sz [.ref (a o), .int p1, .ref b] (oC cy b f :: wX11 cy a o S)) (va_Qi (fun r (u : SX11 × (Nat → Int64)) => (r, u) = res) (fun u t => mB D sz (oC cy b f :: wX11 cy a o S) (oC cy b u.2 :: wX11 cy a o u.1) t) (va_A (oC cy b f :: wX11 cy a o S) sz)) (fun _ _ _ => False) 1 6 (va_A (oC cy b f :: wX11 cy a o S) sz) := by
  refine vx_ofWH (cc := cL_wouldBe) (maxL := 4) (ret := (some .int)) (by decide) rfl ?_
  intro p e s m args below meth c s₁ B hml hv
  obtain ⟨rfl, hsz, hP, hG, hD0, hX, hN⟩ := hv
  have hx := B.exec
  have hb := B.bytes
  have hr := B.returns
  have hts := atoms_spec (ws := wsL_wouldBe) B.pre
  have hown : s.vm.findClass RL = some m.cls := findClass_of_methodNamed B.named
  have hlocks := B.notSynchronized
  have htab := vx_table (x := yL_wouldBe) B (hts _ List.mem_cons_self)
  have hK := hG.1
  subst hsz
  have hD := hD0.self (sz := s.heap.size)
  have hA : ∀ q : Nat, s.heap.size ≤ q → (va_A (oC cy b f :: wX11 cy a o S) s.heap.size) q := fun q h => Or.inr h
  have hS : va_S (va_A (oC cy b f :: wX11 cy a o S) s.heap.size) s.heap s.heap [] := va_S.rf
  have hl := lv_entry ([.ref (a o), .int p1, .ref b]) (n := 4) (Nat.le_of_ble_eq_true rfl)
  rw [lg_entry_eq]
  generalize (lg_sl ([.ref (a o), .int p1, .ref b]) ++ List.replicate (4 - (lg_sl ([.ref (a o), .int p1, .ref b])).length) Slot.unset).toArray = ls at hl ⊢
  have hl : lv_has ls 4 [(0, .ref (a o)), (1, .int p1), (2, .ref b)] := hl
  refine lv_aload_n hx hb dL_wouldBe_0 rfl (lv_at hl 2 rfl) ?_
  refine lv_iconst (v := (0 : Int32)) hx hb dL_wouldBe_1 (by decide) ?_
  refine lv_aload_n hx hb dL_wouldBe_2 rfl (lv_at hl 0 rfl) ?_
  refine lv_iload_n hx hb dL_wouldBe_3 rfl (lv_at hl 1 rfl) ?_
  rcases h with ⟨v, T, e1, rfl⟩ | ⟨i, n, e1, e2, rfl⟩
  · refine tcNm (x0 := (v, T)) (wf := fun T => wX11n cy a o T) (ws' := oC cy b f :: wX11 cy a o (uX11_now S T)) hG hX hP hD hS hA (pmR cy a o b S f) (pmR cy a o b (uX11_now S T) f) (fun h1 h2 => vx_runV (As := [.int p1]) (rest := [.int 0, .ref b]) ⟨hx, hb, hml, hown, hts⟩ (qX11_wouldBe l hl9 D cy tt a o (gX11_now S) p1 (s.heap).size (Sum.inr (v, T)) e1) (cwV 1 hts gL_wouldBe_X11_wouldBe rfl rfl rfl (by decide +kernel) ⟨Nat.le_of_ble_eq_true rfl, Nat.le_of_ble_eq_true rfl⟩) ⟨h1, va_recv hK hP (ci := 11) (q0 := 1) rfl rfl, h2⟩ rfl rfl hl.1 rfl (lv_room (Nat.le_of_ble_eq_true rfl)) dL_wouldBe_4 ⟨Nat.le_of_ble_eq_true rfl, Nat.le_of_ble_eq_true rfl⟩) (c2 := 1) (s2 := 6) rfl rfl (fun H locs hP hD hS => ?_)
    refine lv_i2l hx hb dL_wouldBe_7 rfl ?_
    refine va_last (q0 := 0) (t0 := 3) hx hb hK hP hD hS rfl rfl (show vp_in (0 : Int32) 1 by unfold vp_in; decide) dL_wouldBe_8 (fun H locs hP hD hS => ?_)
    refine lv_goto (tgt := 15) hx hb dL_wouldBe_9 (by decide) ?_
    refine lv_iconst (v := (0 : Int32)) hx hb dL_wouldBe_15 (by decide) ?_
    refine vx_ret (W.widen (k := 1) (n := 6) (by decide) (by decide) ?_)
    exact W.iret (v := (0 : Int32)) hx hb hr (fun t ht hW => ⟨⟨(0 : Int32), (uX11_now S T, vp_updL f 0 v.toInt64), rfl, rfl, by rw [ht]; exact hP, hD⟩, hS.F ht⟩) hS.2.2 dL_wouldBe_16
  · refine tcT (R0 := Int32 × SX11n) (fun st v t q => by obtain ⟨⟨r, u, -, hu, -⟩, -⟩ := q; cases hu) hG hX hP hD hS hA (pmR cy a o b S f) (fun h1 h2 => vx_runV (As := [.int p1]) (rest := [.int 0, .ref b]) ⟨hx, hb, hml, hown, hts⟩ (qX11_wouldBe l hl9 D cy tt a o (gX11_now S) p1 (s.heap).size (Sum.inl n) e1) (cwV 1 hts gL_wouldBe_X11_wouldBe rfl rfl rfl (by decide +kernel) ⟨Nat.le_of_ble_eq_true rfl, Nat.le_of_ble_eq_true rfl⟩) ⟨h1, va_recv hK hP (ci := 11) (q0 := 1) rfl rfl, h2⟩ rfl rfl hl.1 rfl (lv_room (Nat.le_of_ble_eq_true rfl)) dL_wouldBe_4 ⟨Nat.le_of_ble_eq_true rfl, Nat.le_of_ble_eq_true rfl⟩) (fun ce q9 H locs hP hS hce hcv hcl => ?_)
    match i, e2 with
    | 0, e2 =>
      cases Option.some.inj e2
      refine vx_catch hown [] ⟨0, 9, 12, 13⟩ [] (htab.trans rfl) (fun z hz => nomatch hz) rfl (by decide) (hts (.classLink RL 13 "java/lang/IllegalArgumentException") (by decide +kernel)) (cast_w hG).1 hce hcv hcl ?_
      refine lv_astore_n (lv' := [(3, .ref q9), (0, .ref (a o)), (1, .int p1), (2, .ref b)]) hx hb dL_wouldBe_12 rfl hl (by decide) rfl (fun ls hl => ?_)
      refine lv_iconst (v := (1 : Int32)) hx hb dL_wouldBe_13 (by decide) ?_
      refine vx_ret (W.widen (k := 1) (n := 6) (by decide) (by decide) ?_)
      exact W.iret (v := (1 : Int32)) hx hb hr (fun t ht hW => ⟨⟨(1 : Int32), (S, f), rfl, rfl, by rw [ht]; exact hP, hD⟩, hS.F ht⟩) hS.2.2 dL_wouldBe_14
    | i + 1, e2 => cases e2
theorem qL_neededMark (l : Launch) (hl9 : l.stackTraces = false) (D : va_G) (cy : Nat → ClassId) (tt : Nat → Nat) (a : Nat → Nat) (o b : Nat) (S : SX11) (p1 : Int32) (p2 : Int32) (p3 : Int32) (f : Nat → Int64) (sz : Nat) (res : Int32 × (SX11 × (Nat → Int64))) (h : wrR [1, 2, 3] S f (DX11_neededMark (gX11_now S) p1 p2 p3) res) : vx_Met l yL_neededMark wsL_neededMark ({ frames := 10, cells := 5, slots := 30, locals := 187 } : Room) (lP D cy tt sz [.ref (a o), .int p1, .int p2, .int p3, .ref b] (oC cy b f :: wX11 cy a o S)) (va_Qi (fun r (u : SX11 × (Nat → Int64)) => (r, u) = res) (fun u t => mB D sz (oC cy b f :: wX11 cy a o S) (oC cy b u.2 :: wX11 cy a o u.1) t) (va_A (oC cy b f :: wX11 cy a o S) sz)) (fun _ _ _ => False) 5 30 (va_A (oC cy b f :: wX11 cy a o S) sz) := by
  refine vx_ofWH (cc := cL_neededMark) (maxL := 6) (ret := (some .int)) (by decide) rfl ?_
  intro p e s m args below meth c s₁ B hml hv
  obtain ⟨rfl, hsz, hP, hG, hD0, hX, hN⟩ := hv
  have hx := B.exec
  have hb := B.bytes
  have hr := B.returns
  have hts := atoms_spec (ws := wsL_neededMark) B.pre
  have hown : s.vm.findClass RL = some m.cls := findClass_of_methodNamed B.named
  have hlocks := B.notSynchronized
  have htab := vx_table (x := yL_neededMark) B (hts _ List.mem_cons_self)
  have hK := hG.1
  subst hsz
  have hD := hD0.self (sz := s.heap.size)
  have hA : ∀ q : Nat, s.heap.size ≤ q → (va_A (oC cy b f :: wX11 cy a o S) s.heap.size) q := fun q h => Or.inr h
  have hS : va_S (va_A (oC cy b f :: wX11 cy a o S) s.heap.size) s.heap s.heap [] := va_S.rf
  have hl := lv_entry ([.ref (a o), .int p1, .int p2, .int p3, .ref b]) (n := 6) (Nat.le_of_ble_eq_true rfl)
  rw [lg_entry_eq]
  generalize (lg_sl ([.ref (a o), .int p1, .int p2, .int p3, .ref b]) ++ List.replicate (6 - (lg_sl ([.ref (a o), .int p1, .int p2, .int p3, .ref b])).length) Slot.unset).toArray = ls at hl ⊢
  have hl : lv_has ls 6 [(0, .ref (a o)), (1, .int p1), (2, .int p2), (3, .int p3), (4, .ref b)] := hl
  refine lv_aload hx hb dL_neededMark_0 (lv_at hl 4 rfl) ?_
  refine lv_iconst (v := (0 : Int32)) hx hb dL_neededMark_2 (by decide) ?_
  refine lv_aload_n hx hb dL_neededMark_3 rfl (lv_at hl 0 rfl) ?_
  refine lv_iload_n hx hb dL_neededMark_4 rfl (lv_at hl 1 rfl) ?_
  refine lv_iload_n hx hb dL_neededMark_5 rfl (lv_at hl 2 rfl) ?_
  refine lv_iload_n hx hb dL_neededMark_6 rfl (lv_at hl 3 rfl) ?_
  rcases h with ⟨v, e1, rfl⟩ | ⟨i, n, e1, e2, rfl⟩
  · refine tcNi (x0 := v) hG hX hP hD hS hA (pmR cy a o b S f) (fun h1 h2 => vx_runV (As := [.int p1, .int p2, .int p3]) (rest := [.int 0, .ref b]) ⟨hx, hb, hml, hown, hts⟩ (qX11_neededMark l hl9 D cy tt a o (gX11_now S) p1 p2 p3 (s.heap).size (Sum.inr v) e1) (cwV 3 hts gL_neededMark_X11_neededMark rfl rfl rfl (by decide +kernel) ⟨Nat.le_of_ble_eq_true rfl, Nat.le_of_ble_eq_true rfl⟩) ⟨h1, va_recv hK hP (ci := 11) (q0 := 1) rfl rfl, h2⟩ rfl rfl hl.1 rfl (lv_room (Nat.le_of_ble_eq_true rfl)) dL_neededMark_7 ⟨Nat.le_of_ble_eq_true rfl, Nat.le_of_ble_eq_true rfl⟩) (c2 := 5) (s2 := 30) rfl rfl (fun H locs hP hS => ?_)
    refine lv_i2l hx hb dL_neededMark_10 rfl ?_
    refine va_last (q0 := 0) (t0 := 3) hx hb hK hP hD hS rfl rfl (show vp_in (0 : Int32) 1 by unfold vp_in; decide) dL_neededMark_11 (fun H locs hP hD hS => ?_)
    refine lv_goto (tgt := 27) hx hb dL_neededMark_12 (by decide) ?_
    refine lv_iconst (v := (0 : Int32)) hx hb dL_neededMark_27 (by decide) ?_
    refine vx_ret (W.widen (k := 5) (n := 30) (by decide) (by decide) ?_)
    exact W.iret (v := (0 : Int32)) hx hb hr (fun t ht hW => ⟨⟨(0 : Int32), (S, vp_updL f 0 v.toInt64), rfl, rfl, by rw [ht]; exact hP, hD⟩, hS.F ht⟩) hS.2.2 dL_neededMark_28
  · refine tcT (R0 := Int32) (fun st v t q => by obtain ⟨⟨r, u, -, hu, -⟩, -⟩ := q; cases hu) hG hX hP hD hS hA (pmR cy a o b S f) (fun h1 h2 => vx_runV (As := [.int p1, .int p2, .int p3]) (rest := [.int 0, .ref b]) ⟨hx, hb, hml, hown, hts⟩ (qX11_neededMark l hl9 D cy tt a o (gX11_now S) p1 p2 p3 (s.heap).size (Sum.inl n) e1) (cwV 3 hts gL_neededMark_X11_neededMark rfl rfl rfl (by decide +kernel) ⟨Nat.le_of_ble_eq_true rfl, Nat.le_of_ble_eq_true rfl⟩) ⟨h1, va_recv hK hP (ci := 11) (q0 := 1) rfl rfl, h2⟩ rfl rfl hl.1 rfl (lv_room (Nat.le_of_ble_eq_true rfl)) dL_neededMark_7 ⟨Nat.le_of_ble_eq_true rfl, Nat.le_of_ble_eq_true rfl⟩) (fun ce q9 H locs hP hS hce hcv hcl => ?_)
    match i, e2 with
    | 0, e2 =>
      cases Option.some.inj e2
      refine vx_catch hown [] ⟨0, 12, 15, 21⟩ [⟨0, 12, 19, 13⟩, ⟨0, 12, 23, 15⟩] (htab.trans rfl) (fun z hz => nomatch hz) rfl (by decide) (hts (.classLink RL 21 "java/lang/IndexOutOfBoundsException") (by decide +kernel)) (cast_w hG).2.2 hce hcv hcl ?_
      refine lv_astore (lv' := [(5, .ref q9), (0, .ref (a o)), (1, .int p1), (2, .int p2), (3, .int p3), (4, .ref b)]) hx hb dL_neededMark_15 hl (by decide) rfl (fun ls hl => ?_)
      refine lv_iconst (v := (1 : Int32)) hx hb dL_neededMark_17 (by decide) ?_
      refine vx_ret (W.widen (k := 5) (n := 30) (by decide) (by decide) ?_)
      exact W.iret (v := (1 : Int32)) hx hb hr (fun t ht hW => ⟨⟨(1 : Int32), (S, f), rfl, rfl, by rw [ht]; exact hP, hD⟩, hS.F ht⟩) hS.2.2 dL_neededMark_18
    | 1, e2 =>
      cases Option.some.inj e2
      refine vx_catch hown [⟨0, 12, 15, 21⟩] ⟨0, 12, 19, 13⟩ [⟨0, 12, 23, 15⟩] (htab.trans rfl) (fun z hz => by cases List.mem_singleton.mp hz; exact Or.inr ⟨by decide, "java/lang/IndexOutOfBoundsException", hts (.classLink RL 21 "java/lang/IndexOutOfBoundsException") (by decide +kernel), hN.1⟩) rfl (by decide) (hts (.classLink RL 13 "java/lang/IllegalArgumentException") (by decide +kernel)) (cast_w hG).1 hce hcv hcl ?_
      refine lv_astore (lv' := [(5, .ref q9), (0, .ref (a o)), (1, .int p1), (2, .int p2), (3, .int p3), (4, .ref b)]) hx hb dL_neededMark_19 hl (by decide) rfl (fun ls hl => ?_)
      refine lv_iconst (v := (2 : Int32)) hx hb dL_neededMark_21 (by decide) ?_
      refine vx_ret (W.widen (k := 5) (n := 30) (by decide) (by decide) ?_)
      exact W.iret (v := (2 : Int32)) hx hb hr (fun t ht hW => ⟨⟨(2 : Int32), (S, f), rfl, rfl, by rw [ht]; exact hP, hD⟩, hS.F ht⟩) hS.2.2 dL_neededMark_22
    | 2, e2 =>
      cases Option.some.inj e2
      refine vx_catch hown [⟨0, 12, 15, 21⟩, ⟨0, 12, 19, 13⟩] ⟨0, 12, 23, 15⟩ [] (htab.trans rfl) (fun z hz => by
        rcases List.mem_cons.mp hz with hz | hz
        · cases hz; exact Or.inr ⟨by decide, "java/lang/IndexOutOfBoundsException", hts (.classLink RL 21 "java/lang/IndexOutOfBoundsException") (by decide +kernel), hN.2.1⟩
        · cases List.mem_singleton.mp hz; exact Or.inr ⟨by decide, "java/lang/IllegalArgumentException", hts (.classLink RL 13 "java/lang/IllegalArgumentException") (by decide +kernel), hN.2.2⟩) rfl (by decide) (hts (.classLink RL 15 "java/lang/IllegalStateException") (by decide +kernel)) (cast_w hG).2.1 hce hcv hcl ?_
      refine lv_astore (lv' := [(5, .ref q9), (0, .ref (a o)), (1, .int p1), (2, .int p2), (3, .int p3), (4, .ref b)]) hx hb dL_neededMark_23 hl (by decide) rfl (fun ls hl => ?_)
      refine lv_iconst (v := (3 : Int32)) hx hb dL_neededMark_25 (by decide) ?_
      refine vx_ret (W.widen (k := 5) (n := 30) (by decide) (by decide) ?_)
      exact W.iret (v := (3 : Int32)) hx hb hr (fun t ht hW => ⟨⟨(3 : Int32), (S, f), rfl, rfl, by rw [ht]; exact hP, hD⟩, hS.F ht⟩) hS.2.2 dL_neededMark_26
    | i + 3, e2 => cases e2
