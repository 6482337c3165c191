theorem pmO (cy : Nat → ClassId) (a : Nat → Nat) (o b : Nat) (T : SX11) (g : Nat → Int64) : (oC cy b g :: wX11 cy a o T).Perm (wX11 cy a o T ++ [oC cy b g]) := List.perm_append_comm (l₁ := [oC cy b g]) (l₂ := wX11 cy a o T)
theorem pmR (cy : Nat → ClassId) (a : Nat → Nat) (o b : Nat) (T : SX11) (g : Nat → Int64) : (oC cy b g :: wX11 cy a o T).Perm (wX11n cy a o (gX11_now T) ++ ((wX5 cy a (o + 54) (gX11_records T) ++ wX8 cy a (o + 268) (gX11_text T)) ++ [oC cy b g])) := by
  have e : wX11 cy a o T = wX11n cy a o (gX11_now T) ++ (wX5 cy a (o + 54) (gX11_records T) ++ wX8 cy a (o + 268) (gX11_text T)) := by
    simp only [wX11, wX11n, List.append_assoc]
    rfl
  have h := pmO cy a o b T g
  rw [e, List.append_assoc] at h
  rw [e]
  exact h
/-- what a wrapper answers: of a call that reads; that judges; that tells a boolean -/
def wrR (xs : List Nat) (S : SX11) (f : Nat → Int64) (x : Option (Nat ⊕ Int32)) (res : Int32 × (SX11 × (Nat → Int64))) : Prop :=
  (∃ v, x = some (Sum.inr v) ∧ res = (iI 0, (S, vp_updL f 0 v.toInt64))) ∨ ∃ (i n : Nat), x = some (Sum.inl n) ∧ xs[i]? = some n ∧ res = (iI ((i : Int) + 1), (S, f))
def wrW (xs : List Nat) (S : SX11) (f : Nat → Int64) (x : Option (Nat ⊕ (Int32 × SX0))) (res : Int32 × (SX11 × (Nat → Int64))) : Prop :=
  (∃ v T, x = some (Sum.inr (v, T)) ∧ res = (iI 0, (uX11_now S T, vp_updL f 0 v.toInt64))) ∨ ∃ (i n : Nat), x = some (Sum.inl n) ∧ xs[i]? = some n ∧ res = (iI ((i : Int) + 1), (S, f))
def wrB (xs : List Nat) (S : SX11) (f : Nat → Int64) (x : Option (Nat ⊕ (Int32 × SX11))) (res : Int32 × (SX11 × (Nat → Int64))) : Prop :=
  (∃ v T, x = some (Sum.inr (v, T)) ∧ res = (iI 0, (T, vp_updL f 0 (if v = 0 then (0 : Int64) else 1)))) ∨ ∃ (i n : Nat), x = some (Sum.inl n) ∧ xs[i]? = some n ∧ res = (iI ((i : Int) + 1), (S, f))
theorem qL_addWork (l : Launch) (hl9 : l.stackTraces = false) (D : va_G) (cy : Nat → ClassId) (tt : Nat → Nat) (a : Nat → Nat) (o b : Nat) (S : SX11) (p1 : Int32) (p2 : Int32) (p3 : Int32) (f : Nat → Int64) (sz : Nat) (res : Int32 × (SX11 × (Nat → Int64))) (h : wrO [2, 3] S f (DX11_addWork S p1 p2 p3) res) : vx_Met l yL_addWork wsL_addWork ({ frames := 8, cells := 4, slots := 24, locals := 229 } : Room) (lP D cy tt sz [.ref (a o), .int p1, .int p2, .int p3, .ref b] (oC cy b f :: wX11 cy a o S)) (va_Qi (fun r (u : SX11 × (Nat → Int64)) => (r, u) = res) (fun u t => mB D sz (oC cy b f :: wX11 cy a o S) (oC cy b u.2 :: wX11 cy a o u.1) t) (va_A (oC cy b f :: wX11 cy a o S) sz)) (fun _ _ _ => False) 4 24 (va_A (oC cy b f :: wX11 cy a o S) sz) := by
  refine vx_ofWH (cc := cL_addWork) (maxL := 6) (ret := (some .int)) (by decide) rfl ?_
  intro p e s m args below meth c s₁ B hml hv
  obtain ⟨rfl, hsz, hP, hG, hD0, hX, hN⟩ := hv
  have hx := B.exec
  have hb := B.bytes
  have hr := B.returns
  have hts := atoms_spec (ws := wsL_addWork) B.pre
  have hown : s.vm.findClass RL = some m.cls := findClass_of_methodNamed B.named
  have hlocks := B.notSynchronized
  have htab := vx_table (x := yL_addWork) B (hts _ List.mem_cons_self)
  have hK := hG.1
  subst hsz
  have hD := hD0.self (sz := s.heap.size)
  have hA : ∀ q : Nat, s.heap.size ≤ q → (va_A (oC cy b f :: wX11 cy a o S) s.heap.size) q := fun q h => Or.inr h
  have hS : va_S (va_A (oC cy b f :: wX11 cy a o S) s.heap.size) s.heap s.heap [] := va_S.rf
  have hl := lv_entry ([.ref (a o), .int p1, .int p2, .int p3, .ref b]) (n := 6) (Nat.le_of_ble_eq_true rfl)
  rw [lg_entry_eq]
  generalize (lg_sl ([.ref (a o), .int p1, .int p2, .int p3, .ref b]) ++ List.replicate (6 - (lg_sl ([.ref (a o), .int p1, .int p2, .int p3, .ref b])).length) Slot.unset).toArray = ls at hl ⊢
  have hl : lv_has ls 6 [(0, .ref (a o)), (1, .int p1), (2, .int p2), (3, .int p3), (4, .ref b)] := hl
  refine lv_aload hx hb dL_addWork_0 (lv_at hl 4 rfl) ?_
  refine lv_iconst (v := (0 : Int32)) hx hb dL_addWork_2 (by decide) ?_
  refine lv_aload_n hx hb dL_addWork_3 rfl (lv_at hl 0 rfl) ?_
  refine lv_iload_n hx hb dL_addWork_4 rfl (lv_at hl 1 rfl) ?_
  refine lv_iload_n hx hb dL_addWork_5 rfl (lv_at hl 2 rfl) ?_
  refine lv_iload_n hx hb dL_addWork_6 rfl (lv_at hl 3 rfl) ?_
  rcases h with ⟨v, T, e1, rfl⟩ | ⟨i, n, e1, e2, rfl⟩
  · refine tcNm (x0 := (v, T)) (wf := fun T => wX11 cy a o T) (ws' := oC cy b f :: wX11 cy a o T) hG hX hP hD hS hA (pmO cy a o b S f) (pmO cy a o b T f) (fun h1 h2 => vx_runV (As := [.int p1, .int p2, .int p3]) (rest := [.int 0, .ref b]) ⟨hx, hb, hml, hown, hts⟩ (qX11_addWork l hl9 D cy tt a o S p1 p2 p3 (s.heap).size (Sum.inr (v, T)) e1) (cwV 3 hts gL_addWork_X11_addWork rfl rfl rfl (by decide +kernel) ⟨Nat.le_of_ble_eq_true rfl, Nat.le_of_ble_eq_true rfl⟩) ⟨h1, va_recv hK hP (ci := 11) (q0 := 1) rfl rfl, h2⟩ rfl rfl hl.1 rfl (lv_room (Nat.le_of_ble_eq_true rfl)) dL_addWork_7 ⟨Nat.le_of_ble_eq_true rfl, Nat.le_of_ble_eq_true rfl⟩) (c2 := 4) (s2 := 24) rfl rfl (fun H locs hP hD hS => ?_)
    refine lv_i2l hx hb dL_addWork_10 rfl ?_
    refine va_last (q0 := 0) (t0 := 3) hx hb hK hP hD hS rfl rfl (show vp_in (0 : Int32) 1 by unfold vp_in; decide) dL_addWork_11 (fun H locs hP hD hS => ?_)
    refine lv_goto (tgt := 23) hx hb dL_addWork_12 (by decide) ?_
    refine lv_iconst (v := (0 : Int32)) hx hb dL_addWork_23 (by decide) ?_
    refine vx_ret (W.widen (k := 4) (n := 24) (by decide) (by decide) ?_)
    exact W.iret (v := (0 : Int32)) hx hb hr (fun t ht hW => ⟨⟨(0 : Int32), (T, vp_updL f 0 v.toInt64), rfl, rfl, by rw [ht]; exact hP, hD⟩, hS.F ht⟩) hS.2.2 dL_addWork_24
  · refine tcT (R0 := Int32 × SX11) (fun st v t q => by obtain ⟨⟨r, u, -, hu, -⟩, -⟩ := q; cases hu) hG hX hP hD hS hA (pmO cy a o b S f) (fun h1 h2 => vx_runV (As := [.int p1, .int p2, .int p3]) (rest := [.int 0, .ref b]) ⟨hx, hb, hml, hown, hts⟩ (qX11_addWork l hl9 D cy tt a o S p1 p2 p3 (s.heap).size (Sum.inl n) e1) (cwV 3 hts gL_addWork_X11_addWork rfl rfl rfl (by decide +kernel) ⟨Nat.le_of_ble_eq_true rfl, Nat.le_of_ble_eq_true rfl⟩) ⟨h1, va_recv hK hP (ci := 11) (q0 := 1) rfl rfl, h2⟩ rfl rfl hl.1 rfl (lv_room (Nat.le_of_ble_eq_true rfl)) dL_addWork_7 ⟨Nat.le_of_ble_eq_true rfl, Nat.le_of_ble_eq_true rfl⟩) (fun ce q9 H locs hP hS hce hcv hcl => ?_)
    match i, e2 with
    | 0, e2 =>
      cases Option.some.inj e2
      refine vx_catch hown [] ⟨0, 12, 15, 13⟩ [⟨0, 12, 19, 15⟩] (htab.trans rfl) (fun z hz => nomatch hz) rfl (by decide) (hts (.classLink RL 13 "java/lang/IllegalArgumentException") (by decide +kernel)) (cast_w hG).1 hce hcv hcl ?_
      refine lv_astore (lv' := [(5, .ref q9), (0, .ref (a o)), (1, .int p1), (2, .int p2), (3, .int p3), (4, .ref b)]) hx hb dL_addWork_15 hl (by decide) rfl (fun ls hl => ?_)
      refine lv_iconst (v := (1 : Int32)) hx hb dL_addWork_17 (by decide) ?_
      refine vx_ret (W.widen (k := 4) (n := 24) (by decide) (by decide) ?_)
      exact W.iret (v := (1 : Int32)) hx hb hr (fun t ht hW => ⟨⟨(1 : Int32), (S, f), rfl, rfl, by rw [ht]; exact hP, hD⟩, hS.F ht⟩) hS.2.2 dL_addWork_18
    | 1, e2 =>
      cases Option.some.inj e2
      refine vx_catch hown [⟨0, 12, 15, 13⟩] ⟨0, 12, 19, 15⟩ [] (htab.trans rfl) (fun z hz => by cases List.mem_singleton.mp hz; exact Or.inr ⟨by decide, "java/lang/IllegalArgumentException", hts (.classLink RL 13 "java/lang/IllegalArgumentException") (by decide +kernel), hN.2.2⟩) rfl (by decide) (hts (.classLink RL 15 "java/lang/IllegalStateException") (by decide +kernel)) (cast_w hG).2.1 hce hcv hcl ?_
      refine lv_astore (lv' := [(5, .ref q9), (0, .ref (a o)), (1, .int p1), (2, .int p2), (3, .int p3), (4, .ref b)]) hx hb dL_addWork_19 hl (by decide) rfl (fun ls hl => ?_)
      refine lv_iconst (v := (2 : Int32)) hx hb dL_addWork_21 (by decide) ?_
      refine vx_ret (W.widen (k := 4) (n := 24) (by decide) (by decide) ?_)
      exact W.iret (v := (2 : Int32)) hx hb hr (fun t ht hW => ⟨⟨(2 : Int32), (S, f), rfl, rfl, by rw [ht]; exact hP, hD⟩, hS.F ht⟩) hS.2.2 dL_addWork_22
    | i + 2, e2 => cases e2
theorem qL_bar (l : Launch) (hl9 : l.stackTraces = false) (D : va_G) (cy : Nat → ClassId) (tt : Nat → Nat) (a : Nat → Nat) (o b : Nat) (S : SX11) (p1 : Int32) (p2 : Int32) (p3 : Int32) (f : Nat → Int64) (sz : Nat) (res : Int32 × (SX11 × (Nat → Int64))) (h : wrB [1] S f (DX11_bar S p1 p2 p3) res) : vx_Met l yL_bar wsL_bar ({ frames := 10, cells := 2, slots := 12, locals := 230 } : Room) (lP D cy tt sz [.ref (a o), .int p1, .int p2, .int p3, .ref b] (oC cy b f :: wX11 cy a o S)) (va_Qi (fun r (u : SX11 × (Nat → Int64)) => (r, u) = res) (fun u t => mB D sz (oC cy b f :: wX11 cy a o S) (oC cy b u.2 :: wX11 cy a o u.1) t) (va_A (oC cy b f :: wX11 cy a o S) sz)) (fun _ _ _ => False) 2 12 (va_A (oC cy b f :: wX11 cy a o S) sz) := by
  refine vx_ofWH (cc := cL_bar) (maxL := 6) (ret := (some .int)) (by decide) rfl ?_
  intro p e s m args below meth c s₁ B hml hv
  obtain ⟨rfl, hsz, hP, hG, hD0, hX, hN⟩ := hv
  have hx := B.exec
  have hb := B.bytes
  have hr := B.returns
  have hts := atoms_spec (ws := wsL_bar) B.pre
  have hown : s.vm.findClass RL = some m.cls := findClass_of_methodNamed B.named
  have hlocks := B.notSynchronized
  have htab := vx_table (x := yL_bar) B (hts _ List.mem_cons_self)
  have hK := hG.1
  subst hsz
  have hD := hD0.self (sz := s.heap.size)
  have hA : ∀ q : Nat, s.heap.size ≤ q → (va_A (oC cy b f :: wX11 cy a o S) s.heap.size) q := fun q h => Or.inr h
  have hS : va_S (va_A (oC cy b f :: wX11 cy a o S) s.heap.size) s.heap s.heap [] := va_S.rf
  have hl := lv_entry ([.ref (a o), .int p1, .int p2, .int p3, .ref b]) (n := 6) (Nat.le_of_ble_eq_true rfl)
  rw [lg_entry_eq]
  generalize (lg_sl ([.ref (a o), .int p1, .int p2, .int p3, .ref b]) ++ List.replicate (6 - (lg_sl ([.ref (a o), .int p1, .int p2, .int p3, .ref b])).length) Slot.unset).toArray = ls at hl ⊢
  have hl : lv_has ls 6 [(0, .ref (a o)), (1, .int p1), (2, .int p2), (3, .int p3), (4, .ref b)] := hl
  refine lv_aload hx hb dL_bar_0 (lv_at hl 4 rfl) ?_
  refine lv_iconst (v := (0 : Int32)) hx hb dL_bar_2 (by decide) ?_
  refine lv_aload_n hx hb dL_bar_3 rfl (lv_at hl 0 rfl) ?_
  refine lv_iload_n hx hb dL_bar_4 rfl (lv_at hl 1 rfl) ?_
  refine lv_iload_n hx hb dL_bar_5 rfl (lv_at hl 2 rfl) ?_
  refine lv_iload_n hx hb dL_bar_6 rfl (lv_at hl 3 rfl) ?_
  rcases h with ⟨v, T, e1, rfl⟩ | ⟨i, n, e1, e2, rfl⟩
  · refine tcNm (x0 := (v, T)) (wf := fun T => wX11 cy a o T) (ws' := oC cy b f :: wX11 cy a o T) hG hX hP hD hS hA (pmO cy a o b S f) (pmO cy a o b T f) (fun h1 h2 => vx_runV (As := [.int p1, .int p2, .int p3]) (rest := [.int 0, .ref b]) ⟨hx, hb, hml, hown, hts⟩ (qX11_bar l hl9 D cy tt a o S p1 p2 p3 (s.heap).size (Sum.inr (v, T)) e1) (cwV 3 hts gL_bar_X11_bar rfl rfl rfl (by decide +kernel) ⟨Nat.le_of_ble_eq_true rfl, Nat.le_of_ble_eq_true rfl⟩) ⟨h1, va_recv hK hP (ci := 11) (q0 := 1) rfl rfl, h2⟩ rfl rfl hl.1 rfl (lv_room (Nat.le_of_ble_eq_true rfl)) dL_bar_7 ⟨Nat.le_of_ble_eq_true rfl, Nat.le_of_ble_eq_true rfl⟩) (c2 := 2) (s2 := 12) rfl rfl (fun H locs hP hD hS => ?_)
    refine lv_if_eq (tgt := 17) hx hb dL_bar_10 (by decide) (fun cc => ?_) (fun cc => ?_)
    · refine lv_lconst (v := (0 : Int64)) hx hb dL_bar_17 (by decide) ?_
      rw [show (if v = 0 then (0 : Int64) else 1) = 0 from if_pos cc]
      refine va_last (q0 := 0) (t0 := 3) hx hb hK hP hD hS rfl rfl (show vp_in (0 : Int32) 1 by unfold vp_in; decide) dL_bar_18 (fun H locs hP hD hS => ?_)
      refine lv_goto (tgt := 26) hx hb dL_bar_19 (by decide) ?_
      refine lv_iconst (v := (0 : Int32)) hx hb dL_bar_26 (by decide) ?_
      refine vx_ret (W.widen (k := 2) (n := 12) (by decide) (by decide) ?_)
      exact W.iret (v := (0 : Int32)) hx hb hr (fun t ht hW => ⟨⟨(0 : Int32), (T, vp_updL f 0 (0 : Int64)), rfl, rfl, by rw [ht]; exact hP, hD⟩, hS.F ht⟩) hS.2.2 dL_bar_27
    · refine lv_lconst (v := (1 : Int64)) hx hb dL_bar_13 (by decide) ?_
      refine lv_goto (tgt := 18) hx hb dL_bar_14 (by decide) ?_
      rw [show (if v = 0 then (0 : Int64) else 1) = 1 from if_neg cc]
      refine va_last (q0 := 0) (t0 := 3) hx hb hK hP hD hS rfl rfl (show vp_in (0 : Int32) 1 by unfold vp_in; decide) dL_bar_18 (fun H locs hP hD hS => ?_)
      refine lv_goto (tgt := 26) hx hb dL_bar_19 (by decide) ?_
      refine lv_iconst (v := (0 : Int32)) hx hb dL_bar_26 (by decide) ?_
      refine vx_ret (W.widen (k := 2) (n := 12) (by decide) (by decide) ?_)
      exact W.iret (v := (0 : Int32)) hx hb hr (fun t ht hW => ⟨⟨(0 : Int32), (T, vp_updL f 0 (1 : Int64)), rfl, rfl, by rw [ht]; exact hP, hD⟩, hS.F ht⟩) hS.2.2 dL_bar_27
  · refine tcT (R0 := Int32 × SX11) (fun st v t q => by obtain ⟨⟨r, u, -, hu, -⟩, -⟩ := q; cases hu) hG hX hP hD hS hA (pmO cy a o b S f) (fun h1 h2 => vx_runV (As := [.int p1, .int p2, .int p3]) (rest := [.int 0, .ref b]) ⟨hx, hb, hml, hown, hts⟩ (qX11_bar l hl9 D cy tt a o S p1 p2 p3 (s.heap).size (Sum.inl n) e1) (cwV 3 hts gL_bar_X11_bar rfl rfl rfl (by decide +kernel) ⟨Nat.le_of_ble_eq_true rfl, Nat.le_of_ble_eq_true rfl⟩) ⟨h1, va_recv hK hP (ci := 11) (q0 := 1) rfl rfl, h2⟩ rfl rfl hl.1 rfl (lv_room (Nat.le_of_ble_eq_true rfl)) dL_bar_7 ⟨Nat.le_of_ble_eq_true rfl, Nat.le_of_ble_eq_true rfl⟩) (fun ce q9 H locs hP hS hce hcv hcl => ?_)
    match i, e2 with
    | 0, e2 =>
      cases Option.some.inj e2
      refine vx_catch hown [] ⟨0, 19, 22, 21⟩ [] (htab.trans rfl) (fun z hz => nomatch hz) rfl (by decide) (hts (.classLink RL 21 "java/lang/IndexOutOfBoundsException") (by decide +kernel)) (cast_w hG).2.2 hce hcv hcl ?_
      refine lv_astore (lv' := [(5, .ref q9), (0, .ref (a o)), (1, .int p1), (2, .int p2), (3, .int p3), (4, .ref b)]) hx hb dL_bar_22 hl (by decide) rfl (fun ls hl => ?_)
      refine lv_iconst (v := (1 : Int32)) hx hb dL_bar_24 (by decide) ?_
      refine vx_ret (W.widen (k := 2) (n := 12) (by decide) (by decide) ?_)
      exact W.iret (v := (1 : Int32)) hx hb hr (fun t ht hW => ⟨⟨(1 : Int32), (S, f), rfl, rfl, by rw [ht]; exact hP, hD⟩, hS.F ht⟩) hS.2.2 dL_bar_25
    | i + 1, e2 => cases e2
theorem qL_set (l : Launch) (hl9 : l.stackTraces = false) (D : va_G) (cy : Nat → ClassId) (tt : Nat → Nat) (a : Nat → Nat) (o b : Nat) (S : SX11) (p1 : Int32) (p2 : Int32) (f : Nat → Int64) (sz : Nat) (res : Int32 × (SX11 × (Nat → Int64))) (h : wrO [2, 3] S f (DX11_set S p1 p2) res) : vx_Met l yL_set wsL_set ({ frames := 8, cells := 3, slots := 18, locals := 229 } : Room) (lP D cy tt sz [.ref (a o), .int p1, .int p2, .ref b] (oC cy b f :: wX11 cy a o S)) (va_Qi (fun r (u : SX11 × (Nat → Int64)) => (r, u) = res) (fun u t => mB D sz (oC cy b f :: wX11 cy a o S) (oC cy b u.2 :: wX11 cy a o u.1) t) (va_A (oC cy b f :: wX11 cy a o S) sz)) (fun _ _ _ => False) 3 18 (va_A (oC cy b f :: wX11 cy a o S) sz) := by
  refine vx_ofWH (cc := cL_set) (maxL := 5) (ret := (some .int)) (by decide) rfl ?_
  intro p e s m args below meth c s₁ B hml hv
  obtain ⟨rfl, hsz, hP, hG, hD0, hX, hN⟩ := hv
  have hx := B.exec
  have hb := B.bytes
  have hr := B.returns
  have hts := atoms_spec (ws := wsL_set) B.pre
  have hown : s.vm.findClass RL = some m.cls := findClass_of_methodNamed B.named
  have hlocks := B.notSynchronized
  have htab := vx_table (x := yL_set) B (hts _ List.mem_cons_self)
  have hK := hG.1
  subst hsz
  have hD := hD0.self (sz := s.heap.size)
  have hA : ∀ q : Nat, s.heap.size ≤ q → (va_A (oC cy b f :: wX11 cy a o S) s.heap.size) q := fun q h => Or.inr h
  have hS : va_S (va_A (oC cy b f :: wX11 cy a o S) s.heap.size) s.heap s.heap [] := va_S.rf
  have hl := lv_entry ([.ref (a o), .int p1, .int p2, .ref b]) (n := 5) (Nat.le_of_ble_eq_true rfl)
  rw [lg_entry_eq]
  generalize (lg_sl ([.ref (a o), .int p1, .int p2, .ref b]) ++ List.replicate (5 - (lg_sl ([.ref (a o), .int p1, .int p2, .ref b])).length) Slot.unset).toArray = ls at hl ⊢
  have hl : lv_has ls 5 [(0, .ref (a o)), (1, .int p1), (2, .int p2), (3, .ref b)] := hl
  refine lv_aload_n hx hb dL_set_0 rfl (lv_at hl 3 rfl) ?_
  refine lv_iconst (v := (0 : Int32)) hx hb dL_set_1 (by decide) ?_
  refine lv_aload_n hx hb dL_set_2 rfl (lv_at hl 0 rfl) ?_
  refine lv_iload_n hx hb dL_set_3 rfl (lv_at hl 1 rfl) ?_
  refine lv_iload_n hx hb dL_set_4 rfl (lv_at hl 2 rfl) ?_
  rcases h with ⟨v, T, e1, rfl⟩ | ⟨i, n, e1, e2, rfl⟩
  · refine tcNm (x0 := (v, T)) (wf := fun T => wX11 cy a o T) (ws' := oC cy b f :: wX11 cy a o T) hG hX hP hD hS hA (pmO cy a o b S f) (pmO cy a o b T f) (fun h1 h2 => vx_runV (As := [.int p1, .int p2]) (rest := [.int 0, .ref b]) ⟨hx, hb, hml, hown, hts⟩ (qX11_set l hl9 D cy tt a o S p1 p2 (s.heap).size (Sum.inr (v, T)) e1) (cwV 2 hts gL_set_X11_set rfl rfl rfl (by decide +kernel) ⟨Nat.le_of_ble_eq_true rfl, Nat.le_of_ble_eq_true rfl⟩) ⟨h1, va_recv hK hP (ci := 11) (q0 := 1) rfl rfl, h2⟩ rfl rfl hl.1 rfl (lv_room (Nat.le_of_ble_eq_true rfl)) dL_set_5 ⟨Nat.le_of_ble_eq_true rfl, Nat.le_of_ble_eq_true rfl⟩) (c2 := 3) (s2 := 18) rfl rfl (fun H locs hP hD hS => ?_)
    refine lv_i2l hx hb dL_set_8 rfl ?_
    refine va_last (q0 := 0) (t0 := 3) hx hb hK hP hD hS rfl rfl (show vp_in (0 : Int32) 1 by unfold vp_in; decide) dL_set_9 (fun H locs hP hD hS => ?_)
    refine lv_goto (tgt := 21) hx hb dL_set_10 (by decide) ?_
    refine lv_iconst (v := (0 : Int32)) hx hb dL_set_21 (by decide) ?_
    refine vx_ret (W.widen (k := 3) (n := 18) (by decide) (by decide) ?_)
    exact W.iret (v := (0 : Int32)) hx hb hr (fun t ht hW => ⟨⟨(0 : Int32), (T, vp_updL f 0 v.toInt64), rfl, rfl, by rw [ht]; exact hP, hD⟩, hS.F ht⟩) hS.2.2 dL_set_22
  · refine tcT (R0 := Int32 × SX11) (fun st v t q => by obtain ⟨⟨r, u, -, hu, -⟩, -⟩ := q; cases hu) hG hX hP hD hS hA (pmO cy a o b S f) (fun h1 h2 => vx_runV (As := [.int p1, .int p2]) (rest := [.int 0, .ref b]) ⟨hx, hb, hml, hown, hts⟩ (qX11_set l hl9 D cy tt a o S p1 p2 (s.heap).size (Sum.inl n) e1) (cwV 2 hts gL_set_X11_set rfl rfl rfl (by decide +kernel) ⟨Nat.le_of_ble_eq_true rfl, Nat.le_of_ble_eq_true rfl⟩) ⟨h1, va_recv hK hP (ci := 11) (q0 := 1) rfl rfl, h2⟩ rfl rfl hl.1 rfl (lv_room (Nat.le_of_ble_eq_true rfl)) dL_set_5 ⟨Nat.le_of_ble_eq_true rfl, Nat.le_of_ble_eq_true rfl⟩) (fun ce q9 H locs hP hS hce hcv hcl => ?_)
    match i, e2 with
    | 0, e2 =>
      cases Option.some.inj e2
      refine vx_catch hown [] ⟨0, 10, 13, 13⟩ [⟨0, 10, 17, 15⟩] (htab.trans rfl) (fun z hz => nomatch hz) rfl (by decide) (hts (.classLink RL 13 "java/lang/IllegalArgumentException") (by decide +kernel)) (cast_w hG).1 hce hcv hcl ?_
      refine lv_astore (lv' := [(4, .ref q9), (0, .ref (a o)), (1, .int p1), (2, .int p2), (3, .ref b)]) hx hb dL_set_13 hl (by decide) rfl (fun ls hl => ?_)
      refine lv_iconst (v := (1 : Int32)) hx hb dL_set_15 (by decide) ?_
      refine vx_ret (W.widen (k := 3) (n := 18) (by decide) (by decide) ?_)
      exact W.iret (v := (1 : Int32)) hx hb hr (fun t ht hW => ⟨⟨(1 : Int32), (S, f), rfl, rfl, by rw [ht]; exact hP, hD⟩, hS.F ht⟩) hS.2.2 dL_set_16
    | 1, e2 =>
      cases Option.some.inj e2
      refine vx_catch hown [⟨0, 10, 13, 13⟩] ⟨0, 10, 17, 15⟩ [] (htab.trans rfl) (fun z hz => by cases List.mem_singleton.mp hz; exact Or.inr ⟨by decide, "java/lang/IllegalArgumentException", hts (.classLink RL 13 "java/lang/IllegalArgumentException") (by decide +kernel), hN.2.2⟩) rfl (by decide) (hts (.classLink RL 15 "java/lang/IllegalStateException") (by decide +kernel)) (cast_w hG).2.1 hce hcv hcl ?_
      refine lv_astore (lv' := [(4, .ref q9), (0, .ref (a o)), (1, .int p1), (2, .int p2), (3, .ref b)]) hx hb dL_set_17 hl (by decide) rfl (fun ls hl => ?_)
      refine lv_iconst (v := (2 : Int32)) hx hb dL_set_19 (by decide) ?_
      refine vx_ret (W.widen (k := 3) (n := 18) (by decide) (by decide) ?_)
      exact W.iret (v := (2 : Int32)) hx hb hr (fun t ht hW => ⟨⟨(2 : Int32), (S, f), rfl, rfl, by rw [ht]; exact hP, hD⟩, hS.F ht⟩) hS.2.2 dL_set_20
    | i + 2, e2 => cases e2
theorem qL_setRule (l : Launch) (hl9 : l.stackTraces = false) (D : va_G) (cy : Nat → ClassId) (tt : Nat → Nat) (a : Nat → Nat) (o b : Nat) (S : SX11) (p1 : Int32) (p2 : Int32) (p3 : Int32) (f : Nat → Int64) (sz : Nat) (res : Int32 × (SX11 × (Nat → Int64))) (h : wrO [1, 2, 3] S f (DX11_setRule S p1 p2 p3) res) : vx_Met l yL_setRule wsL_setRule ({ frames := 9, cells := 4, slots := 24, locals := 230 } : Room) (lP D cy tt sz [.ref (a o), .int p1, .int p2, .int p3, .ref b] (oC cy b f :: wX11 cy a o S)) (va_Qi (fun r (u : SX11 × (Nat → Int64)) => (r, u) = res) (fun u t => mB D sz (oC cy b f :: wX11 cy a o S) (oC cy b u.2 :: wX11 cy a o u.1) t) (va_A (oC cy b f :: wX11 cy a o S) sz)) (fun _ _ _ => False) 4 24 (va_A (oC cy b f :: wX11 cy a o S) sz) := by
  refine vx_ofWH (cc := cL_setRule) (maxL := 6) (ret := (some .int)) (by decide) rfl ?_
  intro p e s m args below meth c s₁ B hml hv
  obtain ⟨rfl, hsz, hP, hG, hD0, hX, hN⟩ := hv
  have hx := B.exec
  have hb := B.bytes
  have hr := B.returns
  have hts := atoms_spec (ws := wsL_setRule) B.pre
  have hown : s.vm.findClass RL = some m.cls := findClass_of_methodNamed B.named
  have hlocks := B.notSynchronized
  have htab := vx_table (x := yL_setRule) B (hts _ List.mem_cons_self)
  have hK := hG.1
  subst hsz
  have hD := hD0.self (sz := s.heap.size)
  have hA : ∀ q : Nat, s.heap.size ≤ q → (va_A (oC cy b f :: wX11 cy a o S) s.heap.size) q := fun q h => Or.inr h
  have hS : va_S (va_A (oC cy b f :: wX11 cy a o S) s.heap.size) s.heap s.heap [] := va_S.rf
  have hl := lv_entry ([.ref (a o), .int p1, .int p2, .int p3, .ref b]) (n := 6) (Nat.le_of_ble_eq_true rfl)
  rw [lg_entry_eq]
  generalize (lg_sl ([.ref (a o), .int p1, .int p2, .int p3, .ref b]) ++ List.replicate (6 - (lg_sl ([.ref (a o), .int p1, .int p2, .int p3, .ref b])).length) Slot.unset).toArray = ls at hl ⊢
  have hl : lv_has ls 6 [(0, .ref (a o)), (1, .int p1), (2, .int p2), (3, .int p3), (4, .ref b)] := hl
  refine lv_aload hx hb dL_setRule_0 (lv_at hl 4 rfl) ?_
  refine lv_iconst (v := (0 : Int32)) hx hb dL_setRule_2 (by decide) ?_
  refine lv_aload_n hx hb dL_setRule_3 rfl (lv_at hl 0 rfl) ?_
  refine lv_iload_n hx hb dL_setRule_4 rfl (lv_at hl 1 rfl) ?_
  refine lv_iload_n hx hb dL_setRule_5 rfl (lv_at hl 2 rfl) ?_
  refine lv_iload_n hx hb dL_setRule_6 rfl (lv_at hl 3 rfl) ?_
  rcases h with ⟨v, T, e1, rfl⟩ | ⟨i, n, e1, e2, rfl⟩
  · refine tcNm (x0 := (v, T)) (wf := fun T => wX11 cy a o T) (ws' := oC cy b f :: wX11 cy a o T) hG hX hP hD hS hA (pmO cy a o b S f) (pmO cy a o b T f) (fun h1 h2 => vx_runV (As := [.int p1, .int p2, .int p3]) (rest := [.int 0, .ref b]) ⟨hx, hb, hml, hown, hts⟩ (qX11_setRule l hl9 D cy tt a o S p1 p2 p3 (s.heap).size (Sum.inr (v, T)) e1) (cwV 3 hts gL_setRule_X11_setRule rfl rfl rfl (by decide +kernel) ⟨Nat.le_of_ble_eq_true rfl, Nat.le_of_ble_eq_true rfl⟩) ⟨h1, va_recv hK hP (ci := 11) (q0 := 1) rfl rfl, h2⟩ rfl rfl hl.1 rfl (lv_room (Nat.le_of_ble_eq_true rfl)) dL_setRule_7 ⟨Nat.le_of_ble_eq_true rfl, Nat.le_of_ble_eq_true rfl⟩) (c2 := 4) (s2 := 24) rfl rfl (fun H locs hP hD hS => ?_)
    refine lv_i2l hx hb dL_setRule_10 rfl ?_
    refine va_last (q0 := 0) (t0 := 3) hx hb hK hP hD hS rfl rfl (show vp_in (0 : Int32) 1 by unfold vp_in; decide) dL_setRule_11 (fun H locs hP hD hS => ?_)
    refine lv_goto (tgt := 27) hx hb dL_setRule_12 (by decide) ?_
    refine lv_iconst (v := (0 : Int32)) hx hb dL_setRule_27 (by decide) ?_
    refine vx_ret (W.widen (k := 4) (n := 24) (by decide) (by decide) ?_)
    exact W.iret (v := (0 : Int32)) hx hb hr (fun t ht hW => ⟨⟨(0 : Int32), (T, vp_updL f 0 v.toInt64), rfl, rfl, by rw [ht]; exact hP, hD⟩, hS.F ht⟩) hS.2.2 dL_setRule_28
  · refine tcT (R0 := Int32 × SX11) (fun st v t q => by obtain ⟨⟨r, u, -, hu, -⟩, -⟩ := q; cases hu) hG hX hP hD hS hA (pmO cy a o b S f) (fun h1 h2 => vx_runV (As := [.int p1, .int p2, .int p3]) (rest := [.int 0, .ref b]) ⟨hx, hb, hml, hown, hts⟩ (qX11_setRule l hl9 D cy tt a o S p1 p2 p3 (s.heap).size (Sum.inl n) e1) (cwV 3 hts gL_setRule_X11_setRule rfl rfl rfl (by decide +kernel) ⟨Nat.le_of_ble_eq_true rfl, Nat.le_of_ble_eq_true rfl⟩) ⟨h1, va_recv hK hP (ci := 11) (q0 := 1) rfl rfl, h2⟩ rfl rfl hl.1 rfl (lv_room (Nat.le_of_ble_eq_true rfl)) dL_setRule_7 ⟨Nat.le_of_ble_eq_true rfl, Nat.le_of_ble_eq_true rfl⟩) (fun ce q9 H locs hP hS hce hcv hcl => ?_)
    match i, e2 with
    | 0, e2 =>
      cases Option.some.inj e2
      refine vx_catch hown [] ⟨0, 12, 15, 21⟩ [⟨0, 12, 19, 13⟩, ⟨0, 12, 23, 15⟩] (htab.trans rfl) (fun z hz => nomatch hz) rfl (by decide) (hts (.classLink RL 21 "java/lang/IndexOutOfBoundsException") (by decide +kernel)) (cast_w hG).2.2 hce hcv hcl ?_
      refine lv_astore (lv' := [(5, .ref q9), (0, .ref (a o)), (1, .int p1), (2, .int p2), (3, .int p3), (4, .ref b)]) hx hb dL_setRule_15 hl (by decide) rfl (fun ls hl => ?_)
      refine lv_iconst (v := (1 : Int32)) hx hb dL_setRule_17 (by decide) ?_
      refine vx_ret (W.widen (k := 4) (n := 24) (by decide) (by decide) ?_)
      exact W.iret (v := (1 : Int32)) hx hb hr (fun t ht hW => ⟨⟨(1 : Int32), (S, f), rfl, rfl, by rw [ht]; exact hP, hD⟩, hS.F ht⟩) hS.2.2 dL_setRule_18
    | 1, e2 =>
      cases Option.some.inj e2
      refine vx_catch hown [⟨0, 12, 15, 21⟩] ⟨0, 12, 19, 13⟩ [⟨0, 12, 23, 15⟩] (htab.trans rfl) (fun z hz => by cases List.mem_singleton.mp hz; exact Or.inr ⟨by decide, "java/lang/IndexOutOfBoundsException", hts (.classLink RL 21 "java/lang/IndexOutOfBoundsException") (by decide +kernel), hN.1⟩) rfl (by decide) (hts (.classLink RL 13 "java/lang/IllegalArgumentException") (by decide +kernel)) (cast_w hG).1 hce hcv hcl ?_
      refine lv_astore (lv' := [(5, .ref q9), (0, .ref (a o)), (1, .int p1), (2, .int p2), (3, .int p3), (4, .ref b)]) hx hb dL_setRule_19 hl (by decide) rfl (fun ls hl => ?_)
      refine lv_iconst (v := (2 : Int32)) hx hb dL_setRule_21 (by decide) ?_
      refine vx_ret (W.widen (k := 4) (n := 24) (by decide) (by decide) ?_)
      exact W.iret (v := (2 : Int32)) hx hb hr (fun t ht hW => ⟨⟨(2 : Int32), (S, f), rfl, rfl, by rw [ht]; exact hP, hD⟩, hS.F ht⟩) hS.2.2 dL_setRule_22
    | 2, e2 =>
      cases Option.some.inj e2
      refine vx_catch hown [⟨0, 12, 15, 21⟩, ⟨0, 12, 19, 13⟩] ⟨0, 12, 23, 15⟩ [] (htab.trans rfl) (fun z hz => by
        rcases List.mem_cons.mp hz with hz | hz
        · cases hz; exact Or.inr ⟨by decide, "java/lang/IndexOutOfBoundsException", hts (.classLink RL 21 "java/lang/IndexOutOfBoundsException") (by decide +kernel), hN.2.1⟩
        · cases List.mem_singleton.mp hz; exact Or.inr ⟨by decide, "java/lang/IllegalArgumentException", hts (.classLink RL 13 "java/lang/IllegalArgumentException") (by decide +kernel), hN.2.2⟩) rfl (by decide) (hts (.classLink RL 15 "java/lang/IllegalStateException") (by decide +kernel)) (cast_w hG).2.1 hce hcv hcl ?_
      refine lv_astore (lv' := [(5, .ref q9), (0, .ref (a o)), (1, .int p1), (2, .int p2), (3, .int p3), (4, .ref b)]) hx hb dL_setRule_23 hl (by decide) rfl (fun ls hl => ?_)
      refine lv_iconst (v := (3 : Int32)) hx hb dL_setRule_25 (by decide) ?_
      refine vx_ret (W.widen (k := 4) (n := 24) (by decide) (by decide) ?_)
      exact W.iret (v := (3 : Int32)) hx hb hr (fun t ht hW => ⟨⟨(3 : Int32), (S, f), rfl, rfl, by rw [ht]; exact hP, hD⟩, hS.F ht⟩) hS.2.2 dL_setRule_26
    | i + 3, e2 => cases e2
theorem qL_clearProgram (l : Launch) (hl9 : l.stackTraces = false) (D : va_G) (cy : Nat → ClassId) (tt : Nat → Nat) (a : Nat → Nat) (o b : Nat) (S : SX11) (p1 : Int32) (p2 : Int32) (f : Nat → Int64) (sz : Nat) (res : Int32 × (SX11 × (Nat → Int64))) (h : wrO [1] S f (DX11_clearProgram S p1 p2) res) : vx_Met l yL_clearProgram wsL_clearProgram ({ frames := 10, cells := 2, slots := 12, locals := 229 } : Room) (lP D cy tt sz [.ref (a o), .int p1, .int p2, .ref b] (oC cy b f :: wX11 cy a o S)) (va_Qi (fun r (u : SX11 × (Nat → Int64)) => (r, u) = res) (fun u t => mB D sz (oC cy b f :: wX11 cy a o S) (oC cy b u.2 :: wX11 cy a o u.1) t) (va_A (oC cy b f :: wX11 cy a o S) sz)) (fun _ _ _ => False) 2 12 (va_A (oC cy b f :: wX11 cy a o S) sz) := by
  refine vx_ofWH (cc := cL_clearProgram) (maxL := 5) (ret := (some .int)) (by decide) rfl ?_
  intro p e s m args below meth c s₁ B hml hv
  obtain ⟨rfl, hsz, hP, hG, hD0, hX, hN⟩ := hv
  have hx := B.exec
  have hb := B.bytes
  have hr := B.returns
  have hts := atoms_spec (ws := wsL_clearProgram) B.pre
  have hown : s.vm.findClass RL = some m.cls := findClass_of_methodNamed B.named
  have hlocks := B.notSynchronized
  have htab := vx_table (x := yL_clearProgram) B (hts _ List.mem_cons_self)
  have hK := hG.1
  subst hsz
  have hD := hD0.self (sz := s.heap.size)
  have hA : ∀ q : Nat, s.heap.size ≤ q → (va_A (oC cy b f :: wX11 cy a o S) s.heap.size) q := fun q h => Or.inr h
  have hS : va_S (va_A (oC cy b f :: wX11 cy a o S) s.heap.size) s.heap s.heap [] := va_S.rf
  have hl := lv_entry ([.ref (a o), .int p1, .int p2, .ref b]) (n := 5) (Nat.le_of_ble_eq_true rfl)
  rw [lg_entry_eq]
  generalize (lg_sl ([.ref (a o), .int p1, .int p2, .ref b]) ++ List.replicate (5 - (lg_sl ([.ref (a o), .int p1, .int p2, .ref b])).length) Slot.unset).toArray = ls at hl ⊢
  have hl : lv_has ls 5 [(0, .ref (a o)), (1, .int p1), (2, .int p2), (3, .ref b)] := hl
  refine lv_aload_n hx hb dL_clearProgram_0 rfl (lv_at hl 3 rfl) ?_
  refine lv_iconst (v := (0 : Int32)) hx hb dL_clearProgram_1 (by decide) ?_
  refine lv_aload_n hx hb dL_clearProgram_2 rfl (lv_at hl 0 rfl) ?_
  refine lv_iload_n hx hb dL_clearProgram_3 rfl (lv_at hl 1 rfl) ?_
  refine lv_iload_n hx hb dL_clearProgram_4 rfl (lv_at hl 2 rfl) ?_
  rcases h with ⟨v, T, e1, rfl⟩ | ⟨i, n, e1, e2, rfl⟩
  · refine tcNm (x0 := (v, T)) (wf := fun T => wX11 cy a o T) (ws' := oC cy b f :: wX11 cy a o T) hG hX hP hD hS hA (pmO cy a o b S f) (pmO cy a o b T f) (fun h1 h2 => vx_runV (As := [.int p1, .int p2]) (rest := [.int 0, .ref b]) ⟨hx, hb, hml, hown, hts⟩ (qX11_clearProgram l hl9 D cy tt a o S p1 p2 (s.heap).size (Sum.inr (v, T)) e1) (cwV 2 hts gL_clearProgram_X11_clearProgram rfl rfl rfl (by decide +kernel) ⟨Nat.le_of_ble_eq_true rfl, Nat.le_of_ble_eq_true rfl⟩) ⟨h1, va_recv hK hP (ci := 11) (q0 := 1) rfl rfl, h2⟩ rfl rfl hl.1 rfl (lv_room (Nat.le_of_ble_eq_true rfl)) dL_clearProgram_5 ⟨Nat.le_of_ble_eq_true rfl, Nat.le_of_ble_eq_true rfl⟩) (c2 := 2) (s2 := 12) rfl rfl (fun H locs hP hD hS => ?_)
    refine lv_i2l hx hb dL_clearProgram_8 rfl ?_
    refine va_last (q0 := 0) (t0 := 3) hx hb hK hP hD hS rfl rfl (show vp_in (0 : Int32) 1 by unfold vp_in; decide) dL_clearProgram_9 (fun H locs hP hD hS => ?_)
    refine lv_goto (tgt := 17) hx hb dL_clearProgram_10 (by decide) ?_
    refine lv_iconst (v := (0 : Int32)) hx hb dL_clearProgram_17 (by decide) ?_
    refine vx_ret (W.widen (k := 2) (n := 12) (by decide) (by decide) ?_)
    exact W.iret (v := (0 : Int32)) hx hb hr (fun t ht hW => ⟨⟨(0 : Int32), (T, vp_updL f 0 v.toInt64), rfl, rfl, by rw [ht]; exact hP, hD⟩, hS.F ht⟩) hS.2.2 dL_clearProgram_18
  · refine tcT (R0 := Int32 × SX11) (fun st v t q => by obtain ⟨⟨r, u, -, hu, -⟩, -⟩ := q; cases hu) hG hX hP hD hS hA (pmO cy a o b S f) (fun h1 h2 => vx_runV (As := [.int p1, .int p2]) (rest := [.int 0, .ref b]) ⟨hx, hb, hml, hown, hts⟩ (qX11_clearProgram l hl9 D cy tt a o S p1 p2 (s.heap).size (Sum.inl n) e1) (cwV 2 hts gL_clearProgram_X11_clearProgram rfl rfl rfl (by decide +kernel) ⟨Nat.le_of_ble_eq_true rfl, Nat.le_of_ble_eq_true rfl⟩) ⟨h1, va_recv hK hP (ci := 11) (q0 := 1) rfl rfl, h2⟩ rfl rfl hl.1 rfl (lv_room (Nat.le_of_ble_eq_true rfl)) dL_clearProgram_5 ⟨Nat.le_of_ble_eq_true rfl, Nat.le_of_ble_eq_true rfl⟩) (fun ce q9 H locs hP hS hce hcv hcl => ?_)
    match i, e2 with
    | 0, e2 =>
      cases Option.some.inj e2
      refine vx_catch hown [] ⟨0, 10, 13, 21⟩ [] (htab.trans rfl) (fun z hz => nomatch hz) rfl (by decide) (hts (.classLink RL 21 "java/lang/IndexOutOfBoundsException") (by decide +kernel)) (cast_w hG).2.2 hce hcv hcl ?_
      refine lv_astore (lv' := [(4, .ref q9), (0, .ref (a o)), (1, .int p1), (2, .int p2), (3, .ref b)]) hx hb dL_clearProgram_13 hl (by decide) rfl (fun ls hl => ?_)
      refine lv_iconst (v := (1 : Int32)) hx hb dL_clearProgram_15 (by decide) ?_
      refine vx_ret (W.widen (k := 2) (n := 12) (by decide) (by decide) ?_)
      exact W.iret (v := (1 : Int32)) hx hb hr (fun t ht hW => ⟨⟨(1 : Int32), (S, f), rfl, rfl, by rw [ht]; exact hP, hD⟩, hS.F ht⟩) hS.2.2 dL_clearProgram_16
    | i + 1, e2 => cases e2
theorem qL_begin (l : Launch) (hl9 : l.stackTraces = false) (D : va_G) (cy : Nat → ClassId) (tt : Nat → Nat) (a : Nat → Nat) (o b : Nat) (S : SX11) (p1 : Int32) (f : Nat → Int64) (sz : Nat) (res : Int32 × (SX11 × (Nat → Int64))) (h : wrO [2, 3] S f (DX11_begin S p1) res) : vx_Met l yL_begin wsL_begin ({ frames := 8, cells := 2, slots := 12, locals := 227 } : Room) (lP D cy tt sz [.ref (a o), .int p1, .ref b] (oC cy b f :: wX11 cy a o S)) (va_Qi (fun r (u : SX11 × (Nat → Int64)) => (r, u) = res) (fun u t => mB D sz (oC cy b f :: wX11 cy a o S) (oC cy b u.2 :: wX11 cy a o u.1) t) (va_A (oC cy b f :: wX11 cy a o S) sz)) (fun _ _ _ => False) 2 12 (va_A (oC cy b f :: wX11 cy a o S) sz) := by
  refine vx_ofWH (cc := cL_begin) (maxL := 4) (ret := (some .int)) (by decide) rfl ?_
  intro p e s m args below meth c s₁ B hml hv
  obtain ⟨rfl, hsz, hP, hG, hD0, hX, hN⟩ := hv
  have hx := B.exec
  have hb := B.bytes
  have hr := B.returns
  have hts := atoms_spec (ws := wsL_begin) B.pre
  have hown : s.vm.findClass RL = some m.cls := findClass_of_methodNamed B.named
  have hlocks := B.notSynchronized
  have htab := vx_table (x := yL_begin) B (hts _ List.mem_cons_self)
  have hK := hG.1
  subst hsz
  have hD := hD0.self (sz := s.heap.size)
  have hA : ∀ q : Nat, s.heap.size ≤ q → (va_A (oC cy b f :: wX11 cy a o S) s.heap.size) q := fun q h => Or.inr h
  have hS : va_S (va_A (oC cy b f :: wX11 cy a o S) s.heap.size) s.heap s.heap [] := va_S.rf
  have hl := lv_entry ([.ref (a o), .int p1, .ref b]) (n := 4) (Nat.le_of_ble_eq_true rfl)
  rw [lg_entry_eq]
  generalize (lg_sl ([.ref (a o), .int p1, .ref b]) ++ List.replicate (4 - (lg_sl ([.ref (a o), .int p1, .ref b])).length) Slot.unset).toArray = ls at hl ⊢
  have hl : lv_has ls 4 [(0, .ref (a o)), (1, .int p1), (2, .ref b)] := hl
  refine lv_aload_n hx hb dL_begin_0 rfl (lv_at hl 2 rfl) ?_
  refine lv_iconst (v := (0 : Int32)) hx hb dL_begin_1 (by decide) ?_
  refine lv_aload_n hx hb dL_begin_2 rfl (lv_at hl 0 rfl) ?_
  refine lv_iload_n hx hb dL_begin_3 rfl (lv_at hl 1 rfl) ?_
  rcases h with ⟨v, T, e1, rfl⟩ | ⟨i, n, e1, e2, rfl⟩
  · refine tcNm (x0 := (v, T)) (wf := fun T => wX11 cy a o T) (ws' := oC cy b f :: wX11 cy a o T) hG hX hP hD hS hA (pmO cy a o b S f) (pmO cy a o b T f) (fun h1 h2 => vx_runV (As := [.int p1]) (rest := [.int 0, .ref b]) ⟨hx, hb, hml, hown, hts⟩ (qX11_begin l hl9 D cy tt a o S p1 (s.heap).size (Sum.inr (v, T)) e1) (cwV 1 hts gL_begin_X11_begin rfl rfl rfl (by decide +kernel) ⟨Nat.le_of_ble_eq_true rfl, Nat.le_of_ble_eq_true rfl⟩) ⟨h1, va_recv hK hP (ci := 11) (q0 := 1) rfl rfl, h2⟩ rfl rfl hl.1 rfl (lv_room (Nat.le_of_ble_eq_true rfl)) dL_begin_4 ⟨Nat.le_of_ble_eq_true rfl, Nat.le_of_ble_eq_true rfl⟩) (c2 := 2) (s2 := 12) rfl rfl (fun H locs hP hD hS => ?_)
    refine lv_i2l hx hb dL_begin_7 rfl ?_
    refine va_last (q0 := 0) (t0 := 3) hx hb hK hP hD hS rfl rfl (show vp_in (0 : Int32) 1 by unfold vp_in; decide) dL_begin_8 (fun H locs hP hD hS => ?_)
    refine lv_goto (tgt := 18) hx hb dL_begin_9 (by decide) ?_
    refine lv_iconst (v := (0 : Int32)) hx hb dL_begin_18 (by decide) ?_
    refine vx_ret (W.widen (k := 2) (n := 12) (by decide) (by decide) ?_)
    exact W.iret (v := (0 : Int32)) hx hb hr (fun t ht hW => ⟨⟨(0 : Int32), (T, vp_updL f 0 v.toInt64), rfl, rfl, by rw [ht]; exact hP, hD⟩, hS.F ht⟩) hS.2.2 dL_begin_19
  · refine tcT (R0 := Int32 × SX11) (fun st v t q => by obtain ⟨⟨r, u, -, hu, -⟩, -⟩ := q; cases hu) hG hX hP hD hS hA (pmO cy a o b S f) (fun h1 h2 => vx_runV (As := [.int p1]) (rest := [.int 0, .ref b]) ⟨hx, hb, hml, hown, hts⟩ (qX11_begin l hl9 D cy tt a o S p1 (s.heap).size (Sum.inl n) e1) (cwV 1 hts gL_begin_X11_begin rfl rfl rfl (by decide +kernel) ⟨Nat.le_of_ble_eq_true rfl, Nat.le_of_ble_eq_true rfl⟩) ⟨h1, va_recv hK hP (ci := 11) (q0 := 1) rfl rfl, h2⟩ rfl rfl hl.1 rfl (lv_room (Nat.le_of_ble_eq_true rfl)) dL_begin_4 ⟨Nat.le_of_ble_eq_true rfl, Nat.le_of_ble_eq_true rfl⟩) (fun ce q9 H locs hP hS hce hcv hcl => ?_)
    match i, e2 with
    | 0, e2 =>
      cases Option.some.inj e2
      refine vx_catch hown [] ⟨0, 9, 12, 13⟩ [⟨0, 9, 15, 15⟩] (htab.trans rfl) (fun z hz => nomatch hz) rfl (by decide) (hts (.classLink RL 13 "java/lang/IllegalArgumentException") (by decide +kernel)) (cast_w hG).1 hce hcv hcl ?_
      refine lv_astore_n (lv' := [(3, .ref q9), (0, .ref (a o)), (1, .int p1), (2, .ref b)]) hx hb dL_begin_12 rfl hl (by decide) rfl (fun ls hl => ?_)
      refine lv_iconst (v := (1 : Int32)) hx hb dL_begin_13 (by decide) ?_
      refine vx_ret (W.widen (k := 2) (n := 12) (by decide) (by decide) ?_)
      exact W.iret (v := (1 : Int32)) hx hb hr (fun t ht hW => ⟨⟨(1 : Int32), (S, f), rfl, rfl, by rw [ht]; exact hP, hD⟩, hS.F ht⟩) hS.2.2 dL_begin_14
    | 1, e2 =>
      cases Option.some.inj e2
      refine vx_catch hown [⟨0, 9, 12, 13⟩] ⟨0, 9, 15, 15⟩ [] (htab.trans rfl) (fun z hz => by cases List.mem_singleton.mp hz; exact Or.inr ⟨by decide, "java/lang/IllegalArgumentException", hts (.classLink RL 13 "java/lang/IllegalArgumentException") (by decide +kernel), hN.2.2⟩) rfl (by decide) (hts (.classLink RL 15 "java/lang/IllegalStateException") (by decide +kernel)) (cast_w hG).2.1 hce hcv hcl ?_
      refine lv_astore_n (lv' := [(3, .ref q9), (0, .ref (a o)), (1, .int p1), (2, .ref b)]) hx hb dL_begin_15 rfl hl (by decide) rfl (fun ls hl => ?_)
      refine lv_iconst (v := (2 : Int32)) hx hb dL_begin_16 (by decide) ?_
      refine vx_ret (W.widen (k := 2) (n := 12) (by decide) (by decide) ?_)
      exact W.iret (v := (2 : Int32)) hx hb hr (fun t ht hW => ⟨⟨(2 : Int32), (S, f), rfl, rfl, by rw [ht]; exact hP, hD⟩, hS.F ht⟩) hS.2.2 dL_begin_17
    | i + 2, e2 => cases e2
theorem qL_play (l : Launch) (hl9 : l.stackTraces = false) (D : va_G) (cy : Nat → ClassId) (tt : Nat → Nat) (a : Nat → Nat) (o b : Nat) (S : SX11) (p1 : Int32) (f : Nat → Int64) (sz : Nat) (res : Int32 × (SX11 × (Nat → Int64))) (h : wrO [2, 3] S f (DX11_play S p1) res) : vx_Met l yL_play wsL_play ({ frames := 8, cells := 2, slots := 12, locals := 227 } : Room) (lP D cy tt sz [.ref (a o), .int p1, .ref b] (oC cy b f :: wX11 cy a o S)) (va_Qi (fun r (u : SX11 × (Nat → Int64)) => (r, u) = res) (fun u t => mB D sz (oC cy b f :: wX11 cy a o S) (oC cy b u.2 :: wX11 cy a o u.1) t) (va_A (oC cy b f :: wX11 cy a o S) sz)) (fun _ _ _ => False) 2 12 (va_A (oC cy b f :: wX11 cy a o S) sz) := by
  refine vx_ofWH (cc := cL_play) (maxL := 4) (ret := (some .int)) (by decide) rfl ?_
  intro p e s m args below meth c s₁ B hml hv
  obtain ⟨rfl, hsz, hP, hG, hD0, hX, hN⟩ := hv
  have hx := B.exec
  have hb := B.bytes
  have hr := B.returns
  have hts := atoms_spec (ws := wsL_play) B.pre
  have hown : s.vm.findClass RL = some m.cls := findClass_of_methodNamed B.named
  have hlocks := B.notSynchronized
  have htab := vx_table (x := yL_play) B (hts _ List.mem_cons_self)
  have hK := hG.1
  subst hsz
  have hD := hD0.self (sz := s.heap.size)
  have hA : ∀ q : Nat, s.heap.size ≤ q → (va_A (oC cy b f :: wX11 cy a o S) s.heap.size) q := fun q h => Or.inr h
  have hS : va_S (va_A (oC cy b f :: wX11 cy a o S) s.heap.size) s.heap s.heap [] := va_S.rf
  have hl := lv_entry ([.ref (a o), .int p1, .ref b]) (n := 4) (Nat.le_of_ble_eq_true rfl)
  rw [lg_entry_eq]
  generalize (lg_sl ([.ref (a o), .int p1, .ref b]) ++ List.replicate (4 - (lg_sl ([.ref (a o), .int p1, .ref b])).length) Slot.unset).toArray = ls at hl ⊢
  have hl : lv_has ls 4 [(0, .ref (a o)), (1, .int p1), (2, .ref b)] := hl
  refine lv_aload_n hx hb dL_play_0 rfl (lv_at hl 2 rfl) ?_
  refine lv_iconst (v := (0 : Int32)) hx hb dL_play_1 (by decide) ?_
  refine lv_aload_n hx hb dL_play_2 rfl (lv_at hl 0 rfl) ?_
  refine lv_iload_n hx hb dL_play_3 rfl (lv_at hl 1 rfl) ?_
  rcases h with ⟨v, T, e1, rfl⟩ | ⟨i, n, e1, e2, rfl⟩
  · refine tcNm (x0 := (v, T)) (wf := fun T => wX11 cy a o T) (ws' := oC cy b f :: wX11 cy a o T) hG hX hP hD hS hA (pmO cy a o b S f) (pmO cy a o b T f) (fun h1 h2 => vx_runV (As := [.int p1]) (rest := [.int 0, .ref b]) ⟨hx, hb, hml, hown, hts⟩ (qX11_play l hl9 D cy tt a o S p1 (s.heap).size (Sum.inr (v, T)) e1) (cwV 1 hts gL_play_X11_play rfl rfl rfl (by decide +kernel) ⟨Nat.le_of_ble_eq_true rfl, Nat.le_of_ble_eq_true rfl⟩) ⟨h1, va_recv hK hP (ci := 11) (q0 := 1) rfl rfl, h2⟩ rfl rfl hl.1 rfl (lv_room (Nat.le_of_ble_eq_true rfl)) dL_play_4 ⟨Nat.le_of_ble_eq_true rfl, Nat.le_of_ble_eq_true rfl⟩) (c2 := 2) (s2 := 12) rfl rfl (fun H locs hP hD hS => ?_)
    refine lv_i2l hx hb dL_play_7 rfl ?_
    refine va_last (q0 := 0) (t0 := 3) hx hb hK hP hD hS rfl rfl (show vp_in (0 : Int32) 1 by unfold vp_in; decide) dL_play_8 (fun H locs hP hD hS => ?_)
    refine lv_goto (tgt := 18) hx hb dL_play_9 (by decide) ?_
    refine lv_iconst (v := (0 : Int32)) hx hb dL_play_18 (by decide) ?_
    refine vx_ret (W.widen (k := 2) (n := 12) (by decide) (by decide) ?_)
    exact W.iret (v := (0 : Int32)) hx hb hr (fun t ht hW => ⟨⟨(0 : Int32), (T, vp_updL f 0 v.toInt64), rfl, rfl, by rw [ht]; exact hP, hD⟩, hS.F ht⟩) hS.2.2 dL_play_19
  · refine tcT (R0 := Int32 × SX11) (fun st v t q => by obtain ⟨⟨r, u, -, hu, -⟩, -⟩ := q; cases hu) hG hX hP hD hS hA (pmO cy a o b S f) (fun h1 h2 => vx_runV (As := [.int p1]) (rest := [.int 0, .ref b]) ⟨hx, hb, hml, hown, hts⟩ (qX11_play l hl9 D cy tt a o S p1 (s.heap).size (Sum.inl n) e1) (cwV 1 hts gL_play_X11_play rfl rfl rfl (by decide +kernel) ⟨Nat.le_of_ble_eq_true rfl, Nat.le_of_ble_eq_true rfl⟩) ⟨h1, va_recv hK hP (ci := 11) (q0 := 1) rfl rfl, h2⟩ rfl rfl hl.1 rfl (lv_room (Nat.le_of_ble_eq_true rfl)) dL_play_4 ⟨Nat.le_of_ble_eq_true rfl, Nat.le_of_ble_eq_true rfl⟩) (fun ce q9 H locs hP hS hce hcv hcl => ?_)
    match i, e2 with
    | 0, e2 =>
      cases Option.some.inj e2
      refine vx_catch hown [] ⟨0, 9, 12, 13⟩ [⟨0, 9, 15, 15⟩] (htab.trans rfl) (fun z hz => nomatch hz) rfl (by decide) (hts (.classLink RL 13 "java/lang/IllegalArgumentException") (by decide +kernel)) (cast_w hG).1 hce hcv hcl ?_
      refine lv_astore_n (lv' := [(3, .ref q9), (0, .ref (a o)), (1, .int p1), (2, .ref b)]) hx hb dL_play_12 rfl hl (by decide) rfl (fun ls hl => ?_)
      refine lv_iconst (v := (1 : Int32)) hx hb dL_play_13 (by decide) ?_
      refine vx_ret (W.widen (k := 2) (n := 12) (by decide) (by decide) ?_)
      exact W.iret (v := (1 : Int32)) hx hb hr (fun t ht hW => ⟨⟨(1 : Int32), (S, f), rfl, rfl, by rw [ht]; exact hP, hD⟩, hS.F ht⟩) hS.2.2 dL_play_14
    | 1, e2 =>
      cases Option.some.inj e2
      refine vx_catch hown [⟨0, 9, 12, 13⟩] ⟨0, 9, 15, 15⟩ [] (htab.trans rfl) (fun z hz => by cases List.mem_singleton.mp hz; exact Or.inr ⟨by decide, "java/lang/IllegalArgumentException", hts (.classLink RL 13 "java/lang/IllegalArgumentException") (by decide +kernel), hN.2.2⟩) rfl (by decide) (hts (.classLink RL 15 "java/lang/IllegalStateException") (by decide +kernel)) (cast_w hG).2.1 hce hcv hcl ?_
      refine lv_astore_n (lv' := [(3, .ref q9), (0, .ref (a o)), (1, .int p1), (2, .ref b)]) hx hb dL_play_15 rfl hl (by decide) rfl (fun ls hl => ?_)
      refine lv_iconst (v := (2 : Int32)) hx hb dL_play_16 (by decide) ?_
      refine vx_ret (W.widen (k := 2) (n := 12) (by decide) (by decide) ?_)
      exact W.iret (v := (2 : Int32)) hx hb hr (fun t ht hW => ⟨⟨(2 : Int32), (S, f), rfl, rfl, by rw [ht]; exact hP, hD⟩, hS.F ht⟩) hS.2.2 dL_play_17
    | i + 2, e2 => cases e2
