/-! the law's wrappers: a call of the class, its exceptions told by numbers -/
def gN (U : State) : Prop := va_Nc "java/lang/IllegalArgumentException" "java/lang/IndexOutOfBoundsException" U ∧ va_Nc "java/lang/IllegalStateException" "java/lang/IndexOutOfBoundsException" U ∧ va_Nc "java/lang/IllegalStateException" "java/lang/IllegalArgumentException" U
theorem gN.moved {u U : State} (hvm : u.vm.Alike U.vm) (h : gN u) : gN U := ⟨h.1.moved hvm, h.2.1.moved hvm, h.2.2.moved hvm⟩
/-- the law's array of one long -/
def oC (cy : Nat → ClassId) (b : Nat) (f : Nat → Int64) : Nat × va_E := (b, .inl (cy 3, 1, .inr (.inl f)))
/-- what a wrapper starts from -/
abbrev lP (D : va_G) (cy : Nat → ClassId) (tt : Nat → Nat) (sz : Nat) (av : List Value) (w0 : va_W) : Array Value → State → Prop := va_Pc av (fun U => U.heap.size = sz ∧ va_P D vwCl w0 U.heap ∧ gK D cy U ∧ va_D (fun _ => True) w0 ∧ gX tt (va_A w0 sz) U U.heap ∧ gN U)
/-- what a wrapper of a call that writes answers -/
def wrO (xs : List Nat) (S : SX11) (f : Nat → Int64) (x : Option (Nat ⊕ (Int32 × SX11))) (res : Int32 × (SX11 × (Nat → Int64))) : Prop :=
  (∃ v T, x = some (Sum.inr (v, T)) ∧ res = (iI 0, (T, vp_updL f 0 v.toInt64))) ∨ ∃ (i n : Nat), x = some (Sum.inl n) ∧ xs[i]? = some n ∧ res = (iI ((i : Int) + 1), (S, f))
theorem cast_w {D : va_G} {cy : Nat → ClassId} {s : State} {args : Array Value} (hG : gK D cy s) : (Cond.castable "java/lang/IllegalArgumentException" "java/lang/IllegalArgumentException").before args s = true ∧ (Cond.castable "java/lang/IllegalStateException" "java/lang/IllegalStateException").before args s = true ∧ (Cond.castable "java/lang/IndexOutOfBoundsException" "java/lang/IndexOutOfBoundsException").before args s = true := ⟨va_Nw.use rfl (hG.2.2.2 _ (by decide +kernel)), va_Nw.use rfl (hG.2.2.2 _ (by decide +kernel)), va_Nw.use rfl (hG.2.2.2 _ (by decide +kernel))⟩
theorem qL_addEntrant (l : Launch) (hl9 : l.stackTraces = false) (D : va_G) (cy : Nat → ClassId) (tt : Nat → Nat) (a : Nat → Nat) (o b : Nat) (S : SX11) (f : Nat → Int64) (sz : Nat) (res : Int32 × (SX11 × (Nat → Int64))) (h : wrO [3] S f (DX11_addEntrant S) res) : vx_Met l yL_addEntrant wsL_addEntrant ({ frames := 8, cells := 1, slots := 6, locals := 226 } : Room) (lP D cy tt sz [.ref (a o), .ref b] (oC cy b f :: wX11 cy a o S)) (va_Qi (fun r (u : SX11 × (Nat → Int64)) => (r, u) = res) (fun u t => mB D sz (oC cy b f :: wX11 cy a o S) (oC cy b u.2 :: wX11 cy a o u.1) t) (va_A (oC cy b f :: wX11 cy a o S) sz)) (fun _ _ _ => False) 1 6 (va_A (oC cy b f :: wX11 cy a o S) sz) := by
  refine vx_ofWH (cc := cL_addEntrant) (maxL := 3) (ret := (some .int)) (by decide) rfl ?_
  intro p e s m args below meth c s₁ B hml hv
  obtain ⟨rfl, hsz, hP, hG, hD0, hX, hN⟩ := hv
  have hx := B.exec
  have hb := B.bytes
  have hr := B.returns
  have hts := atoms_spec (ws := wsL_addEntrant) B.pre
  have hown : s.vm.findClass RL = some m.cls := findClass_of_methodNamed B.named
  have hlocks := B.notSynchronized
  have htab := vx_table (x := yL_addEntrant) B (hts _ List.mem_cons_self)
  have hK := hG.1
  subst hsz
  have hD := hD0.self (sz := s.heap.size)
  have hA : ∀ q : Nat, s.heap.size ≤ q → (va_A (oC cy b f :: wX11 cy a o S) s.heap.size) q := fun q h => Or.inr h
  have hS : va_S (va_A (oC cy b f :: wX11 cy a o S) s.heap.size) s.heap s.heap [] := va_S.rf
  have hl := lv_entry ([.ref (a o), .ref b]) (n := 3) (Nat.le_of_ble_eq_true rfl)
  rw [lg_entry_eq]
  generalize (lg_sl ([.ref (a o), .ref b]) ++ List.replicate (3 - (lg_sl ([.ref (a o), .ref b])).length) Slot.unset).toArray = ls at hl ⊢
  have hl : lv_has ls 3 [(0, .ref (a o)), (1, .ref b)] := hl
  refine lv_aload_n hx hb dL_addEntrant_0 rfl (lv_at hl 1 rfl) ?_
  refine lv_iconst (v := (0 : Int32)) hx hb dL_addEntrant_1 (by decide) ?_
  refine lv_aload_n hx hb dL_addEntrant_2 rfl (lv_at hl 0 rfl) ?_
  have pm : ∀ (T : SX11) (g : Nat → Int64), (oC cy b g :: wX11 cy a o T).Perm (wX11 cy a o T ++ [oC cy b g]) := fun T g => (List.perm_append_comm (l₁ := [oC cy b g]) (l₂ := wX11 cy a o T))
  rcases h with ⟨v, T, e1, rfl⟩ | ⟨i, n, e1, e2, rfl⟩
  · refine tcNm (x0 := (v, T)) (wf := fun T => wX11 cy a o T) (ws' := oC cy b f :: wX11 cy a o T) hG hX hP hD hS hA (pm S f) (pm T f) (fun h1 h2 => vx_runV (As := []) (rest := [.int 0, .ref b]) ⟨hx, hb, hml, hown, hts⟩ (qX11_addEntrant l hl9 D cy tt a o S (s.heap).size (Sum.inr (v, T)) e1) (cwV 0 hts gL_addEntrant_X11_addEntrant rfl rfl rfl (by decide +kernel) ⟨Nat.le_of_ble_eq_true rfl, Nat.le_of_ble_eq_true rfl⟩) ⟨h1, va_recv hK hP (ci := 11) (q0 := 1) rfl rfl, h2⟩ rfl rfl hl.1 rfl (lv_room (Nat.le_of_ble_eq_true rfl)) dL_addEntrant_3 ⟨Nat.le_of_ble_eq_true rfl, Nat.le_of_ble_eq_true rfl⟩) (c2 := 1) (s2 := 6) rfl rfl (fun H locs hP hD hS => ?_)
    refine lv_i2l hx hb dL_addEntrant_6 rfl ?_
    refine va_last (q0 := 0) (t0 := 3) hx hb hK hP hD hS rfl rfl (show vp_in (0 : Int32) 1 by unfold vp_in; decide) dL_addEntrant_7 (fun H locs hP hD hS => ?_)
    refine lv_goto (tgt := 14) hx hb dL_addEntrant_8 (by decide) ?_
    refine lv_iconst (v := (0 : Int32)) hx hb dL_addEntrant_14 (by decide) ?_
    refine vx_ret (W.widen (k := 1) (n := 6) (by decide) (by decide) ?_)
    exact W.iret (v := (0 : Int32)) hx hb hr (fun t ht hW => ⟨⟨(0 : Int32), (T, vp_updL f 0 v.toInt64), rfl, rfl, by rw [ht]; exact hP, hD⟩, hS.F ht⟩) hS.2.2 dL_addEntrant_15
  · refine tcT (R0 := Int32 × SX11) (fun st v t q => by obtain ⟨⟨r, u, -, hu, -⟩, -⟩ := q; cases hu) hG hX hP hD hS hA (pm S f) (fun h1 h2 => vx_runV (As := []) (rest := [.int 0, .ref b]) ⟨hx, hb, hml, hown, hts⟩ (qX11_addEntrant l hl9 D cy tt a o S (s.heap).size (Sum.inl n) e1) (cwV 0 hts gL_addEntrant_X11_addEntrant rfl rfl rfl (by decide +kernel) ⟨Nat.le_of_ble_eq_true rfl, Nat.le_of_ble_eq_true rfl⟩) ⟨h1, va_recv hK hP (ci := 11) (q0 := 1) rfl rfl, h2⟩ rfl rfl hl.1 rfl (lv_room (Nat.le_of_ble_eq_true rfl)) dL_addEntrant_3 ⟨Nat.le_of_ble_eq_true rfl, Nat.le_of_ble_eq_true rfl⟩) (fun ce q9 H locs hP hS hce hcv hcl => ?_)
    match i, e2 with
    | 0, e2 =>
      cases Option.some.inj e2
      refine vx_catch hown [] ⟨0, 8, 11, 15⟩ [] (htab.trans rfl) (fun z hz => nomatch hz) rfl (by decide) (hts (.classLink RL 15 "java/lang/IllegalStateException") (by decide +kernel)) (cast_w hG).2.1 hce hcv hcl ?_
      refine lv_astore_n (lv' := [(2, .ref q9), (0, .ref (a o)), (1, .ref b)]) hx hb dL_addEntrant_11 rfl hl (by decide) rfl (fun ls hl => ?_)
      refine lv_iconst (v := (1 : Int32)) hx hb dL_addEntrant_12 (by decide) ?_
      refine vx_ret (W.widen (k := 1) (n := 6) (by decide) (by decide) ?_)
      exact W.iret (v := (1 : Int32)) hx hb hr (fun t ht hW => ⟨⟨(1 : Int32), (S, f), rfl, rfl, by rw [ht]; exact hP, hD⟩, hS.F ht⟩) hS.2.2 dL_addEntrant_13
    | i + 1, e2 => cases e2
