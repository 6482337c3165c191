set_option maxHeartbeats 4000000 in
set_option maxRecDepth 100000 in
/-- copyRow out of a static array, of which the launch tells its length and its cells -/
theorem qX11_copyRowT (l : Launch) (D : va_G) (cy : Nat → ClassId) (t b : Nat) (n : Nat) (hn : n < 2 ^ 31) (f g : Nat → Int32) (sz : Nat) : Met l yX11_copyRow wsX11_copyRow ({ frames := 1, cells := 0, slots := 0, locals := 100 } : Room) (va_Pc [.ref t, .ref b] (fun U => U.heap.size = sz ∧ va_P D vwCl [(b, .inl (cy 0, n, .inl g))] U.heap ∧ gK D cy U ∧ va_D (fun _ => True) [(b, .inl (cy 0, n, .inl g))] ∧ va_T .int t n (fun j => .int (f j)) (va_A [(b, .inl (cy 0, n, .inl g))] sz) U U.heap)) (va_Qv (fun (_ : Unit) => True) (fun _ t => mB D sz [(b, .inl (cy 0, n, .inl g))] [(b, .inl (cy 0, n, .inl f))] t) (va_A [(b, .inl (cy 0, n, .inl g))] sz)) 0 0 (va_A [(b, .inl (cy 0, n, .inl g))] sz) := by
  refine Met.ofW (cc := cX11_copyRow) (maxL := 2) (ret := none) (by decide) rfl ?_
  intro p e s m args below meth c s₁ B hml hv
  obtain ⟨rfl, hsz, hP, hG, hD0, hT⟩ := hv
  have hx := B.exec
  have hb := B.bytes
  have hr := B.returns
  have hts := atoms_spec (ws := wsX11_copyRow) B.pre
  have hown : s.vm.findClass RX11 = some m.cls := findClass_of_methodNamed B.named
  have hlocks := B.notSynchronized
  have hK := hG.1
  subst hsz
  have hD := hD0.self (sz := s.heap.size)
  generalize hAe : va_A [(b, .inl (cy 0, n, .inl g))] s.heap.size = A at hD hT ⊢
  have hS : va_S A s.heap s.heap [] := va_S.rf
  have hl := lv_entry ([.ref t, .ref b]) (n := 2) (Nat.le_of_ble_eq_true rfl)
  rw [lg_entry_eq]
  generalize (lg_sl ([.ref t, .ref b]) ++ List.replicate (2 - (lg_sl ([.ref t, .ref b])).length) Slot.unset).toArray = ls at hl ⊢
  have hl : lv_has ls 2 [(0, .ref t), (1, .ref b)] := hl
  refine lv_aload_n hx hb dX11_copyRow_0 rfl (lv_at hl 0 rfl) ?_
  refine lv_iconst (v := nI 0) hx hb dX11_copyRow_1 (by decide) ?_
  refine lv_aload_n hx hb dX11_copyRow_2 rfl (lv_at hl 1 rfl) ?_
  refine lv_iconst (v := nI 0) hx hb dX11_copyRow_3 (by decide) ?_
  refine lv_aload_n hx hb dX11_copyRow_4 rfl (lv_at hl 0 rfl) ?_
  refine va_tlen (v := nI n) hx hb hT hS rfl dX11_copyRow_5 ?_
  refine lv_aload_n hx hb dX11_copyRow_6 rfl (lv_at hl 1 rfl) ?_
  refine va_alen (v := nI n) hx hb hK hP 0 0 rfl rfl rfl dX11_copyRow_7 ?_
  refine va_mmin hx hb (hml.trans hl.1.symm) hown (hts (.methodLink RX11 325 Lib.Math.min.name) (by decide +kernel)) (hts (.static Lib.Math.min.name) (by decide +kernel)) (hts (.initialized "java/lang/Math") (by decide +kernel)) (hts (.code Lib.Math.min.name Lib.Math.min.code 2 (some .int)) (by decide +kernel)) (Nat.le_of_ble_eq_true rfl) (Nat.le_of_ble_eq_true rfl) (Nat.zero_le _) (Nat.zero_le _) dX11_copyRow_8 ?_
  refine lv_topi (fun y ey => ?_)
  have ey2 : y = nI n := by rw [ey]; split <;> rfl
  subst ey2
  clear ey
  refine va_copyt hx hb (hml.trans hl.1.symm) hown (hts (.methodLink RX11 330 arraycopyName) (by decide +kernel)) (hts (.native arraycopyName) (by decide +kernel)) (hts (.static arraycopyName) (by decide +kernel)) (hts (.initialized "java/lang/System") (by decide +kernel)) hK hP hD hS hT hn (Nat.le_of_ble_eq_true rfl) (by decide +kernel) dX11_copyRow_11 (fun H locs hP hD hS => ?_)
  exact W.vret hx hb hr (fun t ht hW => ⟨⟨(), rfl, trivial, by rw [ht]; exact hP, by rw [hAe]; exact hD⟩, hS.F ht⟩) hS.2.2 dX11_copyRow_14
