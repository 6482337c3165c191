/-! fill, copyRow, copyRows: contracts by hand -/
theorem rowsW_len (cO cI : ClassId) (a : Nat → Nat) (o n k : Nat) (R : Nat → Nat → Int32) : (rowsW cO cI a o n k R).length = n + 1 := by
  simp [rowsW]
theorem rowsW_row (cO cI : ClassId) (a : Nat → Nat) (o n k : Nat) (R : Nat → Nat → Int32) {j : Nat} (hj : j < n) : (rowsW cO cI a o n k R)[j + 1]? = some (a (o + 1 + j), .inl (cI, k, .inl (R j))) := by
  simp [rowsW, hj]
theorem rowsW_set (cO cI : ClassId) (a : Nat → Nat) (o n k : Nat) (R : Nat → Nat → Int32) {j : Nat} (hj : j < n) (f : Nat → Int32) : (rowsW cO cI a o n k R).set (j + 1) (a (o + 1 + j), .inl (cI, k, .inl f)) = rowsW cO cI a o n k (upd2 R j f) := by
  unfold rowsW
  rw [List.set_cons_succ]
  congr 1
  apply List.ext_getElem?
  intro i
  rw [List.getElem?_set]
  by_cases h : j = i
  · subst h
    simp [hj, upd2]
  · rw [if_neg h]
    by_cases hi : i < n
    · have h2 : ¬ i = j := fun q => h q.symm
      simp [hi, upd2, h2]
    · simp [hi]
theorem P_cells {D : va_G} {cl : List vw_C} {ws ws' : va_W} {H : Heap} (h : va_P D cl ws H) (hw : ∀ (k : Nat) (q : Nat × va_E), ws'[k]? = some q → ∃ q0 : Nat × va_E, q0 ∈ ws ∧ (va_at D cl q0 H → va_at D cl q H)) : va_P D cl ws' H := by
  intro k q hq
  obtain ⟨q0, h0, h1⟩ := hw k q hq
  obtain ⟨i, hi⟩ := List.mem_iff_getElem?.mp h0
  exact h1 (h i q0 hi)
theorem D_addr {A : Nat → Prop} {ws ws' : va_W} (h : va_D A ws) (he : ws'.map Prod.fst = ws.map Prod.fst) : va_D A ws' := by
  have key : ∀ (k : Nat) (q : Nat × va_E), ws'[k]? = some q → ∃ q0 : Nat × va_E, ws[k]? = some q0 ∧ q0.1 = q.1 := by
    intro k q hq
    have h1 : (ws'.map Prod.fst)[k]? = some q.1 := by rw [List.getElem?_map, hq]; rfl
    rw [he, List.getElem?_map] at h1
    cases h2 : ws[k]? with
    | none => rw [h2] at h1; cases h1
    | some q0 => rw [h2] at h1; exact ⟨q0, rfl, Option.some.inj h1⟩
  refine ⟨fun i j p q hp hq e => ?_, fun k q hq => ?_⟩
  · obtain ⟨p0, h1, h2⟩ := key i p hp
    obtain ⟨q0, h3, h4⟩ := key j q hq
    exact h.1 i j p0 q0 h1 h3 (by rw [h2, h4, e])
  · obtain ⟨q0, h1, h2⟩ := key k q hq
    rw [← h2]
    exact h.2 k q0 h1
set_option maxHeartbeats 4000000 in
set_option maxRecDepth 100000 in
theorem qJ7_fill (l : Launch) (D : va_G) (cy : Nat → ClassId) (b : Nat) (n : Nat) (hn : n < 2 ^ 31) (f : Nat → Int32) (v : Int32) (sz : Nat) : Met l yJ7_fill_53178 wsJ7_fill_53178 ({ frames := 0, cells := 0, slots := 0, locals := 0 } : Room) (mP D cy sz [.ref b, .int v] [(b, .inl (cy 0, n, .inl f))]) (va_Qv (fun (_ : Unit) => True) (fun _ t => mB D sz [(b, .inl (cy 0, n, .inl f))] [(b, .inl (cy 0, n, .inl (fun _ => v)))] t) (va_A [(b, .inl (cy 0, n, .inl f))] sz)) 0 0 (va_A [(b, .inl (cy 0, n, .inl f))] sz) := by
  refine Met.ofW (cc := cJ7_fill_53178) (maxL := 4) (ret := none) (by decide) rfl ?_
  intro p e s m args below meth c s₁ B hml hv
  obtain ⟨rfl, hsz, hP, hG, hD0⟩ := hv
  have hx := B.exec
  have hb := B.bytes
  have hr := B.returns
  have hlocks := B.notSynchronized
  have hK := hG.1
  subst hsz
  have hD := hD0.self (sz := s.heap.size)
  generalize hAe : va_A [(b, .inl (cy 0, n, .inl f))] s.heap.size = A at hD ⊢
  have hS : va_S A s.heap s.heap [] := va_S.rf
  have hl := lv_entry ([.ref b, .int v]) (n := 4) (Nat.le_of_ble_eq_true rfl)
  rw [lg_entry_eq]
  generalize (lg_sl ([.ref b, .int v]) ++ List.replicate (4 - (lg_sl ([.ref b, .int v])).length) Slot.unset).toArray = ls at hl ⊢
  have hl : lv_has ls 4 [(0, .ref b), (1, .int v)] := hl
  refine lv_iconst (v := nI 0) hx hb dJ7_fill_53178_0 (by decide) ?_
  refine lv_istore_n (lv' := [(2, .int (nI 0)), (0, .ref b), (1, .int v)]) hx hb dJ7_fill_53178_1 rfl hl (by decide) rfl (fun ls hl => ?_)
  refine lv_aload_n hx hb dJ7_fill_53178_2 rfl (lv_at hl 1 rfl) ?_
  refine va_alen (v := nI n) hx hb hK hP 0 0 rfl rfl rfl dJ7_fill_53178_3 ?_
  refine lv_istore_n (lv' := [(3, .int (nI n)), (2, .int (nI 0)), (0, .ref b), (1, .int v)]) hx hb dJ7_fill_53178_4 rfl hl (by decide) rfl (fun ls hl => ?_)
  have L : ∀ (k i : Nat), i + k = n → ∀ (g : Nat → Int32) (H : Heap) (locs : List Loc) (ls : Array Slot), (∀ j, j < i → g j = v) → va_P D vwCl [(b, .inl (cy 0, n, .inl g))] H → va_D A [(b, .inl (cy 0, n, .inl g))] → va_S A s.heap H locs → lv_has ls 4 [(0, .ref b), (1, .int v), (2, .int (nI i)), (3, .int (nI n))] → W p l e (headSpec wsJ7_fill_53178 ({ frames := 0, cells := 0, slots := 0, locals := 0 } : Room)).room s m ([.ref b, .int v] : List Value).toArray below meth c H locs 0 0 (MQ below (va_Qv (fun (_ : Unit) => True) (fun _ t => mB D s.heap.size [(b, .inl (cy 0, n, .inl f))] [(b, .inl (cy 0, n, .inl (fun _ => v)))] t) A) ([.ref b, .int v] : List Value).toArray s 0 0 A) (F0 m 5 ls []) := by
    intro k
    induction k with
    | zero =>
      intro i hi g H locs ls hg hP hD hS hl
      refine lv_iload_n hx hb dJ7_fill_53178_5 rfl (lv_at hl 2 rfl) ?_
      refine lv_iload_n hx hb dJ7_fill_53178_6 rfl (lv_at hl 3 rfl) ?_
      refine lv_icmp_ge (tgt := 20) hx hb dJ7_fill_53178_7 (by decide) (fun cc => ?_) (fun cc => absurd (nI_le (by omega) (by omega)) cc)
      have hP2 : va_P D vwCl [(b, .inl (cy 0, n, .inl (fun _ => v)))] H := by
        intro k q hq
        match k, hq with
        | 0, hq =>
          cases hq
          show H[b]? = some (vp_cell (cy 0) (n, .inl (fun _ => v)))
          rw [cell_eq (g := g) (fun k hk => (hg k (by omega)).symm)]
          exact hP 0 _ rfl
      have hD2 : va_D A [(b, .inl (cy 0, n, .inl (fun _ => v)))] := D_addr hD rfl
      exact W.vret hx hb hr (fun t ht hW => ⟨⟨(), rfl, trivial, by rw [ht]; exact hP2, by rw [hAe]; exact hD2⟩, hS.F ht⟩) hS.2.2 dJ7_fill_53178_20
    | succ k ih =>
      intro i hi g H locs ls hg hP hD hS hl
      refine lv_iload_n hx hb dJ7_fill_53178_5 rfl (lv_at hl 2 rfl) ?_
      refine lv_iload_n hx hb dJ7_fill_53178_6 rfl (lv_at hl 3 rfl) ?_
      refine lv_icmp_ge (tgt := 20) hx hb dJ7_fill_53178_7 (by decide) (fun cc => absurd cc (nI_ge (by omega) hn)) (fun cc => ?_)
      refine lv_aload_n hx hb dJ7_fill_53178_10 rfl (lv_at hl 0 rfl) ?_
      refine lv_iload_n hx hb dJ7_fill_53178_11 rfl (lv_at hl 2 rfl) ?_
      refine lv_iload_n hx hb dJ7_fill_53178_12 rfl (lv_at hl 1 rfl) ?_
      refine r_ast (f := g) (f' := upd g i v) (n := n) (ws' := [(b, .inl (cy 0, n, .inl (upd g i v)))]) hx hb hK hP hD hS 0 0 rfl rfl (vp_in_nI (by omega) hn) (updc (nI_clamp (by omega))) rfl dJ7_fill_53178_13 (fun H locs hP hD hS => ?_)
      refine lv_iinc (v := nI (i + 1)) (lv' := [(2, .int (nI (i + 1))), (0, .ref b), (1, .int v), (3, .int (nI n))]) hx hb dJ7_fill_53178_14 hl (k := 2) rfl (nI_succ i).symm (by decide) rfl (fun ls hl => ?_)
      refine lv_goto (tgt := 5) hx hb dJ7_fill_53178_17 (by decide) ?_
      refine ih (i + 1) (by omega) (upd g i v) H locs ls (fun j hj => ?_) hP hD hS (lv_sub hl [1, 2, 0, 3] rfl)
      by_cases h : j = i
      · rw [h]; simp [upd]
      · simp only [upd, if_neg h]; exact hg j (by omega)
  exact L n 0 (by omega) f s.heap [] ls (fun j hj => absurd hj (by omega)) hP hD hS (lv_sub hl [2, 3, 1, 0] rfl)
set_option maxHeartbeats 4000000 in
set_option maxRecDepth 100000 in
theorem qX11_copyRow (l : Launch) (D : va_G) (cy : Nat → ClassId) (a b : Nat) (n : Nat) (hn : n < 2 ^ 31) (f g : Nat → Int32) (sz : Nat) : Met l yX11_copyRow wsX11_copyRow ({ frames := 1, cells := 0, slots := 0, locals := 100 } : Room) (mP D cy sz [.ref a, .ref b] [(a, .inl (cy 0, n, .inl f)), (b, .inl (cy 0, n, .inl g))]) (va_Qv (fun (_ : Unit) => True) (fun _ t => mB D sz [(a, .inl (cy 0, n, .inl f)), (b, .inl (cy 0, n, .inl g))] [(a, .inl (cy 0, n, .inl f)), (b, .inl (cy 0, n, .inl f))] t) (va_A [(a, .inl (cy 0, n, .inl f)), (b, .inl (cy 0, n, .inl g))] sz)) 0 0 (va_A [(a, .inl (cy 0, n, .inl f)), (b, .inl (cy 0, n, .inl g))] sz) := by
  refine Met.ofW (cc := cX11_copyRow) (maxL := 2) (ret := none) (by decide) rfl ?_
  intro p e s m args below meth c s₁ B hml hv
  obtain ⟨rfl, hsz, hP, hG, hD0⟩ := hv
  have hx := B.exec
  have hb := B.bytes
  have hr := B.returns
  have hts := atoms_spec (ws := wsX11_copyRow) B.pre
  have hown : s.vm.findClass RX11 = some m.cls := findClass_of_methodNamed B.named
  have hlocks := B.notSynchronized
  have hK := hG.1
  subst hsz
  have hD := hD0.self (sz := s.heap.size)
  generalize hAe : va_A [(a, .inl (cy 0, n, .inl f)), (b, .inl (cy 0, n, .inl g))] s.heap.size = A at hD ⊢
  have hS : va_S A s.heap s.heap [] := va_S.rf
  have hl := lv_entry ([.ref a, .ref b]) (n := 2) (Nat.le_of_ble_eq_true rfl)
  rw [lg_entry_eq]
  generalize (lg_sl ([.ref a, .ref b]) ++ List.replicate (2 - (lg_sl ([.ref a, .ref b])).length) Slot.unset).toArray = ls at hl ⊢
  have hl : lv_has ls 2 [(0, .ref a), (1, .ref b)] := hl
  refine lv_aload_n hx hb dX11_copyRow_0 rfl (lv_at hl 0 rfl) ?_
  refine lv_iconst (v := nI 0) hx hb dX11_copyRow_1 (by decide) ?_
  refine lv_aload_n hx hb dX11_copyRow_2 rfl (lv_at hl 1 rfl) ?_
  refine lv_iconst (v := nI 0) hx hb dX11_copyRow_3 (by decide) ?_
  refine lv_aload_n hx hb dX11_copyRow_4 rfl (lv_at hl 0 rfl) ?_
  refine va_alen (v := nI n) hx hb hK hP 0 0 rfl rfl rfl dX11_copyRow_5 ?_
  refine lv_aload_n hx hb dX11_copyRow_6 rfl (lv_at hl 1 rfl) ?_
  refine va_alen (v := nI n) hx hb hK hP 1 0 rfl rfl rfl dX11_copyRow_7 ?_
  refine va_mmin hx hb (hml.trans hl.1.symm) hown (hts (.methodLink RX11 325 Lib.Math.min.name) (by decide +kernel)) (hts (.static Lib.Math.min.name) (by decide +kernel)) (hts (.initialized "java/lang/Math") (by decide +kernel)) (hts (.code Lib.Math.min.name Lib.Math.min.code 2 (some .int)) (by decide +kernel)) (Nat.le_of_ble_eq_true rfl) (Nat.le_of_ble_eq_true rfl) (Nat.zero_le _) (Nat.zero_le _) dX11_copyRow_8 ?_
  refine lv_topi (fun y ey => ?_)
  have ey2 : y = nI n := by rw [ey]; split <;> rfl
  subst ey2
  clear ey
  have h0 : (nI 0).toNatClampNeg = 0 := nI_clamp (by decide)
  refine va_copyi (ty := .int) hx hb (hml.trans hl.1.symm) hown (hts (.methodLink RX11 330 arraycopyName) (by decide +kernel)) (hts (.native arraycopyName) (by decide +kernel)) (hts (.static arraycopyName) (by decide +kernel)) (hts (.initialized "java/lang/System") (by decide +kernel)) hK hP hD hS 0 1 0 0 rfl rfl rfl rfl rfl (by decide) (by decide) (nI_pos hn) (by rw [h0, nI_clamp hn]; omega) (by rw [h0, nI_clamp hn]; omega) (fun _ _ => rfl) (Nat.le_of_ble_eq_true rfl) (by decide +kernel) dX11_copyRow_11 (fun H locs hP hD hS => ?_)
  rw [h0, nI_clamp hn] at hP
  have hP2 : va_P D vwCl [(a, .inl (cy 0, n, .inl f)), (b, .inl (cy 0, n, .inl f))] H := by
    intro k q hq
    match k, hq with
    | 0, hq => cases hq; exact hP 0 _ rfl
    | 1, hq =>
      cases hq
      show H[b]? = some (vp_cell (cy 0) (n, .inl f))
      rw [cell_eq (f := f) (g := va_cpy f g 0 0 n) (fun k hk => by rw [pk_cpy_in (Nat.zero_le _) (by omega)]; simp)]
      exact hP 1 _ rfl
  have hD2 : va_D A [(a, .inl (cy 0, n, .inl f)), (b, .inl (cy 0, n, .inl f))] := D_addr hD rfl
  exact W.vret hx hb hr (fun t ht hW => ⟨⟨(), rfl, trivial, by rw [ht]; exact hP2, by rw [hAe]; exact hD2⟩, hS.F ht⟩) hS.2.2 dX11_copyRow_14
set_option maxHeartbeats 4000000 in
set_option maxRecDepth 100000 in
theorem qX11_copyRows (l : Launch) (D : va_G) (cy : Nat → ClassId) (a : Nat → Nat) (o : Nat) (b : Nat → Nat) (z : Nat) (n k : Nat) (hn : n < 2 ^ 31) (hk : k < 2 ^ 31) (F G : Nat → Nat → Int32) (sz : Nat) : Met l yX11_copyRows wsX11_copyRows ({ frames := 1, cells := 0, slots := 0, locals := 100 } : Room) (mP D cy sz [.ref (a o), .ref (b z)] (rowsW (cy 2) (cy 0) a o n k F ++ rowsW (cy 2) (cy 0) b z n k G)) (va_Qv (fun (u : Unit) => u = ()) (fun _ t => mB D sz (rowsW (cy 2) (cy 0) a o n k F ++ rowsW (cy 2) (cy 0) b z n k G) (rowsW (cy 2) (cy 0) a o n k F ++ rowsW (cy 2) (cy 0) b z n k F) t) (va_A (rowsW (cy 2) (cy 0) a o n k F ++ rowsW (cy 2) (cy 0) b z n k G) sz)) 0 0 (va_A (rowsW (cy 2) (cy 0) a o n k F ++ rowsW (cy 2) (cy 0) b z n k G) sz) := by
  refine Met.ofW (cc := cX11_copyRows) (maxL := 3) (ret := none) (by decide) rfl ?_
  intro p e s m args below meth c s₁ B hml hv
  obtain ⟨rfl, hsz, hP, hG, hD0⟩ := hv
  have hx := B.exec
  have hb := B.bytes
  have hr := B.returns
  have hts := atoms_spec (ws := wsX11_copyRows) B.pre
  have hown : s.vm.findClass RX11 = some m.cls := findClass_of_methodNamed B.named
  have hlocks := B.notSynchronized
  have hK := hG.1
  subst hsz
  have hD := hD0.self (sz := s.heap.size)
  generalize hAe : va_A (rowsW (cy 2) (cy 0) a o n k F ++ rowsW (cy 2) (cy 0) b z n k G) s.heap.size = A at hD ⊢
  have hS : va_S A s.heap s.heap [] := va_S.rf
  have hl := lv_entry ([.ref (a o), .ref (b z)]) (n := 3) (Nat.le_of_ble_eq_true rfl)
  rw [lg_entry_eq]
  generalize (lg_sl ([.ref (a o), .ref (b z)]) ++ List.replicate (3 - (lg_sl ([.ref (a o), .ref (b z)])).length) Slot.unset).toArray = ls at hl ⊢
  have hl : lv_has ls 3 [(0, .ref (a o)), (1, .ref (b z))] := hl
  refine lv_iconst (v := nI 0) hx hb dX11_copyRows_0 (by decide) ?_
  refine lv_istore_n (lv' := [(2, .int (nI 0)), (0, .ref (a o)), (1, .ref (b z))]) hx hb dX11_copyRows_1 rfl hl (by decide) rfl (fun ls hl => ?_)
  have a0 : ∀ X : Nat → Nat → Int32, (rowsW (cy 2) (cy 0) a o n k F ++ rowsW (cy 2) (cy 0) b z n k X)[0]? = some (a o, .inl (cy 2, n, .inr (.inr (.inr (.inr (fun i => if i < n then some (a (o + 1 + i)) else none)))))) := fun X => rfl
  have aj : ∀ (X : Nat → Nat → Int32) (j : Nat), j < n → (rowsW (cy 2) (cy 0) a o n k F ++ rowsW (cy 2) (cy 0) b z n k X)[j + 1]? = some (a (o + 1 + j), .inl (cy 0, k, .inl (F j))) := fun X j hj => by
    rw [List.getElem?_append_left (by rw [rowsW_len]; omega)]
    exact rowsW_row _ _ _ _ _ _ _ hj
  have b0 : ∀ X : Nat → Nat → Int32, (rowsW (cy 2) (cy 0) a o n k F ++ rowsW (cy 2) (cy 0) b z n k X)[n + 1]? = some (b z, .inl (cy 2, n, .inr (.inr (.inr (.inr (fun i => if i < n then some (b (z + 1 + i)) else none)))))) := fun X => by
    rw [List.getElem?_append_right (by rw [rowsW_len]; omega), rowsW_len, Nat.sub_self]
    rfl
  have bj : ∀ (X : Nat → Nat → Int32) (j : Nat), j < n → (rowsW (cy 2) (cy 0) a o n k F ++ rowsW (cy 2) (cy 0) b z n k X)[n + 1 + (j + 1)]? = some (b (z + 1 + j), .inl (cy 0, k, .inl (X j))) := fun X j hj => by
    rw [List.getElem?_append_right (by rw [rowsW_len]; omega), rowsW_len, Nat.add_sub_cancel_left]
    exact rowsW_row _ _ _ _ _ _ _ hj
  have h0 : (nI 0).toNatClampNeg = 0 := nI_clamp (by decide)
  have L : ∀ (q i : Nat), i + q = n → ∀ (X : Nat → Nat → Int32) (H : Heap) (locs : List Loc) (ls : Array Slot), (∀ j, j < i → X j = F j) → va_P D vwCl (rowsW (cy 2) (cy 0) a o n k F ++ rowsW (cy 2) (cy 0) b z n k X) H → va_D A (rowsW (cy 2) (cy 0) a o n k F ++ rowsW (cy 2) (cy 0) b z n k X) → va_S A s.heap H locs → lv_has ls 3 [(0, .ref (a o)), (1, .ref (b z)), (2, .int (nI i))] → W p l e (headSpec wsX11_copyRows ({ frames := 1, cells := 0, slots := 0, locals := 100 } : Room)).room s m ([.ref (a o), .ref (b z)] : List Value).toArray below meth c H locs 0 0 (MQ below (va_Qv (fun (u : Unit) => u = ()) (fun _ t => mB D s.heap.size (rowsW (cy 2) (cy 0) a o n k F ++ rowsW (cy 2) (cy 0) b z n k G) (rowsW (cy 2) (cy 0) a o n k F ++ rowsW (cy 2) (cy 0) b z n k F) t) A) ([.ref (a o), .ref (b z)] : List Value).toArray s 0 0 A) (F0 m 2 ls []) := by
    intro q
    induction q with
    | zero =>
      intro i hi X H locs ls hg hP hD hS hl
      refine lv_iload_n hx hb dX11_copyRows_2 rfl (lv_at hl 2 rfl) ?_
      refine lv_aload_n hx hb dX11_copyRows_3 rfl (lv_at hl 0 rfl) ?_
      refine va_alen (v := nI n) hx hb hK hP 0 2 (a0 X) rfl rfl dX11_copyRows_4 ?_
      refine lv_icmp_ge (tgt := 42) hx hb dX11_copyRows_5 (by decide) (fun cc => ?_) (fun cc => absurd (nI_le (by omega) (by omega)) cc)
      have hXF : rowsW (cy 2) (cy 0) b z n k X = rowsW (cy 2) (cy 0) b z n k F := by
        unfold rowsW
        congr 1
        apply List.map_congr_left
        intro j hj
        rw [hg j (by have := List.mem_range.mp hj; omega)]
      rw [hXF] at hP hD
      exact W.vret hx hb hr (fun t ht hW => ⟨⟨(), rfl, rfl, by rw [ht]; exact hP, by rw [hAe]; exact hD⟩, hS.F ht⟩) hS.2.2 dX11_copyRows_42
    | succ q ih =>
      intro i hi X H locs ls hg hP hD hS hl
      have hin : i < n := by omega
      have hvi : vp_in (nI i) n := vp_in_nI hin hn
      have hci : (nI i).toNatClampNeg = i := nI_clamp (by omega)
      refine lv_iload_n hx hb dX11_copyRows_2 rfl (lv_at hl 2 rfl) ?_
      refine lv_aload_n hx hb dX11_copyRows_3 rfl (lv_at hl 0 rfl) ?_
      refine va_alen (v := nI n) hx hb hK hP 0 2 (a0 X) rfl rfl dX11_copyRows_4 ?_
      refine lv_icmp_ge (tgt := 42) hx hb dX11_copyRows_5 (by decide) (fun cc => absurd cc (nI_ge hin hn)) (fun cc => ?_)
      refine lv_iload_n hx hb dX11_copyRows_8 rfl (lv_at hl 2 rfl) ?_
      refine lv_aload_n hx hb dX11_copyRows_9 rfl (lv_at hl 1 rfl) ?_
      refine va_alen (v := nI n) hx hb hK hP (n + 1) 2 (b0 X) rfl rfl dX11_copyRows_10 ?_
      refine lv_icmp_ge (tgt := 42) hx hb dX11_copyRows_11 (by decide) (fun cc => absurd cc (nI_ge hin hn)) (fun cc => ?_)
      refine lv_aload_n hx hb dX11_copyRows_14 rfl (lv_at hl 0 rfl) ?_
      refine lv_iload_n hx hb dX11_copyRows_15 rfl (lv_at hl 2 rfl) ?_
      refine r_aldR (n := n) (o := o) (ad := a) (j := i) hx hb hK hP 0 2 (a0 X) rfl hvi hci dX11_copyRows_16 ?_
      refine lv_iconst (v := nI 0) hx hb dX11_copyRows_17 (by decide) ?_
      refine lv_aload_n hx hb dX11_copyRows_18 rfl (lv_at hl 1 rfl) ?_
      refine lv_iload_n hx hb dX11_copyRows_19 rfl (lv_at hl 2 rfl) ?_
      refine r_aldR (n := n) (o := z) (ad := b) (j := i) hx hb hK hP (n + 1) 2 (b0 X) rfl hvi hci dX11_copyRows_20 ?_
      refine lv_iconst (v := nI 0) hx hb dX11_copyRows_21 (by decide) ?_
      refine lv_aload_n hx hb dX11_copyRows_22 rfl (lv_at hl 0 rfl) ?_
      refine lv_iload_n hx hb dX11_copyRows_23 rfl (lv_at hl 2 rfl) ?_
      refine r_aldR (n := n) (o := o) (ad := a) (j := i) hx hb hK hP 0 2 (a0 X) rfl hvi hci dX11_copyRows_24 ?_
      refine va_alen (v := nI k) hx hb hK hP (i + 1) 0 (aj X i hin) rfl rfl dX11_copyRows_25 ?_
      refine lv_aload_n hx hb dX11_copyRows_26 rfl (lv_at hl 1 rfl) ?_
      refine lv_iload_n hx hb dX11_copyRows_27 rfl (lv_at hl 2 rfl) ?_
      refine r_aldR (n := n) (o := z) (ad := b) (j := i) hx hb hK hP (n + 1) 2 (b0 X) rfl hvi hci dX11_copyRows_28 ?_
      refine va_alen (v := nI k) hx hb hK hP (n + 1 + (i + 1)) 0 (bj X i hin) rfl rfl dX11_copyRows_29 ?_
      refine va_mmin hx hb (hml.trans hl.1.symm) hown (hts (.methodLink RX11 325 Lib.Math.min.name) (by decide +kernel)) (hts (.static Lib.Math.min.name) (by decide +kernel)) (hts (.initialized "java/lang/Math") (by decide +kernel)) (hts (.code Lib.Math.min.name Lib.Math.min.code 2 (some .int)) (by decide +kernel)) (Nat.le_of_ble_eq_true rfl) (Nat.le_of_ble_eq_true rfl) (Nat.zero_le _) (Nat.zero_le _) dX11_copyRows_30 ?_
      refine lv_topi (fun y ey => ?_)
      have ey2 : y = nI k := by rw [ey]; split <;> rfl
      subst ey2
      clear ey
      refine va_copyi (ty := .int) hx hb (hml.trans hl.1.symm) hown (hts (.methodLink RX11 330 arraycopyName) (by decide +kernel)) (hts (.native arraycopyName) (by decide +kernel)) (hts (.static arraycopyName) (by decide +kernel)) (hts (.initialized "java/lang/System") (by decide +kernel)) hK hP hD hS (i + 1) (n + 1 + (i + 1)) 0 0 (aj X i hin) (bj X i hin) rfl rfl rfl (by decide) (by decide) (nI_pos hk) (by rw [h0, nI_clamp hk]; omega) (by rw [h0, nI_clamp hk]; omega) (fun _ _ => rfl) (Nat.le_of_ble_eq_true rfl) (by decide +kernel) dX11_copyRows_33 (fun H locs hP hD hS => ?_)
      rw [h0, nI_clamp hk] at hP
      have hset : ∀ f : Nat → Int32, (rowsW (cy 2) (cy 0) a o n k F ++ rowsW (cy 2) (cy 0) b z n k X).set (n + 1 + (i + 1)) (b (z + 1 + i), .inl (cy 0, k, .inl f)) = rowsW (cy 2) (cy 0) a o n k F ++ rowsW (cy 2) (cy 0) b z n k (upd2 X i f) := fun f => by
        rw [List.set_append_right _ _ (by rw [rowsW_len]; omega), rowsW_len, Nat.add_sub_cancel_left, rowsW_set _ _ _ _ _ _ _ hin]
      have hcell : vp_cell (cy 0) (k, .inl (va_cpy (F i) (X i) 0 0 k)) = vp_cell (cy 0) (k, .inl (F i)) := cell_eq (fun j hj => by rw [pk_cpy_in (Nat.zero_le _) (by omega)]; simp)
      have hP2 : va_P D vwCl ((rowsW (cy 2) (cy 0) a o n k F ++ rowsW (cy 2) (cy 0) b z n k X).set (n + 1 + (i + 1)) (b (z + 1 + i), .inl (cy 0, k, .inl (F i)))) H := by
        intro w q hq
        rw [List.getElem?_set] at hq
        by_cases hw : n + 1 + (i + 1) = w
        · have h9 := hP w (b (z + 1 + i), .inl (cy 0, k, .inl (va_cpy (F i) (X i) 0 0 k)))
          rw [List.getElem?_set, if_pos hw] at h9
          rw [if_pos hw] at hq
          split at hq
          · rename_i h8
            rw [if_pos h8] at h9
            cases hq
            have h7 := h9 rfl
            show H[b (z + 1 + i)]? = some (vp_cell (cy 0) (k, .inl (F i)))
            rw [← hcell]
            exact h7
          · cases hq
        · rw [if_neg hw] at hq
          have h9 := hP w q
          rw [List.getElem?_set, if_neg hw] at h9
          exact h9 hq
      have hD2 : va_D A ((rowsW (cy 2) (cy 0) a o n k F ++ rowsW (cy 2) (cy 0) b z n k X).set (n + 1 + (i + 1)) (b (z + 1 + i), .inl (cy 0, k, .inl (F i)))) := D_addr hD (by rw [List.map_set, List.map_set])
      rw [hset] at hP2 hD2
      refine lv_iinc (v := nI (i + 1)) (lv' := [(2, .int (nI (i + 1))), (0, .ref (a o)), (1, .ref (b z))]) hx hb dX11_copyRows_36 hl (k := 2) rfl (nI_succ i).symm (by decide) rfl (fun ls hl => ?_)
      refine lv_goto (tgt := 2) hx hb dX11_copyRows_39 (by decide) ?_
      refine ih (i + 1) (by omega) (upd2 X i (F i)) H locs ls (fun j hj => ?_) hP2 hD2 hS (lv_sub hl [1, 2, 0] rfl)
      by_cases h : j = i
      · rw [h]; simp [upd2]
      · simp only [upd2, if_neg h]; exact hg j (by omega)
  exact L n 0 (by omega) G s.heap [] ls (fun j hj => absurd hj (by omega)) hP hD hS (lv_sub hl [1, 2, 0] rfl)
