theorem va_AOA.moved {t : FieldType} {u U : State} (hvm : u.vm.Alike U.vm) (h : va_AOA t u) : va_AOA t U := by
  have e : (Cond.arrayOver (.array t)).before #[] (u.setVm U.vm) = (Cond.arrayOver (.array t)).before #[] U := rfl
  exact e.symm.trans ((Cond.arrayOver_setVmC (args := #[]) hvm (.array t)).trans h)
/-- what the makers of arrays of references ask of the launch -/
def gO (U : State) : Prop := va_AOA .int U ∧ va_AO "PianoRounds$Competition" U
theorem gO.moved {u U : State} (hvm : u.vm.Alike U.vm) (h : gO u) : gO U := ⟨h.1.moved hvm, h.2.moved hvm⟩
abbrev nP (D : va_G) (cy : Nat → ClassId) (sz : Nat) (av : List Value) (w0 : va_W) : Array Value → State → Prop := va_Pc av (fun U => U.heap.size = sz ∧ va_P D vwCl w0 U.heap ∧ gK D cy U ∧ va_D (fun _ => True) w0 ∧ gO U)
theorem rows_eq {cO cI : ClassId} {a a' : Nat → Nat} {o o' n k : Nat} {R : Nat → Nat → Int32} (h0 : a o = a' o') (h : ∀ i : Nat, i < n → a (o + 1 + i) = a' (o' + 1 + i)) : rowsW cO cI a o n k R = rowsW cO cI a' o' n k R := by
  unfold rowsW
  rw [h0]
  congr 1
  · have e : (fun i => if i < n then some (a (o + 1 + i)) else none) = (fun i => if i < n then some (a' (o' + 1 + i)) else none) := by
      funext i
      by_cases q : i < n
      · rw [if_pos q, if_pos q, h i q]
      · rw [if_neg q, if_neg q]
    rw [e]
  · refine List.map_congr_left fun i hi => ?_
    rw [h i (List.mem_range.mp hi)]
section NR
variable {p : Program} {l : Launch} {e : Env} {R : Room} {s : State} {m : MethodId} {args : Array Value} {below : List Frame} {meth : Method} {c : Code} {H H0 : Heap} {locs : List Loc} {cells slots : Nat} {Q : State → Prop}
variable {rest : List Value} {pc : Nat} {ls : Array Slot} {D : va_G} {cy : Nat → ClassId} {A : Nat → Prop} {ws : va_W} {cc : ByteArray}
/-- new rows of ints -/
theorem va_newr (hexec : p.tables.exec = Jvm.exec) (hb : c.code = cc) {own : String} {index : Nat} (hown : s.vm.findClass own = some m.cls) (hclink : (Cond.classLink own index "[[I").before args s = true) (hover : va_AOA .int s) (harr : (Cond.arrayClass .int).before args s = true) (hK : va_K D vwCl (TY cy) s) (hP : va_P D vwCl ws H) (hD : va_D A ws) (hS : va_S A H0 H locs) (hA : ∀ q, H0.size ≤ q → A q)
    {n k : Int32} {N' K' : Nat} (hn : ¬ n < 0) (hk : ¬ k < 0) (hN : n.toNatClampNeg = N') (hM : k.toNatClampNeg = K') (hb1 : N' * 4 ≤ 536870912) (hb2 : K' * 4 ≤ 536870912) (hb3 : K' ≤ 536870912) (hcells : cells + (1 + N') ≤ R.cells) (hslots : slots + (N' + N' * K') ≤ R.slots) (hdg : decode cc pc = .ok (.multianewarray index 2, 4))
    (kk : ∀ (v : Nat → Nat) (H1 : Heap), va_P D vwCl (ws ++ rowsW (cy 2) (cy 0) v 0 N' K' (fun _ _ => 0)) H1 → va_D A (ws ++ rowsW (cy 2) (cy 0) v 0 N' K' (fun _ _ => 0)) → va_S A H0 H1 locs →
      W p l e R s m args below meth c H1 locs (cells + 1 + N') (slots + N' + N' * K') Q (F0 m (pc + 4) ls (.ref (v 0) :: rest))) : W p l e R s m args below meth c H locs cells slots Q (F0 m pc ls (.int k :: .int n :: rest)) := by
  have hP' : va_P D vwCl (ws ++ va_pl [] (fun _ => .inl (cy 0, 0, .inl (fun _ => 0)))) H := by
    show va_P D vwCl (ws ++ []) H
    rw [List.append_nil]
    exact hP
  have hD' : va_D A (ws ++ va_pl [] (fun _ => .inl (cy 0, 0, .inl (fun _ => 0)))) := by
    show va_D A (ws ++ [])
    rw [List.append_nil]
    exact hD
  refine va_mna (X := ws) (L := []) (f := fun _ => .inl (cy 0, 0, .inl (fun _ => 0))) (ty := .int) (cy := cy 0) (z := (K', .inl (fun _ => 0))) hexec hb hown hclink hover harr (hK.2 0 _ rfl).2 hK hP' hD' hS hA hn hk hN hM hb1 hb2 hb3 rfl rfl hcells hslots (fun c => by show ({ cls := c, slots := Array.replicate K' (.int 0), vm := .none } : Cell) = _; rw [arrV_new]; rfl) hdg (fun q r cA H1 hi hnot hK1 hP1 hD1 hS1 => ?_)
  have h0 : s.vm.findClass ("[" ++ (FieldType.array .int).toString) = some (cy 2) := (hK.2 2 _ rfl).2
  have h1 : s.vm.findClass ("[" ++ (FieldType.array .int).toString) = some cA := (hK1.2 3 _ rfl).2
  have e1 : cA = cy 2 := Option.some.inj (h1.symm.trans h0)
  subst e1
  have ew : (ws ++ [(q, (.inl (cy 2, N', .inr (.inr (.inr (.inr (fun i => if i < N' then some (r i) else none))))) : va_E))]) ++ va_pl ([] ++ (List.range N').map r) (vr_up (fun _ => .inl (cy 0, 0, .inl (fun _ => 0))) ((List.range N').map r) (.inl (cy 0, (K', .inl (fun _ => 0))))) = ws ++ rowsW (cy 2) (cy 0) (fun k => if k = 0 then q else r (k - 1)) 0 N' K' (fun _ _ => 0) := by
    rw [List.append_assoc]
    congr 1
    have hv : ∀ i : Nat, (if 0 + 1 + i = 0 then q else r (0 + 1 + i - 1)) = r i := fun i => by rw [if_neg (by omega), show 0 + 1 + i - 1 = i by omega]
    unfold rowsW va_pl
    simp only [hv]
    rw [List.nil_append, List.map_map]
    show _ :: _ = _ :: _
    congr 1
    refine List.map_congr_left fun i hi => ?_
    show (r i, vr_up _ _ _ (r i)) = _
    rw [vr_up_in (List.mem_map.mpr ⟨i, hi, rfl⟩)]
  rw [ew] at hP1 hD1
  exact kk _ H1 hP1 hD1 hS1
end NR
/-- a sheet with no mark -/
theorem qX6_init (l : Launch) (D : va_G) (cy : Nat → ClassId) (o h0 : Nat) (sz : Nat) : Met l yX6_init wsX6_init ({ frames := 2, cells := 8, slots := 91, locals := 44 } : Room) (nP D cy sz [.ref h0] [(h0, .inr (6, [.null]))]) (va_Qv (fun (u : Nat → Nat) => u o = h0) (fun u t => mB D sz [(h0, .inr (6, [.null]))] (wX6 cy u o sh0) t) (va_A [(h0, .inr (6, [.null]))] sz)) 8 91 (va_A [(h0, .inr (6, [.null]))] sz) := by
  refine Met.ofW (cc := cX6_init) (maxL := 1) (ret := none) (by decide) rfl ?_
  intro p e s m args below meth c s₁ B hml hv
  obtain ⟨rfl, hsz, hP, hG, hD0, hO⟩ := hv
  have hx := B.exec
  have hb := B.bytes
  have hr := B.returns
  have hts := atoms_spec (ws := wsX6_init) B.pre
  have hown : s.vm.findClass RX6 = some m.cls := findClass_of_methodNamed B.named
  have hlocks := B.notSynchronized
  have hin : meth.name = "<init>" := (name_of_methodNamed B.named B.method).1
  have hK := hG.1
  subst hsz
  have hD := hD0.self (sz := s.heap.size)
  generalize hAe : va_A [(h0, .inr (6, [.null]))] s.heap.size = A at hD ⊢
  have hA : ∀ q : Nat, s.heap.size ≤ q → A q := fun q h => by rw [← hAe]; exact Or.inr h
  have hS : va_S A s.heap s.heap [] := va_S.rf
  have hP : va_P D vwCl [(h0, .inr (6, [.null]))] s.heap := hP
  have hl := lv_entry ([.ref h0]) (n := 1) (Nat.le_of_ble_eq_true rfl)
  rw [lg_entry_eq]
  generalize (lg_sl ([.ref h0]) ++ List.replicate (1 - (lg_sl ([.ref h0])).length) Slot.unset).toArray = ls at hl ⊢
  have hl : lv_has ls 1 [(0, .ref h0)] := hl
  refine lv_aload_n hx hb dX6_init_0 rfl (lv_at hl 0 rfl) ?_
  refine W.objInit hx hb hown (hts (.methodLink RX6 3 objectInit) (by decide +kernel)) (hts (.instanceMethod objectInit) (by decide +kernel)) (hts (.code objectInit ⟨#[0xb1]⟩ 1 none) (by decide +kernel)) rfl (by rw [hml]; exact hl.1) rfl dX6_init_1 (Nat.le_of_ble_eq_true rfl) (Nat.le_of_ble_eq_true rfl) ?_
  refine W.eq (g2 := F0 m 4 ls []) rfl ?_
  refine lv_aload_n hx hb dX6_init_4 rfl (lv_at hl 0 rfl) ?_
  refine lv_bipush (v := (7 : Int32)) hx hb dX6_init_5 (by decide) ?_
  refine lv_bipush (v := (12 : Int32)) hx hb dX6_init_7 (by decide) ?_
  refine va_newr (N' := 7) (K' := 12) hx hb hown (hts (.classLink RX6 9 "[[I") (by decide +kernel)) hO.1 (hts (.arrayClass .int) (by decide +kernel)) hK hP hD hS hA (by decide) (by decide) (by decide) (by decide) (by decide) (by decide) (by decide) (Nat.le_of_ble_eq_true rfl) (Nat.le_of_ble_eq_true rfl) dX6_init_9 (fun v H hP hD hS => ?_)
  refine va_putF (D := D) (ci := 6) (v := .ref (v 0)) (ty := .array (.array .int)) (C := RX6) (T := TX6) (N := 1) hx hb hts (by decide +kernel) tyX6 tyX6_ok nmX6 hown hK hP hD hS 0 rfl rfl 0 (by decide) (hts (.fieldLink RX6 11 "PianoRounds$Sheet" "rows" "[[I") (by decide +kernel)) (fun _ h9 => h9) rfl hin rfl (by decide +kernel) rfl rfl (Nat.le_of_ble_eq_true rfl) dX6_init_13 (fun H locs hP hD hS => ?_)
  have hP : va_P D vwCl ([(h0, .inr (6, [.ref (v 0)]))] ++ rowsW (cy 2) (cy 0) v 0 7 12 (fun _ _ => 0)) H := hP
  have hD : va_D A ([(h0, .inr (6, [.ref (v 0)]))] ++ rowsW (cy 2) (cy 0) v 0 7 12 (fun _ _ => 0)) := hD
  obtain ⟨u, hu⟩ : ∃ u : Nat → Nat, u = fun k => if k = o then h0 else v (k - (o + 1)) := ⟨_, rfl⟩
  have eu : u o = h0 := by rw [hu]; exact if_pos rfl
  have e1 : u (o + 1) = v 0 := by rw [hu]; show (if o + 1 = o then h0 else v (o + 1 - (o + 1))) = v 0; rw [if_neg (by omega), Nat.sub_self]
  have er : rowsW (cy 2) (cy 0) u (o + 1) 7 12 (fun _ _ => 0) = rowsW (cy 2) (cy 0) v 0 7 12 (fun _ _ => 0) := rows_eq e1 fun i hi => by rw [hu]; show (if o + 1 + 1 + i = o then h0 else v (o + 1 + 1 + i - (o + 1))) = v (0 + 1 + i); rw [if_neg (by omega), show o + 1 + 1 + i - (o + 1) = 0 + 1 + i by omega]
  have ew : wX6 cy u o ((fun _ _ => 0) : SX6) = [(h0, .inr (6, [.ref (v 0)]))] ++ rowsW (cy 2) (cy 0) v 0 7 12 (fun _ _ => 0) := by
    unfold wX6 hX6
    rw [eu, e1, ← er]
    rfl
  refine lv_aload_n hx hb dX6_init_16 rfl (lv_at hl 0 rfl) ?_
  have hM := qX6_wipe l D cy u o ((fun _ _ => 0) : SX6) H.size _ (C_wipe _)
  rw [eu, ew] at hM
  refine smVv (As := []) (rest := []) (ws' := wX6 cy u o sh0) (q0 := 0) hM ⟨hx, hb, hml, hown, hts⟩ (cwV 0 hts gX6_init_X6_wipe rfl rfl rfl (by decide +kernel) ⟨Nat.le_of_ble_eq_true rfl, Nat.le_of_ble_eq_true rfl⟩) hG hP hD hS hA (List.Perm.of_eq (List.append_nil _).symm) (List.Perm.of_eq (List.append_nil _).symm) rfl rfl rfl hl.1 rfl (Nat.le_of_ble_eq_true rfl) dX6_init_17 ⟨Nat.le_of_ble_eq_true rfl, Nat.le_of_ble_eq_true rfl⟩ (fun H locs hP hD hS => ?_)
  refine W.widen (k := 8) (n := 91) (by decide) (by decide) ?_
  exact W.vret hx hb hr (fun t ht hW => ⟨⟨u, rfl, eu, by rw [ht]; exact hP, by rw [hAe]; exact hD⟩, hS.F ht⟩) hS.2.2 dX6_init_20
theorem qX3_init (l : Launch) (D : va_G) (cy : Nat → ClassId) (o h0 : Nat) (sz : Nat) : Met l yX3_init wsX3_init ({ frames := 1, cells := 8, slots := 91, locals := 20 } : Room) (nP D cy sz [.ref h0] [(h0, .inr (3, [.int 0, .null]))]) (va_Qv (fun (u : Nat → Nat) => u o = h0) (fun u t => mB D sz [(h0, .inr (3, [.int 0, .null]))] (wX3 cy u o ((5, fun _ _ => 0) : SX3)) t) (va_A [(h0, .inr (3, [.int 0, .null]))] sz)) 8 91 (va_A [(h0, .inr (3, [.int 0, .null]))] sz) := by
  refine Met.ofW (cc := cX3_init) (maxL := 1) (ret := none) (by decide) rfl ?_
  intro p e s m args below meth c s₁ B hml hv
  obtain ⟨rfl, hsz, hP, hG, hD0, hO⟩ := hv
  have hx := B.exec
  have hb := B.bytes
  have hr := B.returns
  have hts := atoms_spec (ws := wsX3_init) B.pre
  have hown : s.vm.findClass RX3 = some m.cls := findClass_of_methodNamed B.named
  have hlocks := B.notSynchronized
  have hin : meth.name = "<init>" := (name_of_methodNamed B.named B.method).1
  have hK := hG.1
  subst hsz
  have hD := hD0.self (sz := s.heap.size)
  generalize hAe : va_A [(h0, .inr (3, [.int 0, .null]))] s.heap.size = A at hD ⊢
  have hA : ∀ q : Nat, s.heap.size ≤ q → A q := fun q h => by rw [← hAe]; exact Or.inr h
  have hS : va_S A s.heap s.heap [] := va_S.rf
  have hP : va_P D vwCl [(h0, .inr (3, [.int 0, .null]))] s.heap := hP
  have hl := lv_entry ([.ref h0]) (n := 1) (Nat.le_of_ble_eq_true rfl)
  rw [lg_entry_eq]
  generalize (lg_sl ([.ref h0]) ++ List.replicate (1 - (lg_sl ([.ref h0])).length) Slot.unset).toArray = ls at hl ⊢
  have hl : lv_has ls 1 [(0, .ref h0)] := hl
  refine lv_aload_n hx hb dX3_init_0 rfl (lv_at hl 0 rfl) ?_
  refine W.objInit hx hb hown (hts (.methodLink RX3 3 objectInit) (by decide +kernel)) (hts (.instanceMethod objectInit) (by decide +kernel)) (hts (.code objectInit ⟨#[0xb1]⟩ 1 none) (by decide +kernel)) rfl (by rw [hml]; exact hl.1) rfl dX3_init_1 (Nat.le_of_ble_eq_true rfl) (Nat.le_of_ble_eq_true rfl) ?_
  refine W.eq (g2 := F0 m 4 ls []) rfl ?_
  refine lv_aload_n hx hb dX3_init_4 rfl (lv_at hl 0 rfl) ?_
  refine lv_iconst (v := (5 : Int32)) hx hb dX3_init_5 (by decide) ?_
  refine va_put (D := D) (ci := 3) (v := .int 5) (ty := .int) (C := RX3) (T := TX3) (N := 2) hx hb hts (by decide +kernel) tyX3 tyX3_ok nmX3 hown hK hP hD hS 0 rfl rfl 0 (by decide) (hts (.fieldLink RX3 9 "PianoRounds$Jury" "size" "I") (by decide +kernel)) (fun _ h9 => h9) rfl (by decide +kernel) rfl rfl (Nat.le_of_ble_eq_true rfl) dX3_init_6 (fun H locs hP hD hS => ?_)
  have hP : va_P D vwCl [(h0, .inr (3, [.int 5, .null]))] H := hP
  have hD : va_D A [(h0, .inr (3, [.int 5, .null]))] := hD
  refine lv_aload_n hx hb dX3_init_9 rfl (lv_at hl 0 rfl) ?_
  refine lv_bipush (v := (7 : Int32)) hx hb dX3_init_10 (by decide) ?_
  refine lv_bipush (v := (12 : Int32)) hx hb dX3_init_12 (by decide) ?_
  refine va_newr (N' := 7) (K' := 12) hx hb hown (hts (.classLink RX3 15 "[[I") (by decide +kernel)) hO.1 (hts (.arrayClass .int) (by decide +kernel)) hK hP hD hS hA (by decide) (by decide) (by decide) (by decide) (by decide) (by decide) (by decide) (Nat.le_of_ble_eq_true rfl) (Nat.le_of_ble_eq_true rfl) dX3_init_14 (fun v H hP hD hS => ?_)
  refine va_putF (D := D) (ci := 3) (v := .ref (v 0)) (ty := .array (.array .int)) (C := RX3) (T := TX3) (N := 2) hx hb hts (by decide +kernel) tyX3 tyX3_ok nmX3 hown hK hP hD hS 0 rfl rfl 1 (by decide) (hts (.fieldLink RX3 17 "PianoRounds$Jury" "barred" "[[I") (by decide +kernel)) (fun _ h9 => h9) rfl hin rfl (by decide +kernel) rfl rfl (Nat.le_of_ble_eq_true rfl) dX3_init_18 (fun H locs hP hD hS => ?_)
  have hP : va_P D vwCl ([(h0, .inr (3, [.int 5, .ref (v 0)]))] ++ rowsW (cy 2) (cy 0) v 0 7 12 (fun _ _ => 0)) H := hP
  have hD : va_D A ([(h0, .inr (3, [.int 5, .ref (v 0)]))] ++ rowsW (cy 2) (cy 0) v 0 7 12 (fun _ _ => 0)) := hD
  obtain ⟨u, hu⟩ : ∃ u : Nat → Nat, u = fun k => if k = o then h0 else v (k - (o + 1)) := ⟨_, rfl⟩
  have eu : u o = h0 := by rw [hu]; exact if_pos rfl
  have e1 : u (o + 1) = v 0 := by rw [hu]; show (if o + 1 = o then h0 else v (o + 1 - (o + 1))) = v 0; rw [if_neg (by omega), Nat.sub_self]
  have er : rowsW (cy 2) (cy 0) u (o + 1) 7 12 (fun _ _ => 0) = rowsW (cy 2) (cy 0) v 0 7 12 (fun _ _ => 0) := rows_eq e1 fun i hi => by rw [hu]; show (if o + 1 + 1 + i = o then h0 else v (o + 1 + 1 + i - (o + 1))) = v (0 + 1 + i); rw [if_neg (by omega), show o + 1 + 1 + i - (o + 1) = 0 + 1 + i by omega]
  have ew : wX3 cy u o ((5, fun _ _ => 0) : SX3) = [(h0, .inr (3, [.int 5, .ref (v 0)]))] ++ rowsW (cy 2) (cy 0) v 0 7 12 (fun _ _ => 0) := by
    unfold wX3 hX3
    rw [eu, e1, ← er]
    rfl
  refine W.widen (k := 8) (n := 91) (by decide) (by decide) ?_
  exact W.vret hx hb hr (fun t ht hW => ⟨⟨u, rfl, eu, by rw [ht, ew]; exact hP, by rw [ew, hAe]; exact hD⟩, hS.F ht⟩) hS.2.2 dX3_init_21
