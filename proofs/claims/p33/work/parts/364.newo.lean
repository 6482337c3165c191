section XT
variable {p : Program} {l : Launch} {e : Env} {s : State} {m : MethodId} {args : Array Value} {below : List Frame} {meth : Method} {c : Code} {H : Heap} {locs : List Loc} {Q : State → Prop}
variable {ls : Array Slot} {D : va_G} {cy : Nat → ClassId} {tt : Nat → Nat} {A : Nat → Prop} {u : Nat → Nat} {o h0 : Nat}
set_option maxHeartbeats 4000000 in
set_option maxRecDepth 100000 in
theorem X0_turn2 (hx : p.tables.exec = Jvm.exec) (hb : c.code = cX0_init) (hml : c.maxLocals = 2) (hts : ∀ w ∈ wsX0_init, w.before args s = true) (hown : s.vm.findClass RX0 = some m.cls) (hG : gK D cy s) (hT : gT "RULE_AT_FIRST" (tt 4) 6 tab4 A s s.heap) (hA : ∀ q : Nat, s.heap.size ≤ q → A q) (eu : u o = h0) (hP : va_P D vwCl (wX0 cy u o (cI 2 2)) H) (hD : va_D A (wX0 cy u o (cI 2 2))) (hS : va_S A s.heap H locs) (hl : lv_has ls 2 [(1, .int (nI 2)), (0, .ref h0)]) (kk : ∀ (H : Heap) (locs : List Loc) (ls : Array Slot), va_P D vwCl (wX0 cy u o (cI 3 3)) H → va_D A (wX0 cy u o (cI 3 3)) → va_S A s.heap H locs → lv_has ls 2 [(1, .int (nI 3)), (0, .ref h0)] → W p l e ({ frames := 4, cells := 52, slots := 721, locals := 121 } : Room) s m args below meth c H locs 52 721 Q (F0 m 132 ls [])) : W p l e ({ frames := 4, cells := 52, slots := 721, locals := 121 } : Room) s m args below meth c H locs 52 721 Q (F0 m 132 ls []) := by
  subst eu
  have hf85 := va_Nw.use (A := args) (U := s) (w := .fieldLinkNest "PianoRounds$Competition" 85 "PianoRounds" "RULE_AT_FIRST" "[I" "PianoRounds") rfl (hG.2.1 _ (by decide +kernel))
  have hK := hG.1
  refine lv_iload_n hx hb dX0_init_132 rfl (lv_at hl 0 rfl) ?_
  refine lv_iconst (v := (4 : Int32)) hx hb dX0_init_133 (by decide) ?_
  refine lv_icmp_ge (tgt := 165) hx hb dX0_init_134 (by decide) (fun cc => absurd cc (show ¬ (4 : Int32) ≤ nI 2 by decide)) (fun cc => ?_)
  refine va_getsN hx hb hT.1 hS hown hf85 (fun _ h9 => h9) dX0_init_137 ?_
  have hP1 : va_P D vwCl (hX0 u o (cI 2 2)) H := cutP hP (sp0 2 2)
  refine lv_aload_n hx hb dX0_init_140 rfl (lv_at hl 1 rfl) ?_
  refine va_get (D := D) (ci := 0) (v := .ref (u (o + 7))) (C := RX0) (T := TX0) (N := 14) hx hb hts (by decide +kernel) hown hK hP1 0 rfl rfl 6 (by decide) (hts (.fieldLink RX0 37 "PianoRounds$Competition" "rules" "[[I") (by decide +kernel)) (fun _ h9 => h9) rfl dX0_init_141 ?_
  refine lv_iload_n hx hb dX0_init_144 rfl (lv_at hl 0 rfl) ?_
  have hP2 := cutP hP (sp1 (cy := cy) (u := u) (o := o) 2 2)
  refine r_aldR (n := 4) (o := o + 7) (ad := u) (j := 2) hx hb hK hP2 0 2 rfl rfl (show vp_in (nI 2) 4 by unfold vp_in; decide) (by decide) dX0_init_145 ?_
  refine smRT (t := tt 4) (b := u (o + 7 + 1 + 2)) (N := 6) (f := tab4) (g := fun _ => 0) (ws := wX0 cy u o (cI 2 2)) (ws' := wX0 cy u o (cI 3 2)) (fun hp => va_runSN (As := [.ref (tt 4), .ref (u (o + 7 + 1 + 2))]) (rest := []) ⟨hx, hb, hml, hown, hts⟩ (qX11_copyRowT l D cy (tt 4) (u (o + 7 + 1 + 2)) 6 (by decide) tab4 (fun _ => 0) H.size) ⟨va_cnB (y := yX11_copyRow) 2 hts gX0_init_X11_copyRow_n89 rfl rfl rfl (hG.2.2.1 (.methodLinkNest "PianoRounds$Competition" 89 ⟨"PianoRounds", "copyRow", "([I[I)V"⟩ "PianoRounds") (by decide +kernel)) (hts (.initialized RX11) (by decide +kernel)) (by decide +kernel) ⟨Nat.le_of_ble_eq_true rfl, Nat.le_of_ble_eq_true rfl⟩, hts (.static yX11_copyRow) (by decide +kernel), trivial⟩ hp rfl rfl hl.1 rfl (lv_room (Nat.le_of_ble_eq_true rfl)) dX0_init_146 ⟨Nat.le_of_ble_eq_true rfl, Nat.le_of_ble_eq_true rfl⟩) hG hT.2 hP hD hS hA (pmRow 3 rfl (sp1 2 2)) (pmRow' (y := (u (o + 7 + 1 + 2), .inl (cy 0, 6, .inl tab4))) 3 rfl (sp1 3 2)) (fun H locs hP hD hS => ?_)
  have hP1 : va_P D vwCl (hX0 u o (cI 3 2)) H := cutP hP (sp0 3 2)
  refine lv_aload_n hx hb dX0_init_149 rfl (lv_at hl 1 rfl) ?_
  refine va_get (D := D) (ci := 0) (v := .ref (u (o + 46))) (C := RX0) (T := TX0) (N := 14) hx hb hts (by decide +kernel) hown hK hP1 0 rfl rfl 12 (by decide) (hts (.fieldLink RX0 75 "PianoRounds$Competition" "closedScores" "[[I") (by decide +kernel)) (fun _ h9 => h9) rfl dX0_init_150 ?_
  refine lv_iload_n hx hb dX0_init_153 rfl (lv_at hl 0 rfl) ?_
  have hP2 := cutP hP (sp2 (cy := cy) (u := u) (o := o) 3 2)
  refine r_aldR (n := 4) (o := o + 46) (ad := u) (j := 2) hx hb hK hP2 0 2 rfl rfl (show vp_in (nI 2) 4 by unfold vp_in; decide) (by decide) dX0_init_154 ?_
  refine lv_iconst (v := ((-1) : Int32)) hx hb dX0_init_155 (by decide) ?_
  refine smC1 (b := u (o + 46 + 1 + 2)) (e0 := .inl (cy 0, 12, .inl (fun _ => 0))) (e1 := .inl (cy 0, 12, .inl (fun _ => (-1 : Int32)))) (ws' := wX0 cy u o (cI 3 3)) (fun hp => va_runS (As := [.ref (u (o + 46 + 1 + 2)), .int (-1 : Int32)]) (rest := []) ⟨hx, hb, hml, hown, hts⟩ (qJ7_fill l D cy (u (o + 46 + 1 + 2)) 12 (by decide) (fun _ => 0) (-1 : Int32) (H).size) (va_cwS 2 hts gX0_init_J7_fill_53178 rfl rfl rfl (by decide +kernel) ⟨Nat.le_of_ble_eq_true rfl, Nat.le_of_ble_eq_true rfl⟩) hp rfl rfl hl.1 rfl (lv_room (Nat.le_of_ble_eq_true rfl)) dX0_init_156 ⟨Nat.le_of_ble_eq_true rfl, Nat.le_of_ble_eq_true rfl⟩) hG hP hD hS hA (pmRow 3 rfl (sp2 3 2)) (pmRow' (y := (u (o + 46 + 1 + 2), .inl (cy 0, 12, .inl (fun _ => (-1 : Int32))))) 3 rfl (sp2 3 3)) (fun H locs hP hD hS => ?_)
  refine lv_iinc (v := nI 3) (lv' := [(1, .int (nI 3)), (0, .ref (u o))]) hx hb dX0_init_159 hl (k := 0) rfl (by decide) (by decide) rfl (fun ls hl => ?_)
  refine lv_goto (tgt := 132) hx hb dX0_init_162 (by decide) ?_
  exact kk H locs ls hP hD hS hl
end XT
