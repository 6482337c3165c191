theorem wX6_eq {cy : Nat → ClassId} {a a' : Nat → Nat} {o : Nat} {S : SX6} (h : ∀ k : Nat, o ≤ k → k < o + 9 → a k = a' k) : wX6 cy a o S = wX6 cy a' o S := by
  unfold wX6 hX6
  rw [h o (by omega) (by omega), h (o + 1) (by omega) (by omega), rows_eq (a := a) (a' := a') (o := o + 1) (o' := o + 1) (h (o + 1) (by omega) (by omega)) fun i hi => h (o + 1 + 1 + i) (by omega) (by omega)]
section SN
variable {p : Program} {l : Launch} {e : Env} {R : Room} {s : State} {m : MethodId} {args : Array Value} {below : List Frame} {meth : Method} {c : Code} {H H0 : Heap} {locs : List Loc} {cells slots : Nat} {Q : State → Prop}
variable {rest st0 : List Value} {pc : Nat} {ls : Array Slot} {D : va_G} {cy : Nat → ClassId} {A0 : Nat → Prop} {ws : va_W} {mc ms : Nat}
/-- a constructor called on a new object -/
theorem smN {wf : (Nat → Nat) → va_W} {q oc ci : Nat} {fs : List Value} (run : PreS s H (nP D cy H.size [.ref q] [(q, .inr (ci, fs))]) [.ref q] → va_Run p l e R s m args below meth c H locs cells slots mc ms (F0 m pc ls st0) rest (va_Qv (fun (u : Nat → Nat) => u oc = q) (fun u t => mB D H.size [(q, .inr (ci, fs))] (wf u) t) (va_A [(q, .inr (ci, fs))] H.size) ([.ref q] : List Value).toArray) (va_A [(q, .inr (ci, fs))] H.size))
    (hG : gK D cy s) (hO : gO s) (hP : va_P D vwCl (ws ++ [(q, .inr (ci, fs))]) H) (hD : va_D A0 (ws ++ [(q, .inr (ci, fs))])) (hS : va_S A0 H0 H locs) (hA : ∀ q, H0.size ≤ q → A0 q)
    (kk : ∀ (u : Nat → Nat) (H1 : Heap) (locs1 : List Loc), u oc = q → va_P D vwCl (ws ++ wf u) H1 → va_D A0 (ws ++ wf u) → va_S A0 H0 H1 locs1 → W p l e R s m args below meth c H1 locs1 (cells + mc) (slots + ms) Q (F0 m (pc + 3) ls rest)) : W p l e R s m args below meth c H locs cells slots Q (F0 m pc ls st0) := by
  have hp : (ws ++ [(q, (.inr (ci, fs) : va_E))]).Perm ([(q, .inr (ci, fs))] ++ ws) := List.perm_append_comm
  have hDc := cutD hD hp
  have hPc := cutP hP hp
  have hFc := cutF hD hp hS hA
  refine va_callv (run ⟨bl1 fun U g mk a q => ⟨q.1, q.2.1, q.2.2.1.call, q.2.2.2.1, q.2.2.2.2.moved (u := U) (U := U.calling g mk a) (Vm.Alike.refl U.vm)⟩, fun U hU hW => ⟨rfl, by rw [hU], by rw [hU]; exact hPc, hG.warm hW, hDc.weaken (fun _ _ _ _ => trivial), hO.moved hW.alike⟩⟩) hS (fun q _ h => hFc q h) hFc (fun u t H1 locs ht hvm hw hB1 hz1 hk1 hS => ?_)
  obtain ⟨hP1, hD1⟩ := hB1
  rw [ht] at hP1
  obtain ⟨hP, hD⟩ := cutJ hP hD hp (List.perm_append_comm (l₁ := ws) (l₂ := wf u)) hk1 hFc hP1 hD1
  exact kk u H1 locs hw hP hD hS
end SN
/-- a tie, new -/
theorem qX9_init (l : Launch) (D : va_G) (cy : Nat → ClassId) (o h0 : Nat) (sz : Nat) : Met l yX9_init wsX9_init ({ frames := 3, cells := 10, slots := 104, locals := 64 } : Room) (nP D cy sz [.ref h0] [(h0, .inr (9, [.int 0, .int 0, .null, .null]))]) (va_Qv (fun (u : Nat → Nat) => u o = h0) (fun u t => mB D sz [(h0, .inr (9, [.int 0, .int 0, .null, .null]))] (wX9 cy u o ti0) t) (va_A [(h0, .inr (9, [.int 0, .int 0, .null, .null]))] sz)) 10 104 (va_A [(h0, .inr (9, [.int 0, .int 0, .null, .null]))] sz) := by
  refine Met.ofW (cc := cX9_init) (maxL := 1) (ret := none) (by decide) rfl ?_
  intro p e s m args below meth c s₁ B hml hv
  obtain ⟨rfl, hsz, hP, hG, hD0, hO⟩ := hv
  have hx := B.exec
  have hb := B.bytes
  have hr := B.returns
  have hts := atoms_spec (ws := wsX9_init) B.pre
  have hown : s.vm.findClass RX9 = some m.cls := findClass_of_methodNamed B.named
  have hlocks := B.notSynchronized
  have hin : meth.name = "<init>" := (name_of_methodNamed B.named B.method).1
  have hK := hG.1
  subst hsz
  have hD := hD0.self (sz := s.heap.size)
  generalize hAe : va_A [(h0, .inr (9, [.int 0, .int 0, .null, .null]))] s.heap.size = A at hD ⊢
  have hA : ∀ q : Nat, s.heap.size ≤ q → A q := fun q h => by rw [← hAe]; exact Or.inr h
  have hS : va_S A s.heap s.heap [] := va_S.rf
  have hP : va_P D vwCl [(h0, .inr (9, [.int 0, .int 0, .null, .null]))] s.heap := hP
  have hl := lv_entry ([.ref h0]) (n := 1) (Nat.le_of_ble_eq_true rfl)
  rw [lg_entry_eq]
  generalize (lg_sl ([.ref h0]) ++ List.replicate (1 - (lg_sl ([.ref h0])).length) Slot.unset).toArray = ls at hl ⊢
  have hl : lv_has ls 1 [(0, .ref h0)] := hl
  refine lv_aload_n hx hb dX9_init_0 rfl (lv_at hl 0 rfl) ?_
  refine W.objInit hx hb hown (hts (.methodLink RX9 3 objectInit) (by decide +kernel)) (hts (.instanceMethod objectInit) (by decide +kernel)) (hts (.code objectInit ⟨#[0xb1]⟩ 1 none) (by decide +kernel)) rfl (by rw [hml]; exact hl.1) rfl dX9_init_1 (Nat.le_of_ble_eq_true rfl) (Nat.le_of_ble_eq_true rfl) ?_
  refine W.eq (g2 := F0 m 4 ls []) rfl ?_
  refine lv_aload_n hx hb dX9_init_4 rfl (lv_at hl 0 rfl) ?_
  refine lv_bipush (v := (12 : Int32)) hx hb dX9_init_5 (by decide) ?_
  refine va_newi (N' := 12) hx hb (hts (.arrayClass .int) (by decide +kernel)) hK hP hD hS hA (by decide) (by decide) (by decide) (Nat.le_of_ble_eq_true rfl) (Nat.le_of_ble_eq_true rfl) dX9_init_7 (fun q7 H hP hD hS => ?_)
  have hP : va_P D vwCl [(h0, .inr (9, [.int 0, .int 0, .null, .null])), (q7, .inl (cy 0, 12, .inl (fun _ => 0)))] H := hP
  have hD : va_D A [(h0, .inr (9, [.int 0, .int 0, .null, .null])), (q7, .inl (cy 0, 12, .inl (fun _ => 0)))] := hD
  refine va_putF (D := D) (ci := 9) (v := .ref q7) (ty := .array .int) (C := RX9) (T := TX9) (N := 4) hx hb hts (by decide +kernel) tyX9 tyX9_ok nmX9 hown hK hP hD hS 0 rfl rfl 2 (by decide) (hts (.fieldLink RX9 9 "PianoRounds$Tie" "tied" "[I") (by decide +kernel)) (fun _ h9 => h9) rfl hin rfl (by decide +kernel) rfl rfl (Nat.le_of_ble_eq_true rfl) dX9_init_9 (fun H locs hP hD hS => ?_)
  have hP : va_P D vwCl [(h0, .inr (9, [.int 0, .int 0, .ref q7, .null])), (q7, .inl (cy 0, 12, .inl (fun _ => 0)))] H := hP
  have hD : va_D A [(h0, .inr (9, [.int 0, .int 0, .ref q7, .null])), (q7, .inl (cy 0, 12, .inl (fun _ => 0)))] := hD
  refine lv_aload_n hx hb dX9_init_12 rfl (lv_at hl 0 rfl) ?_
  refine va_new (ci := 6) (fs := [.null]) (C := RX6) (T := TX6) (N := 1) hx hb hts (by decide +kernel) tyX6 tyX6_ok hown (hts (.classLink RX9 15 RX6) (by decide +kernel)) (hts (.instantiable RX6 1) (by decide +kernel)) (hts (.initialized RX6) (by decide +kernel)) hK hP hD hS hA rfl (fun j hj => by rcases (show j = 0 by omega) with rfl <;> rfl) (Nat.le_of_ble_eq_true rfl) (Nat.le_of_ble_eq_true rfl) dX9_init_13 (fun q13 H hP hD hS => ?_)
  refine lv_dup hx hb dX9_init_16 rfl ?_
  refine smN (oc := o + 2) (wf := fun u => wX6 cy u (o + 2) sh0) (mc := 8) (ms := 91) (fun hp => va_runI (As := []) (rest := [.ref q13, .ref h0]) ⟨hx, hb, hml, hown, hts⟩ (qX6_init l D cy (o + 2) q13 H.size) (cwI 0 hts gX9_init_X6_init rfl rfl rfl (hts (.initialized RX6) (by decide +kernel)) (hts (.methodLink RX9 17 yX6_init) (by decide +kernel)) (hts (.instanceMethod yX6_init) (by decide +kernel)) rfl (by decide +kernel) ⟨Nat.le_of_ble_eq_true rfl, Nat.le_of_ble_eq_true rfl⟩) hp rfl rfl hl.1 rfl (lv_room (Nat.le_of_ble_eq_true rfl)) dX9_init_17 ⟨Nat.le_of_ble_eq_true rfl, Nat.le_of_ble_eq_true rfl⟩) hG hO hP hD hS hA (fun u6 H locs e6 hP hD hS => ?_)
  refine va_putF (D := D) (ci := 9) (v := .ref q13) (ty := .object "PianoRounds$Sheet") (C := RX9) (T := TX9) (N := 4) hx hb hts (by decide +kernel) tyX9 tyX9_ok nmX9 hown hK hP hD hS 0 rfl rfl 3 (by decide) (hts (.fieldLink RX9 18 "PianoRounds$Tie" "sheet" "LPianoRounds$Sheet;") (by decide +kernel)) (fun _ h9 => h9) rfl hin rfl (by decide +kernel) rfl rfl (Nat.le_of_ble_eq_true rfl) dX9_init_20 (fun H locs hP hD hS => ?_)
  obtain ⟨u, hu⟩ : ∃ u : Nat → Nat, u = fun k => if k = o then h0 else if k = o + 1 then q7 else u6 k := ⟨_, rfl⟩
  have eu : u o = h0 := by rw [hu]; exact if_pos rfl
  have e1 : u (o + 1) = q7 := by rw [hu]; show (if o + 1 = o then h0 else if o + 1 = o + 1 then q7 else u6 (o + 1)) = q7; rw [if_neg (by omega), if_pos rfl]
  have eo : ∀ k : Nat, o + 2 ≤ k → u k = u6 k := fun k hk => by rw [hu]; show (if k = o then h0 else if k = o + 1 then q7 else u6 k) = u6 k; rw [if_neg (by omega), if_neg (by omega)]
  have ew : wX9 cy u o ti0 = [(h0, .inr (9, [.int 0, .int 0, .ref q7, .ref q13])), (q7, .inl (cy 0, 12, .inl (fun _ => 0)))] ++ wX6 cy u6 (o + 2) sh0 := by
    unfold wX9 hX9 aW
    rw [eu, e1, eo (o + 2) (by omega), e6, wX6_eq (a := u) (a' := u6) (fun k h1 _ => eo k h1)]
    rfl
  have hP : va_P D vwCl ([(h0, .inr (9, [.int 0, .int 0, .ref q7, .ref q13])), (q7, .inl (cy 0, 12, .inl (fun _ => 0)))] ++ wX6 cy u6 (o + 2) sh0) H := hP
  have hD : va_D A ([(h0, .inr (9, [.int 0, .int 0, .ref q7, .ref q13])), (q7, .inl (cy 0, 12, .inl (fun _ => 0)))] ++ wX6 cy u6 (o + 2) sh0) := hD
  refine W.widen (k := 10) (n := 104) (by decide) (by decide) ?_
  exact W.vret hx hb hr (fun t ht hW => ⟨⟨u, rfl, eu, by rw [ht, ew]; exact hP, by rw [ew, hAe]; exact hD⟩, hS.F ht⟩) hS.2.2 dX9_init_23
