section SR
variable {p : Program} {l : Launch} {e : Env} {R : Room} {s : State} {m : MethodId} {args : Array Value} {below : List Frame} {meth : Method} {c : Code} {H : Heap} {locs : List Loc} {cells slots : Nat} {Q : State → Prop}
variable {rest st0 : List Value} {pc : Nat} {ls : Array Slot} {D : va_G} {cy : Nat → ClassId} {tt : Nat → Nat} {A0 : Nat → Prop} {ws : va_W} {mc ms : Nat}
/-- a constructor that reads the first rules, called on a new object -/
theorem smR {wf : (Nat → Nat) → va_W} {q oc ci : Nat} {fs : List Value} (run : PreS s H (rP D cy tt H.size [.ref q] [(q, .inr (ci, fs))]) [.ref q] → va_Run p l e R s m args below meth c H locs cells slots mc ms (F0 m pc ls st0) rest (va_Qv (fun (u : Nat → Nat) => u oc = q) (fun u t => mB D H.size [(q, .inr (ci, fs))] (wf u) t) (va_A [(q, .inr (ci, fs))] H.size) ([.ref q] : List Value).toArray) (va_A [(q, .inr (ci, fs))] H.size))
    (hG : gK D cy s) (hO : gO s) (hT : gT "RULE_AT_FIRST" (tt 4) 6 tab4 A0 s s.heap) (hP : va_P D vwCl (ws ++ [(q, .inr (ci, fs))]) H) (hD : va_D A0 (ws ++ [(q, .inr (ci, fs))])) (hS : va_S A0 s.heap H locs) (hA : ∀ q, s.heap.size ≤ q → A0 q)
    (kk : ∀ (u : Nat → Nat) (H1 : Heap) (locs1 : List Loc), u oc = q → va_P D vwCl (ws ++ wf u) H1 → va_D A0 (ws ++ wf u) → va_S A0 s.heap H1 locs1 → W p l e R s m args below meth c H1 locs1 (cells + mc) (slots + ms) Q (F0 m (pc + 3) ls rest)) : W p l e R s m args below meth c H locs cells slots Q (F0 m pc ls st0) := by
  have hp : (ws ++ [(q, (.inr (ci, fs) : va_E))]).Perm ([(q, .inr (ci, fs))] ++ ws) := List.perm_append_comm
  have hDc := cutD hD hp
  have hPc := cutP hP hp
  have hFc := cutF hD hp hS hA
  refine va_callv (run ⟨bl1 fun U g mk a q => ⟨q.1, q.2.1, q.2.2.1.call, q.2.2.2.1, q.2.2.2.2.1.moved (u := U) (U := U.calling g mk a) (Vm.Alike.refl U.vm), q.2.2.2.2.2.moved (u := U) (U := U.calling g mk a) (Vm.Alike.refl U.vm)⟩, fun U hU hW => ⟨rfl, by rw [hU], by rw [hU]; exact hPc, hG.warm hW, hDc.weaken (fun _ _ _ _ => trivial), hO.moved hW.alike, by rw [hU]; exact ((hT.kept hS.2.1).moved hW.alike).narrow hFc⟩⟩) hS (fun q _ h => hFc q h) hFc (fun u t H1 locs ht hvm hw hB1 hz1 hk1 hS => ?_)
  obtain ⟨hP1, hD1⟩ := hB1
  rw [ht] at hP1
  obtain ⟨hP, hD⟩ := cutJ hP hD hp (List.perm_append_comm (l₁ := ws) (l₂ := wf u)) hk1 hFc hP1 hD1
  exact kk u H1 locs hw hP hD hS
end SR
theorem pmN (A B W X : va_W) : ((A ++ (B ++ W)) ++ X).Perm (A ++ (B ++ (X ++ W))) := by
  rw [List.append_assoc, List.append_assoc]
  exact ((List.perm_append_comm (l₁ := W) (l₂ := X)).append_left B).append_left A
theorem pm4 (A B C E : va_W) : (E ++ (C ++ (B ++ (A ++ [])))).Perm (A ++ (B ++ (C ++ E))) := by
  rw [List.append_nil]
  have h2 : (B ++ A).Perm (A ++ B) := List.perm_append_comm
  have h3 : (C ++ (B ++ A)).Perm (A ++ (B ++ C)) := by
    have h := (h2.append_left C).trans (List.perm_append_comm (l₁ := C) (l₂ := A ++ B))
    rw [List.append_assoc] at h
    exact h
  have h := (h3.append_left E).trans (List.perm_append_comm (l₁ := E) (l₂ := A ++ (B ++ C)))
  rw [List.append_assoc, List.append_assoc] at h
  exact h
theorem wX5_eq {cy : Nat → ClassId} {a a' : Nat → Nat} {o : Nat} {S : SX5} (hs : ∀ i : Nat, i < 4 → (gX5_kept S).2 i < 4) (h : ∀ k : Nat, o ≤ k → k < o + 214 → a k = a' k) : wX5 cy a o S = wX5 cy a' o S := by
  have hf : (fun i => if i < 4 then some (a (o + 1 + 1 + 53 * (gX5_kept S).2 i)) else none) = fun i => if i < 4 then some (a' (o + 1 + 1 + 53 * (gX5_kept S).2 i)) else none := by
    funext i
    by_cases q : i < 4
    · rw [if_pos q, if_pos q, h _ (by omega) (by have := hs i q; omega)]
    · rw [if_neg q, if_neg q]
  unfold wX5 hX5 compsW kW
  rw [h o (by omega) (by omega), h (o + 1) (by omega) (by omega), hf, wX0_eq (o := o + 1 + 1 + 53 * 0) (fun k h1 h2 => h k (by omega) (by omega)), wX0_eq (o := o + 1 + 1 + 53 * 1) (fun k h1 h2 => h k (by omega) (by omega)), wX0_eq (o := o + 1 + 1 + 53 * 2) (fun k h1 h2 => h k (by omega) (by omega)), wX0_eq (o := o + 1 + 1 + 53 * 3) (fun k h1 h2 => h k (by omega) (by omega))]
set_option maxHeartbeats 8000000 in
set_option maxRecDepth 100000 in
theorem qX5_init (l : Launch) (D : va_G) (cy : Nat → ClassId) (tt : Nat → Nat) (o h0 : Nat) (sz : Nat) : Met l yX5_init wsX5_init ({ frames := 5, cells := 213, slots := 2944, locals := 142 } : Room) (rP D cy tt sz [.ref h0] [(h0, .inr (5, [.int 0, .null]))]) (va_Qv (fun (u : Nat → Nat) => u o = h0) (fun u t => mB D sz [(h0, .inr (5, [.int 0, .null]))] (wX5 cy u o re0) t) (va_A [(h0, .inr (5, [.int 0, .null]))] sz)) 213 2944 (va_A [(h0, .inr (5, [.int 0, .null]))] sz) := by
  refine Met.ofW (cc := cX5_init) (maxL := 2) (ret := none) (by decide) rfl ?_
  intro p e s m args below meth c s₁ B hml hv
  obtain ⟨rfl, hsz, hP, hG, hD0, hO, hT⟩ := hv
  have hx := B.exec
  have hb := B.bytes
  have hr := B.returns
  have hts := atoms_spec (ws := wsX5_init) B.pre
  have hown : s.vm.findClass RX5 = some m.cls := findClass_of_methodNamed B.named
  have hlocks := B.notSynchronized
  have hin : meth.name = "<init>" := (name_of_methodNamed B.named B.method).1
  have hK := hG.1
  subst hsz
  have hD := hD0.self (sz := s.heap.size)
  generalize hAe : va_A [(h0, .inr (5, [.int 0, .null]))] s.heap.size = A at hD hT ⊢
  have hA : ∀ q : Nat, s.heap.size ≤ q → A q := fun q h => by rw [← hAe]; exact Or.inr h
  have hS : va_S A s.heap s.heap [] := va_S.rf
  have hP : va_P D vwCl [(h0, .inr (5, [.int 0, .null]))] s.heap := hP
  have hl := lv_entry ([.ref h0]) (n := 2) (Nat.le_of_ble_eq_true rfl)
  rw [lg_entry_eq]
  generalize (lg_sl ([.ref h0]) ++ List.replicate (2 - (lg_sl ([.ref h0])).length) Slot.unset).toArray = ls at hl ⊢
  have hl : lv_has ls 2 [(0, .ref h0)] := hl
  refine lv_aload_n hx hb dX5_init_0 rfl (lv_at hl 0 rfl) ?_
  refine W.objInit hx hb hown (hts (.methodLink RX5 3 objectInit) (by decide +kernel)) (hts (.instanceMethod objectInit) (by decide +kernel)) (hts (.code objectInit ⟨#[0xb1]⟩ 1 none) (by decide +kernel)) rfl (by rw [hml]; exact hl.1) rfl dX5_init_1 (Nat.le_of_ble_eq_true rfl) (Nat.le_of_ble_eq_true rfl) ?_
  refine W.eq (g2 := F0 m 4 ls []) rfl ?_
  refine lv_aload_n hx hb dX5_init_4 rfl (lv_at hl 0 rfl) ?_
  refine lv_iconst (v := (4 : Int32)) hx hb dX5_init_5 (by decide) ?_
  refine va_newq (N' := 4) hx hb hown (hts (.classLink RX5 9 RX0) (by decide +kernel)) hO.2 hK hP hD hS hA (by decide) (by decide) (by decide) (Nat.le_of_ble_eq_true rfl) (Nat.le_of_ble_eq_true rfl) dX5_init_6 (fun qq cA H hK1 hP hD hS => ?_)
  have h9 : cA = cy 1 := by
    obtain ⟨kA, comp, k1, k2, k3, k4⟩ := (hK1.2 3 _ rfl).2
    obtain ⟨kB, comp', j1, j2, j3, j4⟩ := (hK.2 1 _ rfl).2
    exact Option.some.inj (k4.symm.trans j4)
  subst h9
  have hP : va_P D vwCl ([(h0, (.inr (5, [.int 0, .null]) : va_E))] ++ ([(qq, (.inl (cy 1, 4, .inr (.inr (.inr (.inr (fun _ => none))))) : va_E))] ++ [])) H := hP
  have hD : va_D A ([(h0, (.inr (5, [.int 0, .null]) : va_E))] ++ ([(qq, (.inl (cy 1, 4, .inr (.inr (.inr (.inr (fun _ => none))))) : va_E))] ++ [])) := hD
  refine va_putF (D := D) (ci := 5) (v := .ref qq) (ty := .array (.object "PianoRounds$Competition")) (C := RX5) (T := TX5) (N := 2) hx hb hts (by decide +kernel) tyX5 tyX5_ok nmX5 hown hK hP hD hS 0 rfl rfl 1 (by decide) (hts (.fieldLink RX5 11 "PianoRounds$Records" "kept" "[LPianoRounds$Competition;") (by decide +kernel)) (fun _ h9 => h9) rfl hin rfl (by decide +kernel) rfl rfl (Nat.le_of_ble_eq_true rfl) dX5_init_9 (fun H locs hP hD hS => ?_)
  have hP : va_P D vwCl ([(h0, (.inr (5, [.int 0, .ref qq]) : va_E))] ++ ([(qq, (.inl (cy 1, 4, .inr (.inr (.inr (.inr (fun _ => none))))) : va_E))] ++ ([] : va_W))) H := hP
  have hD : va_D A ([(h0, (.inr (5, [.int 0, .ref qq]) : va_E))] ++ ([(qq, (.inl (cy 1, 4, .inr (.inr (.inr (.inr (fun _ => none))))) : va_E))] ++ ([] : va_W))) := hD
  refine lv_iconst (v := nI 0) hx hb dX5_init_12 (by decide) ?_
  refine lv_istore_n (lv' := [(1, .int (nI 0)), (0, .ref h0)]) hx hb dX5_init_13 rfl hl (by decide) rfl (fun ls hl => ?_)
  refine lv_iload_n hx hb dX5_init_14 rfl (lv_at hl 0 rfl) ?_
  refine lv_iconst (v := (4 : Int32)) hx hb dX5_init_15 (by decide) ?_
  refine lv_icmp_ge (tgt := 38) hx hb dX5_init_16 (by decide) (fun cc => absurd cc (show ¬ (4 : Int32) ≤ nI 0 by decide)) (fun cc => ?_)
  refine lv_aload_n hx hb dX5_init_19 rfl (lv_at hl 1 rfl) ?_
  refine va_get (D := D) (ci := 5) (v := .ref qq) (C := RX5) (T := TX5) (N := 2) hx hb hts (by decide +kernel) hown hK hP 0 rfl rfl 1 (by decide) (hts (.fieldLink RX5 11 "PianoRounds$Records" "kept" "[LPianoRounds$Competition;") (by decide +kernel)) (fun _ h9 => h9) rfl dX5_init_20 ?_
  refine lv_iload_n hx hb dX5_init_23 rfl (lv_at hl 0 rfl) ?_
  refine va_new (ci := 0) (fs := [.int 0, .int 0, .int 0, .int 0, .null, .null, .null, .null, .null, .null, .null, .null, .null, .null]) (C := RX0) (T := TX0) (N := 14) hx hb hts (by decide +kernel) tyX0 tyX0_ok hown (hts (.classLink RX5 9 RX0) (by decide +kernel)) (hts (.instantiable RX0 14) (by decide +kernel)) (hts (.initialized RX0) (by decide +kernel)) hK hP hD hS hA rfl (fun j hj => by rcases (show j = 0 ∨ j = 1 ∨ j = 2 ∨ j = 3 ∨ j = 4 ∨ j = 5 ∨ j = 6 ∨ j = 7 ∨ j = 8 ∨ j = 9 ∨ j = 10 ∨ j = 11 ∨ j = 12 ∨ j = 13 by omega) with rfl | rfl | rfl | rfl | rfl | rfl | rfl | rfl | rfl | rfl | rfl | rfl | rfl | rfl <;> rfl) (Nat.le_of_ble_eq_true rfl) (Nat.le_of_ble_eq_true rfl) dX5_init_24 (fun qc H hP hD hS => ?_)
  refine lv_dup hx hb dX5_init_27 rfl ?_
  refine smR (oc := o + 1 + 1 + 53 * 0) (wf := fun u => wX0 cy u (o + 1 + 1 + 53 * 0) co0) (mc := 52) (ms := 721) (fun hp => va_runI (As := []) (rest := [.ref qc, .int (nI 0), .ref qq]) ⟨hx, hb, hml, hown, hts⟩ (qX0_init l D cy tt (o + 1 + 1 + 53 * 0) qc H.size) (cwI 0 hts gX5_init_X0_init rfl rfl rfl (hts (.initialized RX0) (by decide +kernel)) (hts (.methodLink RX5 17 yX0_init) (by decide +kernel)) (hts (.instanceMethod yX0_init) (by decide +kernel)) rfl (by decide +kernel) ⟨Nat.le_of_ble_eq_true rfl, Nat.le_of_ble_eq_true rfl⟩) hp rfl rfl hl.1 rfl (lv_room (Nat.le_of_ble_eq_true rfl)) dX5_init_28 ⟨Nat.le_of_ble_eq_true rfl, Nat.le_of_ble_eq_true rfl⟩) hG hO hT hP hD hS hA (fun u0 H locs eu0 hP hD hS => ?_)
  rw [← eu0]
  have hp := pmN [(h0, (.inr (5, [.int 0, .ref qq]) : va_E))] [(qq, (.inl (cy 1, 4, .inr (.inr (.inr (.inr (fun _ => none))))) : va_E))] ([] : va_W) (wX0 cy u0 (o + 1 + 1 + 53 * 0) co0)
  have hP := P_mem hP (fun q hq => hp.mem_iff.mpr hq)
  have hD := D_perm hD hp
  refine va_astq (ci := 0) (r := (RX0, TX0, 14)) hx hb hK hP hD hS 1 1 2 rfl rfl rfl rfl (show vp_in (nI 0) 4 by unfold vp_in; decide) dX5_init_31 (fun H locs hP hD hS => ?_)
  rw [show (nI 0).toNatClampNeg = 0 by decide] at hP hD
  have hP : va_P D vwCl ([(h0, (.inr (5, [.int 0, .ref qq]) : va_E))] ++ ([(qq, (.inl (cy 1, 4, .inr (.inr (.inr (.inr (va_up (fun _ => none) 0 (some (u0 (o + 1 + 1 + 53 * 0)))))))) : va_E))] ++ (wX0 cy u0 (o + 1 + 1 + 53 * 0) co0 ++ ([] : va_W)))) H := hP
  have hD : va_D A ([(h0, (.inr (5, [.int 0, .ref qq]) : va_E))] ++ ([(qq, (.inl (cy 1, 4, .inr (.inr (.inr (.inr (va_up (fun _ => none) 0 (some (u0 (o + 1 + 1 + 53 * 0)))))))) : va_E))] ++ (wX0 cy u0 (o + 1 + 1 + 53 * 0) co0 ++ ([] : va_W)))) := hD
  obtain ⟨W1, hW1⟩ : ∃ W : va_W, W = wX0 cy u0 (o + 1 + 1 + 53 * 0) co0 ++ ([] : va_W) := ⟨_, rfl⟩
  rw [← hW1] at hP hD
  refine lv_iinc (v := nI 1) (lv' := [(1, .int (nI 1)), (0, .ref h0)]) hx hb dX5_init_32 hl (k := 0) rfl (by decide) (by decide) rfl (fun ls hl => ?_)
  refine lv_goto (tgt := 14) hx hb dX5_init_35 (by decide) ?_
  refine lv_iload_n hx hb dX5_init_14 rfl (lv_at hl 0 rfl) ?_
  refine lv_iconst (v := (4 : Int32)) hx hb dX5_init_15 (by decide) ?_
  refine lv_icmp_ge (tgt := 38) hx hb dX5_init_16 (by decide) (fun cc => absurd cc (show ¬ (4 : Int32) ≤ nI 1 by decide)) (fun cc => ?_)
  refine lv_aload_n hx hb dX5_init_19 rfl (lv_at hl 1 rfl) ?_
  refine va_get (D := D) (ci := 5) (v := .ref qq) (C := RX5) (T := TX5) (N := 2) hx hb hts (by decide +kernel) hown hK hP 0 rfl rfl 1 (by decide) (hts (.fieldLink RX5 11 "PianoRounds$Records" "kept" "[LPianoRounds$Competition;") (by decide +kernel)) (fun _ h9 => h9) rfl dX5_init_20 ?_
  refine lv_iload_n hx hb dX5_init_23 rfl (lv_at hl 0 rfl) ?_
  refine va_new (ci := 0) (fs := [.int 0, .int 0, .int 0, .int 0, .null, .null, .null, .null, .null, .null, .null, .null, .null, .null]) (C := RX0) (T := TX0) (N := 14) hx hb hts (by decide +kernel) tyX0 tyX0_ok hown (hts (.classLink RX5 9 RX0) (by decide +kernel)) (hts (.instantiable RX0 14) (by decide +kernel)) (hts (.initialized RX0) (by decide +kernel)) hK hP hD hS hA rfl (fun j hj => by rcases (show j = 0 ∨ j = 1 ∨ j = 2 ∨ j = 3 ∨ j = 4 ∨ j = 5 ∨ j = 6 ∨ j = 7 ∨ j = 8 ∨ j = 9 ∨ j = 10 ∨ j = 11 ∨ j = 12 ∨ j = 13 by omega) with rfl | rfl | rfl | rfl | rfl | rfl | rfl | rfl | rfl | rfl | rfl | rfl | rfl | rfl <;> rfl) (Nat.le_of_ble_eq_true rfl) (Nat.le_of_ble_eq_true rfl) dX5_init_24 (fun qc H hP hD hS => ?_)
  refine lv_dup hx hb dX5_init_27 rfl ?_
  refine smR (oc := o + 1 + 1 + 53 * 1) (wf := fun u => wX0 cy u (o + 1 + 1 + 53 * 1) co0) (mc := 52) (ms := 721) (fun hp => va_runI (As := []) (rest := [.ref qc, .int (nI 1), .ref qq]) ⟨hx, hb, hml, hown, hts⟩ (qX0_init l D cy tt (o + 1 + 1 + 53 * 1) qc H.size) (cwI 0 hts gX5_init_X0_init rfl rfl rfl (hts (.initialized RX0) (by decide +kernel)) (hts (.methodLink RX5 17 yX0_init) (by decide +kernel)) (hts (.instanceMethod yX0_init) (by decide +kernel)) rfl (by decide +kernel) ⟨Nat.le_of_ble_eq_true rfl, Nat.le_of_ble_eq_true rfl⟩) hp rfl rfl hl.1 rfl (lv_room (Nat.le_of_ble_eq_true rfl)) dX5_init_28 ⟨Nat.le_of_ble_eq_true rfl, Nat.le_of_ble_eq_true rfl⟩) hG hO hT hP hD hS hA (fun u1 H locs eu1 hP hD hS => ?_)
  rw [← eu1]
  have hp := pmN [(h0, (.inr (5, [.int 0, .ref qq]) : va_E))] [(qq, (.inl (cy 1, 4, .inr (.inr (.inr (.inr (va_up (fun _ => none) 0 (some (u0 (o + 1 + 1 + 53 * 0)))))))) : va_E))] W1 (wX0 cy u1 (o + 1 + 1 + 53 * 1) co0)
  have hP := P_mem hP (fun q hq => hp.mem_iff.mpr hq)
  have hD := D_perm hD hp
  refine va_astq (ci := 0) (r := (RX0, TX0, 14)) hx hb hK hP hD hS 1 1 2 rfl rfl rfl rfl (show vp_in (nI 1) 4 by unfold vp_in; decide) dX5_init_31 (fun H locs hP hD hS => ?_)
  rw [show (nI 1).toNatClampNeg = 1 by decide] at hP hD
  have hP : va_P D vwCl ([(h0, (.inr (5, [.int 0, .ref qq]) : va_E))] ++ ([(qq, (.inl (cy 1, 4, .inr (.inr (.inr (.inr (va_up (va_up (fun _ => none) 0 (some (u0 (o + 1 + 1 + 53 * 0)))) 1 (some (u1 (o + 1 + 1 + 53 * 1)))))))) : va_E))] ++ (wX0 cy u1 (o + 1 + 1 + 53 * 1) co0 ++ W1))) H := hP
  have hD : va_D A ([(h0, (.inr (5, [.int 0, .ref qq]) : va_E))] ++ ([(qq, (.inl (cy 1, 4, .inr (.inr (.inr (.inr (va_up (va_up (fun _ => none) 0 (some (u0 (o + 1 + 1 + 53 * 0)))) 1 (some (u1 (o + 1 + 1 + 53 * 1)))))))) : va_E))] ++ (wX0 cy u1 (o + 1 + 1 + 53 * 1) co0 ++ W1))) := hD
  obtain ⟨W2, hW2⟩ : ∃ W : va_W, W = wX0 cy u1 (o + 1 + 1 + 53 * 1) co0 ++ W1 := ⟨_, rfl⟩
  rw [← hW2] at hP hD
  refine lv_iinc (v := nI 2) (lv' := [(1, .int (nI 2)), (0, .ref h0)]) hx hb dX5_init_32 hl (k := 0) rfl (by decide) (by decide) rfl (fun ls hl => ?_)
  refine lv_goto (tgt := 14) hx hb dX5_init_35 (by decide) ?_
  refine lv_iload_n hx hb dX5_init_14 rfl (lv_at hl 0 rfl) ?_
  refine lv_iconst (v := (4 : Int32)) hx hb dX5_init_15 (by decide) ?_
  refine lv_icmp_ge (tgt := 38) hx hb dX5_init_16 (by decide) (fun cc => absurd cc (show ¬ (4 : Int32) ≤ nI 2 by decide)) (fun cc => ?_)
  refine lv_aload_n hx hb dX5_init_19 rfl (lv_at hl 1 rfl) ?_
  refine va_get (D := D) (ci := 5) (v := .ref qq) (C := RX5) (T := TX5) (N := 2) hx hb hts (by decide +kernel) hown hK hP 0 rfl rfl 1 (by decide) (hts (.fieldLink RX5 11 "PianoRounds$Records" "kept" "[LPianoRounds$Competition;") (by decide +kernel)) (fun _ h9 => h9) rfl dX5_init_20 ?_
  refine lv_iload_n hx hb dX5_init_23 rfl (lv_at hl 0 rfl) ?_
  refine va_new (ci := 0) (fs := [.int 0, .int 0, .int 0, .int 0, .null, .null, .null, .null, .null, .null, .null, .null, .null, .null]) (C := RX0) (T := TX0) (N := 14) hx hb hts (by decide +kernel) tyX0 tyX0_ok hown (hts (.classLink RX5 9 RX0) (by decide +kernel)) (hts (.instantiable RX0 14) (by decide +kernel)) (hts (.initialized RX0) (by decide +kernel)) hK hP hD hS hA rfl (fun j hj => by rcases (show j = 0 ∨ j = 1 ∨ j = 2 ∨ j = 3 ∨ j = 4 ∨ j = 5 ∨ j = 6 ∨ j = 7 ∨ j = 8 ∨ j = 9 ∨ j = 10 ∨ j = 11 ∨ j = 12 ∨ j = 13 by omega) with rfl | rfl | rfl | rfl | rfl | rfl | rfl | rfl | rfl | rfl | rfl | rfl | rfl | rfl <;> rfl) (Nat.le_of_ble_eq_true rfl) (Nat.le_of_ble_eq_true rfl) dX5_init_24 (fun qc H hP hD hS => ?_)
  refine lv_dup hx hb dX5_init_27 rfl ?_
  refine smR (oc := o + 1 + 1 + 53 * 2) (wf := fun u => wX0 cy u (o + 1 + 1 + 53 * 2) co0) (mc := 52) (ms := 721) (fun hp => va_runI (As := []) (rest := [.ref qc, .int (nI 2), .ref qq]) ⟨hx, hb, hml, hown, hts⟩ (qX0_init l D cy tt (o + 1 + 1 + 53 * 2) qc H.size) (cwI 0 hts gX5_init_X0_init rfl rfl rfl (hts (.initialized RX0) (by decide +kernel)) (hts (.methodLink RX5 17 yX0_init) (by decide +kernel)) (hts (.instanceMethod yX0_init) (by decide +kernel)) rfl (by decide +kernel) ⟨Nat.le_of_ble_eq_true rfl, Nat.le_of_ble_eq_true rfl⟩) hp rfl rfl hl.1 rfl (lv_room (Nat.le_of_ble_eq_true rfl)) dX5_init_28 ⟨Nat.le_of_ble_eq_true rfl, Nat.le_of_ble_eq_true rfl⟩) hG hO hT hP hD hS hA (fun u2 H locs eu2 hP hD hS => ?_)
  rw [← eu2]
  have hp := pmN [(h0, (.inr (5, [.int 0, .ref qq]) : va_E))] [(qq, (.inl (cy 1, 4, .inr (.inr (.inr (.inr (va_up (va_up (fun _ => none) 0 (some (u0 (o + 1 + 1 + 53 * 0)))) 1 (some (u1 (o + 1 + 1 + 53 * 1)))))))) : va_E))] W2 (wX0 cy u2 (o + 1 + 1 + 53 * 2) co0)
  have hP := P_mem hP (fun q hq => hp.mem_iff.mpr hq)
  have hD := D_perm hD hp
  refine va_astq (ci := 0) (r := (RX0, TX0, 14)) hx hb hK hP hD hS 1 1 2 rfl rfl rfl rfl (show vp_in (nI 2) 4 by unfold vp_in; decide) dX5_init_31 (fun H locs hP hD hS => ?_)
  rw [show (nI 2).toNatClampNeg = 2 by decide] at hP hD
  have hP : va_P D vwCl ([(h0, (.inr (5, [.int 0, .ref qq]) : va_E))] ++ ([(qq, (.inl (cy 1, 4, .inr (.inr (.inr (.inr (va_up (va_up (va_up (fun _ => none) 0 (some (u0 (o + 1 + 1 + 53 * 0)))) 1 (some (u1 (o + 1 + 1 + 53 * 1)))) 2 (some (u2 (o + 1 + 1 + 53 * 2)))))))) : va_E))] ++ (wX0 cy u2 (o + 1 + 1 + 53 * 2) co0 ++ W2))) H := hP
  have hD : va_D A ([(h0, (.inr (5, [.int 0, .ref qq]) : va_E))] ++ ([(qq, (.inl (cy 1, 4, .inr (.inr (.inr (.inr (va_up (va_up (va_up (fun _ => none) 0 (some (u0 (o + 1 + 1 + 53 * 0)))) 1 (some (u1 (o + 1 + 1 + 53 * 1)))) 2 (some (u2 (o + 1 + 1 + 53 * 2)))))))) : va_E))] ++ (wX0 cy u2 (o + 1 + 1 + 53 * 2) co0 ++ W2))) := hD
  obtain ⟨W3, hW3⟩ : ∃ W : va_W, W = wX0 cy u2 (o + 1 + 1 + 53 * 2) co0 ++ W2 := ⟨_, rfl⟩
  rw [← hW3] at hP hD
  refine lv_iinc (v := nI 3) (lv' := [(1, .int (nI 3)), (0, .ref h0)]) hx hb dX5_init_32 hl (k := 0) rfl (by decide) (by decide) rfl (fun ls hl => ?_)
  refine lv_goto (tgt := 14) hx hb dX5_init_35 (by decide) ?_
  refine lv_iload_n hx hb dX5_init_14 rfl (lv_at hl 0 rfl) ?_
  refine lv_iconst (v := (4 : Int32)) hx hb dX5_init_15 (by decide) ?_
  refine lv_icmp_ge (tgt := 38) hx hb dX5_init_16 (by decide) (fun cc => absurd cc (show ¬ (4 : Int32) ≤ nI 3 by decide)) (fun cc => ?_)
  refine lv_aload_n hx hb dX5_init_19 rfl (lv_at hl 1 rfl) ?_
  refine va_get (D := D) (ci := 5) (v := .ref qq) (C := RX5) (T := TX5) (N := 2) hx hb hts (by decide +kernel) hown hK hP 0 rfl rfl 1 (by decide) (hts (.fieldLink RX5 11 "PianoRounds$Records" "kept" "[LPianoRounds$Competition;") (by decide +kernel)) (fun _ h9 => h9) rfl dX5_init_20 ?_
  refine lv_iload_n hx hb dX5_init_23 rfl (lv_at hl 0 rfl) ?_
  refine va_new (ci := 0) (fs := [.int 0, .int 0, .int 0, .int 0, .null, .null, .null, .null, .null, .null, .null, .null, .null, .null]) (C := RX0) (T := TX0) (N := 14) hx hb hts (by decide +kernel) tyX0 tyX0_ok hown (hts (.classLink RX5 9 RX0) (by decide +kernel)) (hts (.instantiable RX0 14) (by decide +kernel)) (hts (.initialized RX0) (by decide +kernel)) hK hP hD hS hA rfl (fun j hj => by rcases (show j = 0 ∨ j = 1 ∨ j = 2 ∨ j = 3 ∨ j = 4 ∨ j = 5 ∨ j = 6 ∨ j = 7 ∨ j = 8 ∨ j = 9 ∨ j = 10 ∨ j = 11 ∨ j = 12 ∨ j = 13 by omega) with rfl | rfl | rfl | rfl | rfl | rfl | rfl | rfl | rfl | rfl | rfl | rfl | rfl | rfl <;> rfl) (Nat.le_of_ble_eq_true rfl) (Nat.le_of_ble_eq_true rfl) dX5_init_24 (fun qc H hP hD hS => ?_)
  refine lv_dup hx hb dX5_init_27 rfl ?_
  refine smR (oc := o + 1 + 1 + 53 * 3) (wf := fun u => wX0 cy u (o + 1 + 1 + 53 * 3) co0) (mc := 52) (ms := 721) (fun hp => va_runI (As := []) (rest := [.ref qc, .int (nI 3), .ref qq]) ⟨hx, hb, hml, hown, hts⟩ (qX0_init l D cy tt (o + 1 + 1 + 53 * 3) qc H.size) (cwI 0 hts gX5_init_X0_init rfl rfl rfl (hts (.initialized RX0) (by decide +kernel)) (hts (.methodLink RX5 17 yX0_init) (by decide +kernel)) (hts (.instanceMethod yX0_init) (by decide +kernel)) rfl (by decide +kernel) ⟨Nat.le_of_ble_eq_true rfl, Nat.le_of_ble_eq_true rfl⟩) hp rfl rfl hl.1 rfl (lv_room (Nat.le_of_ble_eq_true rfl)) dX5_init_28 ⟨Nat.le_of_ble_eq_true rfl, Nat.le_of_ble_eq_true rfl⟩) hG hO hT hP hD hS hA (fun u3 H locs eu3 hP hD hS => ?_)
  rw [← eu3]
  have hp := pmN [(h0, (.inr (5, [.int 0, .ref qq]) : va_E))] [(qq, (.inl (cy 1, 4, .inr (.inr (.inr (.inr (va_up (va_up (va_up (fun _ => none) 0 (some (u0 (o + 1 + 1 + 53 * 0)))) 1 (some (u1 (o + 1 + 1 + 53 * 1)))) 2 (some (u2 (o + 1 + 1 + 53 * 2)))))))) : va_E))] W3 (wX0 cy u3 (o + 1 + 1 + 53 * 3) co0)
  have hP := P_mem hP (fun q hq => hp.mem_iff.mpr hq)
  have hD := D_perm hD hp
  refine va_astq (ci := 0) (r := (RX0, TX0, 14)) hx hb hK hP hD hS 1 1 2 rfl rfl rfl rfl (show vp_in (nI 3) 4 by unfold vp_in; decide) dX5_init_31 (fun H locs hP hD hS => ?_)
  rw [show (nI 3).toNatClampNeg = 3 by decide] at hP hD
  have hP : va_P D vwCl ([(h0, (.inr (5, [.int 0, .ref qq]) : va_E))] ++ ([(qq, (.inl (cy 1, 4, .inr (.inr (.inr (.inr (va_up (va_up (va_up (va_up (fun _ => none) 0 (some (u0 (o + 1 + 1 + 53 * 0)))) 1 (some (u1 (o + 1 + 1 + 53 * 1)))) 2 (some (u2 (o + 1 + 1 + 53 * 2)))) 3 (some (u3 (o + 1 + 1 + 53 * 3)))))))) : va_E))] ++ (wX0 cy u3 (o + 1 + 1 + 53 * 3) co0 ++ W3))) H := hP
  have hD : va_D A ([(h0, (.inr (5, [.int 0, .ref qq]) : va_E))] ++ ([(qq, (.inl (cy 1, 4, .inr (.inr (.inr (.inr (va_up (va_up (va_up (va_up (fun _ => none) 0 (some (u0 (o + 1 + 1 + 53 * 0)))) 1 (some (u1 (o + 1 + 1 + 53 * 1)))) 2 (some (u2 (o + 1 + 1 + 53 * 2)))) 3 (some (u3 (o + 1 + 1 + 53 * 3)))))))) : va_E))] ++ (wX0 cy u3 (o + 1 + 1 + 53 * 3) co0 ++ W3))) := hD
  obtain ⟨W4, hW4⟩ : ∃ W : va_W, W = wX0 cy u3 (o + 1 + 1 + 53 * 3) co0 ++ W3 := ⟨_, rfl⟩
  rw [← hW4] at hP hD
  refine lv_iinc (v := nI 4) (lv' := [(1, .int (nI 4)), (0, .ref h0)]) hx hb dX5_init_32 hl (k := 0) rfl (by decide) (by decide) rfl (fun ls hl => ?_)
  refine lv_goto (tgt := 14) hx hb dX5_init_35 (by decide) ?_
  refine lv_iload_n hx hb dX5_init_14 rfl (lv_at hl 0 rfl) ?_
  refine lv_iconst (v := (4 : Int32)) hx hb dX5_init_15 (by decide) ?_
  refine lv_icmp_ge (tgt := 38) hx hb dX5_init_16 (by decide) (fun cc => ?_) (fun cc => absurd (show (4 : Int32) ≤ nI 4 by decide) cc)
  obtain ⟨u, hu⟩ : ∃ u : Nat → Nat, u = fun k => if k = o then h0 else if k = o + 1 then qq else if k < o + 55 then u0 k else if k < o + 108 then u1 k else if k < o + 161 then u2 k else u3 k := ⟨_, rfl⟩
  have eu : u o = h0 := by rw [hu]; exact if_pos rfl
  have e1 : u (o + 1) = qq := by rw [hu]; show (if (o + 1) = o then h0 else if (o + 1) = o + 1 then qq else if o + 1 < o + 55 then u0 (o + 1) else if o + 1 < o + 108 then u1 (o + 1) else if o + 1 < o + 161 then u2 (o + 1) else u3 (o + 1)) = qq; rw [if_neg (by omega), if_pos rfl]
  have a0 : ∀ k : Nat, o + 2 ≤ k → k < o + 55 → u k = u0 k := fun k h1 h2 => by rw [hu]; show (if k = o then h0 else if k = o + 1 then qq else if k < o + 55 then u0 k else if k < o + 108 then u1 k else if k < o + 161 then u2 k else u3 k) = u0 k; rw [if_neg (show ¬ k = o by omega), if_neg (show ¬ k = o + 1 by omega), if_pos (show k < o + 55 by omega)]
  have b0 : wX0 cy u0 (o + 1 + 1 + 53 * 0) co0 = wX0 cy u (o + 1 + 1 + 53 * 0) co0 := wX0_eq fun k h1 h2 => (a0 k (by omega) (by omega)).symm
  have c0 : u0 (o + 1 + 1 + 53 * 0) = u (o + 1 + 1 + 53 * 0) := (a0 _ (by omega) (by omega)).symm
  have a1 : ∀ k : Nat, o + 55 ≤ k → k < o + 108 → u k = u1 k := fun k h1 h2 => by rw [hu]; show (if k = o then h0 else if k = o + 1 then qq else if k < o + 55 then u0 k else if k < o + 108 then u1 k else if k < o + 161 then u2 k else u3 k) = u1 k; rw [if_neg (show ¬ k = o by omega), if_neg (show ¬ k = o + 1 by omega), if_neg (show ¬ k < o + 55 by omega), if_pos (show k < o + 108 by omega)]
  have b1 : wX0 cy u1 (o + 1 + 1 + 53 * 1) co0 = wX0 cy u (o + 1 + 1 + 53 * 1) co0 := wX0_eq fun k h1 h2 => (a1 k (by omega) (by omega)).symm
  have c1 : u1 (o + 1 + 1 + 53 * 1) = u (o + 1 + 1 + 53 * 1) := (a1 _ (by omega) (by omega)).symm
  have a2 : ∀ k : Nat, o + 108 ≤ k → k < o + 161 → u k = u2 k := fun k h1 h2 => by rw [hu]; show (if k = o then h0 else if k = o + 1 then qq else if k < o + 55 then u0 k else if k < o + 108 then u1 k else if k < o + 161 then u2 k else u3 k) = u2 k; rw [if_neg (show ¬ k = o by omega), if_neg (show ¬ k = o + 1 by omega), if_neg (show ¬ k < o + 55 by omega), if_neg (show ¬ k < o + 108 by omega), if_pos (show k < o + 161 by omega)]
  have b2 : wX0 cy u2 (o + 1 + 1 + 53 * 2) co0 = wX0 cy u (o + 1 + 1 + 53 * 2) co0 := wX0_eq fun k h1 h2 => (a2 k (by omega) (by omega)).symm
  have c2 : u2 (o + 1 + 1 + 53 * 2) = u (o + 1 + 1 + 53 * 2) := (a2 _ (by omega) (by omega)).symm
  have a3 : ∀ k : Nat, o + 161 ≤ k → k < o + 214 → u k = u3 k := fun k h1 h2 => by rw [hu]; show (if k = o then h0 else if k = o + 1 then qq else if k < o + 55 then u0 k else if k < o + 108 then u1 k else if k < o + 161 then u2 k else u3 k) = u3 k; rw [if_neg (show ¬ k = o by omega), if_neg (show ¬ k = o + 1 by omega), if_neg (show ¬ k < o + 55 by omega), if_neg (show ¬ k < o + 108 by omega), if_neg (show ¬ k < o + 161 by omega)]
  have b3 : wX0 cy u3 (o + 1 + 1 + 53 * 3) co0 = wX0 cy u (o + 1 + 1 + 53 * 3) co0 := wX0_eq fun k h1 h2 => (a3 k (by omega) (by omega)).symm
  have c3 : u3 (o + 1 + 1 + 53 * 3) = u (o + 1 + 1 + 53 * 3) := (a3 _ (by omega) (by omega)).symm
  have hf : (va_up (va_up (va_up (va_up (fun _ => none) 0 (some (u (o + 1 + 1 + 53 * 0)))) 1 (some (u (o + 1 + 1 + 53 * 1)))) 2 (some (u (o + 1 + 1 + 53 * 2)))) 3 (some (u (o + 1 + 1 + 53 * 3)))) = fun i => if i < 4 then some (u (o + 1 + 1 + 53 * i)) else none := by
    funext i
    match i with
    | 0 => rfl
    | 1 => rfl
    | 2 => rfl
    | 3 => rfl
    | n + 4 => simp [va_up]
  have ew : [(h0, (.inr (5, [.int 0, .ref qq]) : va_E))] ++ ([(qq, (.inl (cy 1, 4, .inr (.inr (.inr (.inr (va_up (va_up (va_up (va_up (fun _ => none) 0 (some (u0 (o + 1 + 1 + 53 * 0)))) 1 (some (u1 (o + 1 + 1 + 53 * 1)))) 2 (some (u2 (o + 1 + 1 + 53 * 2)))) 3 (some (u3 (o + 1 + 1 + 53 * 3)))))))) : va_E))] ++ W4) = [(u o, (.inr (5, [.int 0, .ref (u (o + 1))]) : va_E))] ++ ([(u (o + 1), (.inl (cy 1, 4, .inr (.inr (.inr (.inr (fun i => if i < 4 then some (u (o + 1 + 1 + 53 * i)) else none))))) : va_E))] ++ (wX0 cy u (o + 1 + 1 + 53 * 3) co0 ++ (wX0 cy u (o + 1 + 1 + 53 * 2) co0 ++ (wX0 cy u (o + 1 + 1 + 53 * 1) co0 ++ (wX0 cy u (o + 1 + 1 + 53 * 0) co0 ++ []))))) := by
    rw [hW4, hW3, hW2, hW1, b0, b1, b2, b3, c0, c1, c2, c3, hf, ← e1, ← eu]
  have hp : ([(u o, (.inr (5, [.int 0, .ref (u (o + 1))]) : va_E))] ++ ([(u (o + 1), (.inl (cy 1, 4, .inr (.inr (.inr (.inr (fun i => if i < 4 then some (u (o + 1 + 1 + 53 * i)) else none))))) : va_E))] ++ (wX0 cy u (o + 1 + 1 + 53 * 3) co0 ++ (wX0 cy u (o + 1 + 1 + 53 * 2) co0 ++ (wX0 cy u (o + 1 + 1 + 53 * 1) co0 ++ (wX0 cy u (o + 1 + 1 + 53 * 0) co0 ++ [])))))).Perm (wX5 cy u o re0) := by
    have h := ((pm4 (wX0 cy u (o + 1 + 1 + 53 * 0) co0) (wX0 cy u (o + 1 + 1 + 53 * 1) co0) (wX0 cy u (o + 1 + 1 + 53 * 2) co0) (wX0 cy u (o + 1 + 1 + 53 * 3) co0)).append_left [(u (o + 1), (.inl (cy 1, 4, .inr (.inr (.inr (.inr (fun i => if i < 4 then some (u (o + 1 + 1 + 53 * i)) else none))))) : va_E))]).append_left [(u o, (.inr (5, [.int 0, .ref (u (o + 1))]) : va_E))]
    have e : [(u o, (.inr (5, [.int 0, .ref (u (o + 1))]) : va_E))] ++ ([(u (o + 1), (.inl (cy 1, 4, .inr (.inr (.inr (.inr (fun i => if i < 4 then some (u (o + 1 + 1 + 53 * i)) else none))))) : va_E))] ++ (wX0 cy u (o + 1 + 1 + 53 * 0) co0 ++ (wX0 cy u (o + 1 + 1 + 53 * 1) co0 ++ (wX0 cy u (o + 1 + 1 + 53 * 2) co0 ++ wX0 cy u (o + 1 + 1 + 53 * 3) co0)))) = wX5 cy u o re0 := by
      unfold wX5 hX5 compsW kW
      simp only [List.append_assoc]
      rfl
    rw [e] at h
    exact h
  rw [ew] at hP hD
  have hP := P_mem hP (fun q hq => hp.mem_iff.mpr hq)
  have hD := D_perm hD hp
  refine W.widen (k := 213) (n := 2944) (by decide) (by decide) ?_
  exact W.vret hx hb hr (fun t ht hW => ⟨⟨u, rfl, eu, by rw [ht]; exact hP, by rw [hAe]; exact hD⟩, hS.F ht⟩) hS.2.2 dX5_init_38
