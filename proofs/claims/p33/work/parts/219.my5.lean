/-! rows of this claim's own, 5: openSheet; throwing; the kept records -/
set_option maxHeartbeats 4000000 in
set_option maxRecDepth 100000 in
theorem qX0_openSheet (l : Launch) (D : va_G) (cy : Nat → ClassId) (a : Nat → Nat) (o : Nat) (S : SX0) : Met l yX0_openSheet wsX0_openSheet ({ frames := 0, cells := 0, slots := 0, locals := 0 } : Room) (va_Pc [.ref (a o)] (fun U => va_P D vwCl (wX0 cy a o S) U.heap ∧ gK D cy U)) (va_Sr (fun z => z = if gX0_state S = (2 : Int32) then a (o + 35 + 2) else a (o + 26)) (fun z => .ref z)) 0 0 (fun _ => False) := by
  refine Met.ofW (cc := cX0_openSheet) (maxL := 1) (ret := (some (.object "PianoRounds$Sheet"))) (by decide) rfl ?_
  intro p e s m args below meth c s₁ B hml hv
  obtain ⟨rfl, hP, hG⟩ := hv
  have hx := B.exec
  have hb := B.bytes
  have hr := B.returns
  have hts := atoms_spec (ws := wsX0_openSheet) B.pre
  have hown : s.vm.findClass RX0 = some m.cls := findClass_of_methodNamed B.named
  have hlocks := B.notSynchronized
  have hK := hG.1
  have hinX0 := (by decide +kernel : ∀ w ∈ wsX00, w ∈ wsX0_openSheet)
  have hinX9 := (by decide +kernel : ∀ w ∈ wsX90, w ∈ wsX0_openSheet)
  have hl := lv_entry ([.ref (a o)]) (n := 1) (Nat.le_of_ble_eq_true rfl)
  rw [lg_entry_eq]
  generalize (lg_sl ([.ref (a o)]) ++ List.replicate (1 - (lg_sl ([.ref (a o)])).length) Slot.unset).toArray = ls at hl ⊢
  have hl : lv_has ls 1 [(0, .ref (a o))] := hl
  refine lv_aload_n hx hb dX0_openSheet_0 rfl (lv_at hl 0 rfl) ?_
  refine va_get (D := D) (ci := 0) (v := .int (gX0_state S)) (C := RX0) (T := TX0) (N := 14) hx hb hts hinX0 hown hK hP 0 rfl rfl 0 (by decide) (hts (.fieldLink RX0 9 "PianoRounds$Competition" "state" "I") (by decide +kernel)) (fun _ h9 => h9) rfl dX0_openSheet_1 ?_
  refine lv_iconst (v := (2 : Int32)) hx hb dX0_openSheet_4 (by decide) ?_
  refine lv_icmp_ne (tgt := 18) hx hb dX0_openSheet_5 (by decide) (fun cc => ?_) (fun cc => ?_)
  · refine lv_aload_n hx hb dX0_openSheet_18 rfl (lv_at hl 0 rfl) ?_
    refine va_get (D := D) (ci := 0) (v := .ref (a (o + 26))) (C := RX0) (T := TX0) (N := 14) hx hb hts hinX0 hown hK hP 0 rfl rfl 10 (by decide) (hts (.fieldLink RX0 64 "PianoRounds$Competition" "sheet" "LPianoRounds$Sheet;") (by decide +kernel)) (fun _ h9 => h9) rfl dX0_openSheet_19 ?_
    exact W.aret (v := .ref (a (o + 26))) hx hb hr (Or.inl ⟨_, rfl⟩) (Or.inr ⟨_, rfl⟩) (fun t ht hW => ⟨a (o + 26), rfl, (if_neg cc).symm, ht⟩) (fun q hq => nomatch hq) dX0_openSheet_22
  · refine lv_aload_n hx hb dX0_openSheet_8 rfl (lv_at hl 0 rfl) ?_
    refine va_get (D := D) (ci := 0) (v := .ref (a (o + 35))) (C := RX0) (T := TX0) (N := 14) hx hb hts hinX0 hown hK hP 0 rfl rfl 11 (by decide) (hts (.fieldLink RX0 71 "PianoRounds$Competition" "tie" "LPianoRounds$Tie;") (by decide +kernel)) (fun _ h9 => h9) rfl dX0_openSheet_9 ?_
    refine va_getN (D := D) (ci := 9) (v := .ref (a (o + 35 + 2))) (C := RX9) (T := TX9) (N := 4) hx hb hts hinX9 hown hK hP 35 rfl rfl 3 (by decide) (va_Nw.use (A := _) (U := s) (w := .fieldLinkNest "PianoRounds$Competition" 176 "PianoRounds$Tie" "sheet" "LPianoRounds$Sheet;" "PianoRounds") rfl (hG.2.1 _ (by decide +kernel))) (fun _ h9 => h9) rfl dX0_openSheet_12 ?_
    refine lv_goto (tgt := 22) hx hb dX0_openSheet_15 (by decide) ?_
    exact W.aret (v := .ref (a (o + 35 + 2))) hx hb hr (Or.inl ⟨_, rfl⟩) (Or.inr ⟨_, rfl⟩) (fun t ht hW => ⟨a (o + 35 + 2), rfl, (if_pos cc).symm, ht⟩) (fun q hq => nomatch hq) dX0_openSheet_22
theorem castL_use {s : State} {args : Array Value} (h : ∀ w ∈ castL, va_Nw w s) : ∀ w ∈ castL, w.before args s = true := by
  intro w hw
  have h1 := h w hw
  have h2 : w.onTables = true := by
    revert w
    unfold castL
    intro w hw _
    rcases List.mem_cons.mp hw with e | hw
    · rw [e]; rfl
    rcases List.mem_cons.mp hw with e | hw
    · rw [e]; rfl
    rcases List.mem_cons.mp hw with e | hw
    · rw [e]; rfl
    rcases List.mem_cons.mp hw with e | hw
    · rw [e]; rfl
    rcases List.mem_cons.mp hw with e | hw
    · rw [e]; rfl
    rcases List.mem_cons.mp hw with e | hw
    · rw [e]; rfl
    cases hw
  exact va_Nw.use h2 h1
theorem xThrow {R0 : Type} {rs : Nat ⊕ R0} {k : Nat} {E : String} {D : va_G} {w0 : va_W} {s t : State} {H : Heap} {locs : List Loc} (hE : E = exN k) (h : Sum.inl k = rs) (hP : va_P D vwCl w0 H) (hD : va_D (va_A w0 s.heap.size) w0) (hS : va_S (va_A w0 s.heap.size) s.heap H locs) (hz : H.size ≤ t.heap.size) (hk : ∀ q : Nat, q < H.size → t.heap[q]? = H[q]?) : xC D s.heap.size w0 rs E s t :=
  ⟨k, h, ⟨hE, hP.kept (fun i q hq => hk q.1 (hP i q hq).lt), hD⟩, Nat.le_trans hS.1 hz, fun q h1 h2 => (hk q (Nat.lt_of_lt_of_le h1 hS.1)).trans (hS.2.1 q h1 h2)⟩
section MYK
variable {p : Program} {l : Launch} {e : Env} {R : Room} {s : State} {m : MethodId} {args : Array Value} {below : List Frame} {meth : Method} {c : Code} {H : Heap} {locs : List Loc} {cells slots : Nat} {Q : State → Prop}
variable {cc : ByteArray} {pc : Nat} {ls : Array Slot} {rest : List Value} {D : va_G} {A : Nat → Prop} {a : Nat} {tys : List (ClassId × FieldType)} {ws ws' : va_W} {H0 : Heap}
theorem r_aldK {cl : List vw_C} (hexec : p.tables.exec = Jvm.exec) (hb : c.code = cc) (hK : va_K D cl tys s) (hP : va_P D cl ws H) (q0 t0 : Nat) {cA : ClassId} {o : Nat} {ad rho : Nat → Nat} (ha : ws[q0]? = some (a, .inl (cA, 4, .inr (.inr (.inr (.inr (fun i => if i < 4 then some (ad (o + 1 + 53 * rho i)) else none))))))) {C : String} (ht : tys[t0]? = some (cA, .object C)) {i : Int32} {j : Nat} (hin : vp_in i 4) (hj : i.toNatClampNeg = j) (hdg : decode cc pc = .ok (.aaload, 1))
    (kk : W p l e R s m args below meth c H locs cells slots Q (F0 m (pc + 1) ls (.ref (ad (o + 1 + 53 * rho j)) :: rest))) : W p l e R s m args below meth c H locs cells slots Q (F0 m pc ls (.int i :: .ref a :: rest)) := by
  subst hj
  have hlt : i.toNatClampNeg < 4 := Nat.not_le.mp fun q => hin (Or.inr q)
  refine va_aldq hexec hb hK hP q0 t0 ha ht hin hdg ?_
  have h9 : va_rf ((fun i => if i < 4 then some (ad (o + 1 + 53 * rho i)) else none) i.toNatClampNeg) = .ref (ad (o + 1 + 53 * rho i.toNatClampNeg)) := by
    show va_rf (if i.toNatClampNeg < 4 then some (ad (o + 1 + 53 * rho i.toNatClampNeg)) else none) = _
    rw [if_pos hlt]
    rfl
  rw [h9]
  exact kk
theorem r_astK (hexec : p.tables.exec = Jvm.exec) (hb : c.code = cc) (hK : va_K D vwCl tys s) (hP : va_P D vwCl ws H) (hD : va_D A ws) (hS : va_S A H0 H locs) (q0 t0 : Nat) {cA : ClassId} {o r : Nat} {ad rho : Nat → Nat} (ha : ws[q0]? = some (a, .inl (cA, 4, .inr (.inr (.inr (.inr (fun i => if i < 4 then some (ad (o + 1 + 53 * rho i)) else none))))))) (ht : tys[t0]? = some (cA, .object RX0)) (hv : ∃ (qk : Nat) (vs : List Value), ws[qk]? = some (ad (o + 1 + 53 * r), .inr (0, vs))) {i : Int32} {j : Nat} (hin : vp_in i 4) (hj : i.toNatClampNeg = j) (hj4 : j < 4) (hw : ws.set q0 (a, .inl (cA, 4, .inr (.inr (.inr (.inr (fun i => if i < 4 then some (ad (o + 1 + 53 * updN rho j r i)) else none)))))) = ws') (hdg : decode cc pc = .ok (.aastore, 1))
    (kk : ∀ (H1 : Heap) (locs1 : List Loc), va_P D vwCl ws' H1 → va_D A ws' → va_S A H0 H1 locs1 → W p l e R s m args below meth c H1 locs1 cells slots Q (F0 m (pc + 1) ls rest)) : W p l e R s m args below meth c H locs cells slots Q (F0 m pc ls (.ref (ad (o + 1 + 53 * r)) :: .int i :: .ref a :: rest)) := by
  subst hj
  subst hw
  obtain ⟨qk, vs, hv⟩ := hv
  have h9 : va_up (fun i => if i < 4 then some (ad (o + 1 + 53 * rho i)) else none) i.toNatClampNeg (some (ad (o + 1 + 53 * r))) = (fun q => if q < 4 then some (ad (o + 1 + 53 * updN rho i.toNatClampNeg r q)) else none) := by
    funext q
    unfold va_up updN
    by_cases h : q = i.toNatClampNeg
    · rw [if_pos h, if_pos h, if_pos (by omega)]
    · rw [if_neg h, if_neg h]
  refine va_astq (r := (RX0, TX0, 14)) hexec hb hK hP hD hS q0 t0 qk 0 ha ht hv rfl hin hdg (fun H1 locs1 hP hD hS => ?_)
  rw [h9] at hP hD
  exact kk H1 locs1 hP hD hS
end MYK
