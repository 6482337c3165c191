/-! rows of this claim's own, 2: rows of int[][], calls that write one cell, fill and the copies -/
theorem cell_eq {cA : ClassId} {n : Nat} {f g : Nat → Int32} (h : ∀ k, k < n → f k = g k) : vp_cell cA (n, .inl f) = vp_cell cA (n, .inl g) := by
  rw [vp_cell_i, vp_cell_i]
  unfold arrV
  rw [show (fun j : Fin n => Value.int (f j.val)) = fun j : Fin n => Value.int (g j.val) from funext fun j => by rw [h j.val j.isLt]]
section MYQ
variable {p : Program} {l : Launch} {e : Env} {R : Room} {s : State} {m : MethodId} {args : Array Value} {below : List Frame} {meth : Method} {c : Code} {H : Heap} {locs : List Loc} {cells slots : Nat} {Q : State → Prop}
variable {cc : ByteArray} {pc : Nat} {ls : Array Slot} {rest st0 As : List Value} {D : va_G} {cl : List vw_C} {A A0 : Nat → Prop} {a : Nat} {tys : List (ClassId × FieldType)} {ws ws' : va_W} {H0 : Heap} {cy : Nat → ClassId}
/-- aaload of an int[][]: the row's address by its number -/
theorem r_aldR (hexec : p.tables.exec = Jvm.exec) (hb : c.code = cc) (hK : va_K D cl tys s) (hP : va_P D cl ws H) (q0 t0 : Nat) {cA : ClassId} {n o : Nat} {ad : Nat → Nat} (ha : ws[q0]? = some (a, .inl (cA, n, .inr (.inr (.inr (.inr (fun i => if i < n then some (ad (o + 1 + i)) else none))))))) (ht : tys[t0]? = some (cA, .array .int)) {i : Int32} {j : Nat} (hin : vp_in i n) (hj : i.toNatClampNeg = j) (hdg : decode cc pc = .ok (.aaload, 1))
    (kk : W p l e R s m args below meth c H locs cells slots Q (F0 m (pc + 1) ls (.ref (ad (o + 1 + j)) :: rest))) : W p l e R s m args below meth c H locs cells slots Q (F0 m pc ls (.int i :: .ref a :: rest)) := by
  subst hj
  have hlt : i.toNatClampNeg < n := Nat.not_le.mp fun q => hin (Or.inr q)
  refine W.aald (v := .ref (ad (o + 1 + i.toNatClampNeg))) (ty := .array .int) hexec hb (hP q0 _ ha) ((hK.2 t0 _ ht).1 n (fun j => va_rf (if j < n then some (ad (o + 1 + j)) else none))) rfl (fun q => by cases q) (by show ¬ (i < 0 ∨ (arrV _ _ _).slots.size ≤ _); rw [arrV_size]; exact hin) (by show (arrV _ _ _).slots[_]? = _; rw [arrV_read _ _ hlt]; show some (va_rf (if i.toNatClampNeg < n then some (ad (o + 1 + i.toNatClampNeg)) else none)) = _; rw [if_pos hlt]; rfl) rfl rfl hdg kk
theorem set1 {b : Nat} {e0 e1 : va_E} {H1 : Heap} {p1 : Nat} (hP : va_P D cl ws H) (hD : va_D A ws) (h1 : ws[p1]? = some (b, e0)) (hk : ∀ q : Nat, q < H.size → ¬ va_A [(b, e0)] H.size q → H1[q]? = H[q]?) (hP1 : va_P D cl [(b, e1)] H1) : va_P D cl (ws.set p1 (b, e1)) H1 := by
  intro k q hq
  rw [List.getElem?_set] at hq
  by_cases hkp : p1 = k
  · rw [if_pos hkp] at hq
    have hl : p1 < ws.length := (List.getElem?_eq_some_iff.mp h1).1
    rw [if_pos (by omega)] at hq
    cases hq
    exact hP1 0 _ rfl
  · rw [if_neg hkp] at hq
    have h9 := hP k q hq
    refine h9.kept (hk q.1 h9.lt (fun h => ?_))
    rcases h with ⟨i, e, h⟩ | h
    · match i, h with
      | 0, h =>
        cases h
        exact hkp (hD.1 p1 k _ q h1 hq rfl)
    · have := h9.lt
      omega
theorem set2 {x0 : Nat × va_E} {b : Nat} {e0 e1 : va_E} {H1 : Heap} {p0 p1 : Nat} (hP : va_P D cl ws H) (hD : va_D A ws) (h0 : ws[p0]? = some x0) (h1 : ws[p1]? = some (b, e0)) (hk : ∀ q : Nat, q < H.size → ¬ va_A [x0, (b, e0)] H.size q → H1[q]? = H[q]?) (hP1 : va_P D cl [x0, (b, e1)] H1) : va_P D cl (ws.set p1 (b, e1)) H1 := by
  intro k q hq
  rw [List.getElem?_set] at hq
  by_cases hkp : p1 = k
  · rw [if_pos hkp] at hq
    have hl : p1 < ws.length := (List.getElem?_eq_some_iff.mp h1).1
    rw [if_pos (by omega)] at hq
    cases hq
    exact hP1 1 _ rfl
  · rw [if_neg hkp] at hq
    by_cases hk0 : p0 = k
    · subst hk0
      cases h0.symm.trans hq
      exact hP1 0 _ rfl
    · have h9 := hP k q hq
      refine h9.kept (hk q.1 h9.lt (fun h => ?_))
      rcases h with ⟨i, e, h⟩ | h
      · match i, h with
        | 0, h =>
          cases h
          exact hk0 (hD.1 p0 k _ q h0 hq rfl)
        | 1, h =>
          cases h
          exact hkp (hD.1 p1 k _ q h1 hq rfl)
      · have := h9.lt
        omega
/-- a call that writes one cell, handed in alone -/
theorem mcC1 {b : Nat} {e0 e1 : va_E} (run : PreS s H (mP D cy H.size As [(b, e0)]) As → va_Run p l e R s m args below meth c H locs cells slots 0 0 (F0 m pc ls st0) rest (va_Qv (fun (_ : Unit) => True) (fun _ t => mB D H.size [(b, e0)] [(b, e1)] t) (va_A [(b, e0)] H.size) As.toArray) (va_A [(b, e0)] H.size))
    (hG : gK D cy s) (hP : va_P D vwCl ws H) (hD : va_D A0 ws) (hS : va_S A0 H0 H locs) (hA : ∀ q, H0.size ≤ q → A0 q) (p1 : Nat) (h1 : ws[p1]? = some (b, e0)) (hw : ws.set p1 (b, e1) = ws')
    (kk : ∀ (H1 : Heap) (locs1 : List Loc), va_P D vwCl ws' H1 → va_D A0 ws' → va_S A0 H0 H1 locs1 → W p l e R s m args below meth c H1 locs1 cells slots Q (F0 m (pc + 3) ls rest)) : W p l e R s m args below meth c H locs cells slots Q (F0 m pc ls st0) := by
  subst hw
  have hPc : va_P D vwCl [(b, e0)] H := fun k q hq => by
    match k, hq with
    | 0, hq => cases hq; exact hP p1 _ h1
  have hDc : va_D (fun _ => True) [(b, e0)] := ⟨fun i j x z hi hj _ => by
    match i, j, hi, hj with
    | 0, 0, _, _ => rfl, fun _ _ _ => trivial⟩
  have hFc : ∀ q, va_A [(b, e0)] H.size q → A0 q := by
    rintro q (⟨k, e9, h⟩ | h)
    · match k, h with
      | 0, h => cases h; exact hD.2 p1 _ h1
    · exact hA q (Nat.le_trans hS.1 h)
  refine va_callv (run ⟨bl1 fun U g mk a q => ⟨q.1, q.2.1, q.2.2.1.call, q.2.2.2⟩, fun U hU hW => ⟨rfl, by rw [hU], by rw [hU]; exact hPc, hG.warm hW, hDc⟩⟩) hS (fun q _ h => hFc q h) hFc (fun u t H1 locs ht hvm hw hB hz1 hk1 hS => ?_)
  obtain ⟨hP1, hD1⟩ := hB
  rw [ht] at hP1
  exact kk H1 locs (set1 hP hD h1 hk1 hP1) (hD.set h1) hS
/-- .. that reads another one -/
theorem mcC2 {x0 : Nat × va_E} {b : Nat} {e0 e1 : va_E} (run : PreS s H (mP D cy H.size As [x0, (b, e0)]) As → va_Run p l e R s m args below meth c H locs cells slots 0 0 (F0 m pc ls st0) rest (va_Qv (fun (_ : Unit) => True) (fun _ t => mB D H.size [x0, (b, e0)] [x0, (b, e1)] t) (va_A [x0, (b, e0)] H.size) As.toArray) (va_A [x0, (b, e0)] H.size))
    (hG : gK D cy s) (hP : va_P D vwCl ws H) (hD : va_D A0 ws) (hS : va_S A0 H0 H locs) (hA : ∀ q, H0.size ≤ q → A0 q) (p0 p1 : Nat) (h0 : ws[p0]? = some x0) (h1 : ws[p1]? = some (b, e0)) (hne : p0 ≠ p1) (hw : ws.set p1 (b, e1) = ws')
    (kk : ∀ (H1 : Heap) (locs1 : List Loc), va_P D vwCl ws' H1 → va_D A0 ws' → va_S A0 H0 H1 locs1 → W p l e R s m args below meth c H1 locs1 cells slots Q (F0 m (pc + 3) ls rest)) : W p l e R s m args below meth c H locs cells slots Q (F0 m pc ls st0) := by
  subst hw
  have hPc : va_P D vwCl [x0, (b, e0)] H := fun k q hq => by
    match k, hq with
    | 0, hq => cases hq; exact hP p0 _ h0
    | 1, hq => cases hq; exact hP p1 _ h1
  have hDc : va_D (fun _ => True) [x0, (b, e0)] := ⟨fun i j x z hi hj hx => by
    match i, j, hi, hj with
    | 0, 0, _, _ => rfl
    | 1, 1, _, _ => rfl
    | 0, 1, hi, hj => cases hi; cases hj; exact absurd (hD.1 p0 p1 _ _ h0 h1 hx) hne
    | 1, 0, hi, hj => cases hi; cases hj; exact absurd (hD.1 p0 p1 _ _ h0 h1 hx.symm) hne, fun _ _ _ => trivial⟩
  have hFc : ∀ q, va_A [x0, (b, e0)] H.size q → A0 q := by
    rintro q (⟨k, e9, h⟩ | h)
    · match k, h with
      | 0, h => cases h; exact hD.2 p0 _ h0
      | 1, h => cases h; exact hD.2 p1 _ h1
    · exact hA q (Nat.le_trans hS.1 h)
  refine va_callv (run ⟨bl1 fun U g mk a q => ⟨q.1, q.2.1, q.2.2.1.call, q.2.2.2⟩, fun U hU hW => ⟨rfl, by rw [hU], by rw [hU]; exact hPc, hG.warm hW, hDc⟩⟩) hS (fun q _ h => hFc q h) hFc (fun u t H1 locs ht hvm hw hB hz1 hk1 hS => ?_)
  obtain ⟨hP1, hD1⟩ := hB
  rw [ht] at hP1
  exact kk H1 locs (set2 hP hD h0 h1 hk1 hP1) (hD.set h1) hS
end MYQ
def pick (ws : va_W) (is : List Nat) : va_W := is.filterMap (fun i => ws[i]?)
section MYM
variable {p : Program} {l : Launch} {e : Env} {R : Room} {s : State} {m : MethodId} {args : Array Value} {below : List Frame} {meth : Method} {c : Code} {H : Heap} {locs : List Loc} {cells slots : Nat} {Q : State → Prop}
variable {y : MethodName} {bytes cc : ByteArray} {maxL nL n index : Nat} {ret : Option FieldType} {wsc : List Cond} {rm : Room} {Ts : List Cond} {own C host : String} {b : Nat} {As rest st0 : List Value} {pc : Nat} {ls : Array Slot} {D : va_G} {cy : Nat → ClassId} {wc ws ws' : va_W}
variable {A0 : Nat → Prop} {H0 : Heap}
theorem mxVi {S : Type} {wf : S → va_W} {rs : Int32 × S} {q0 ci : Nat} {q : vw_C} {fs : List Value} (hM : Met l y wsc rm (mP D cy H.size (.ref b :: As) wc) (va_Qi (fun r (u : S) => (r, u) = rs) (fun u t => mB D H.size wc (wf u) t) (va_A wc H.size)) 0 0 (va_A wc H.size)) (S : CallFix p m c cc nL s args Ts own) (cw : CallW R s args own q.1 index y bytes maxL ret wsc rm 0 0 n)
    (hG : gK D cy s) (hP : va_P D vwCl ws H) (hD : va_D A0 ws) (hS : va_S A0 H0 H locs) (hA : ∀ q, H0.size ≤ q → A0 q) (isC isR isB : List Nat) (hC : isC.map (fun i => ws[i]?) = wc.map some) (hR : isR.map (fun i => ws[i]?) = (pick ws isR).map some) (hnC : va_nd isC = true) (hnR : va_nd isR = true) (hdis : ∀ i ∈ isR, i ∉ isC) (hB : isB.map (fun i => (pick ws isR ++ wf rs.2)[i]?) = ws'.map some) (hnB : va_nd isB = true)
    (he : wc[q0]? = some (b, .inr (ci, fs))) (hc : vwCl[ci]? = some q) (hn : As.length = n) (hsize : ls.size = nL) (hst : st0 = As.reverse ++ .ref b :: rest) (hW : (rest.map fun v => v.category).sum ≤ 8) (hdg : decode cc pc = .ok (.invokevirtual index, 3)) (hf : cells ≤ R.cells ∧ slots ≤ R.slots)
    (kk : ∀ (H1 : Heap) (locs1 : List Loc), va_P D vwCl ws' H1 → va_D A0 ws' → va_S A0 H0 H1 locs1 → W p l e R s m args below meth c H1 locs1 cells slots Q (F0 m (pc + 3) ls (.int rs.1 :: rest))) : W p l e R s m args below meth c H locs cells slots Q (F0 m pc ls st0) :=
  mcVi (wr := pick ws isR) hM S cw hG hP hD hS hA isC isR hC hR hnC hnR hdis he hc hn hsize hst hW hdg hf (fun H1 locs1 hP hD hS => kk H1 locs1 (P_of_map hP hB) (hD.sub isB hnB hB) hS)
theorem mxVv {S : Type} {wf : S → va_W} {rs : S} {q0 ci : Nat} {q : vw_C} {fs : List Value} (hM : Met l y wsc rm (mP D cy H.size (.ref b :: As) wc) (va_Qv (fun (u : S) => u = rs) (fun u t => mB D H.size wc (wf u) t) (va_A wc H.size)) 0 0 (va_A wc H.size)) (S : CallFix p m c cc nL s args Ts own) (cw : CallW R s args own q.1 index y bytes maxL ret wsc rm 0 0 n)
    (hG : gK D cy s) (hP : va_P D vwCl ws H) (hD : va_D A0 ws) (hS : va_S A0 H0 H locs) (hA : ∀ q, H0.size ≤ q → A0 q) (isC isR isB : List Nat) (hC : isC.map (fun i => ws[i]?) = wc.map some) (hR : isR.map (fun i => ws[i]?) = (pick ws isR).map some) (hnC : va_nd isC = true) (hnR : va_nd isR = true) (hdis : ∀ i ∈ isR, i ∉ isC) (hB : isB.map (fun i => (pick ws isR ++ wf rs)[i]?) = ws'.map some) (hnB : va_nd isB = true)
    (he : wc[q0]? = some (b, .inr (ci, fs))) (hc : vwCl[ci]? = some q) (hn : As.length = n) (hsize : ls.size = nL) (hst : st0 = As.reverse ++ .ref b :: rest) (hW : (rest.map fun v => v.category).sum ≤ 8) (hdg : decode cc pc = .ok (.invokevirtual index, 3)) (hf : cells ≤ R.cells ∧ slots ≤ R.slots)
    (kk : ∀ (H1 : Heap) (locs1 : List Loc), va_P D vwCl ws' H1 → va_D A0 ws' → va_S A0 H0 H1 locs1 → W p l e R s m args below meth c H1 locs1 cells slots Q (F0 m (pc + 3) ls rest)) : W p l e R s m args below meth c H locs cells slots Q (F0 m pc ls st0) :=
  mcVv (wr := pick ws isR) hM S cw hG hP hD hS hA isC isR hC hR hnC hnR hdis he hc hn hsize hst hW hdg hf (fun H1 locs1 hP hD hS => kk H1 locs1 (P_of_map hP hB) (hD.sub isB hnB hB) hS)
/-- a void call, however it is made, that writes the cells that it is handed -/
theorem mcRv {S : Type} {wf : S → va_W} {rs : S} (run : PreS s H (mP D cy H.size As wc) As → va_Run p l e R s m args below meth c H locs cells slots 0 0 (F0 m pc ls st0) rest (va_Qv (fun (u : S) => u = rs) (fun u t => mB D H.size wc (wf u) t) (va_A wc H.size) As.toArray) (va_A wc H.size))
    (hG : gK D cy s) (hP : va_P D vwCl ws H) (hD : va_D A0 ws) (hS : va_S A0 H0 H locs) (hA : ∀ q, H0.size ≤ q → A0 q) (isC isR isB : List Nat) (hC : isC.map (fun i => ws[i]?) = wc.map some) (hR : isR.map (fun i => ws[i]?) = (pick ws isR).map some) (hnC : va_nd isC = true) (hnR : va_nd isR = true) (hdis : ∀ i ∈ isR, i ∉ isC) (hB : isB.map (fun i => (pick ws isR ++ wf rs)[i]?) = ws'.map some) (hnB : va_nd isB = true)
    (kk : ∀ (H1 : Heap) (locs1 : List Loc), va_P D vwCl ws' H1 → va_D A0 ws' → va_S A0 H0 H1 locs1 → W p l e R s m args below meth c H1 locs1 cells slots Q (F0 m (pc + 3) ls rest)) : W p l e R s m args below meth c H locs cells slots Q (F0 m pc ls st0) := by
  have hDc : va_D A0 wc := hD.sub isC hnC hC
  have hPc : va_P D vwCl wc H := P_of_map hP hC
  have hFc := va_free (wc := wc) hD hS hA isC hC
  refine va_callv (run ⟨bl1 fun U g mk a q => ⟨q.1, q.2.1, q.2.2.1.call, q.2.2.2⟩, fun U hU hW => ⟨rfl, by rw [hU], by rw [hU]; exact hPc, hG.warm hW, hDc.weaken (fun _ _ _ _ => trivial)⟩⟩) hS (fun q _ h => hFc q h) hFc (fun u t H1 locs ht hvm hw hB1 hz1 hk1 hS => ?_)
  subst hw
  obtain ⟨hP1, hD1⟩ := hB1
  rw [ht] at hP1
  obtain ⟨hP, hD⟩ := va_join (wr := pick ws isR) (w1 := wf u) hP hD isC isR hC hR hnR hdis hk1 hFc hP1 hD1
  exact kk H1 locs (P_of_map hP hB) (hD.sub isB hnB hB) hS
/-- a private static method of a nest mate that writes nothing -/
theorem pcSN {r : Int32} (hM : Met l y wsc rm (va_Pc As (fun U => va_P D vwCl wc U.heap ∧ gK D cy U)) (vp_Si (fun z => z = r)) 0 0 (fun _ => False)) (S : CallFix p m c cc nL s args Ts own) (cw : va_CN R s args own index y host bytes maxL ret wsc rm 0 0 n ∧ (Cond.static y).before args s = true ∧ True)
    (hG : gK D cy s) (hP : va_P D vwCl wc H) (hn : As.length = n) (hsize : ls.size = nL) (hst : st0 = As.reverse ++ rest) (hW : (rest.map fun v => v.category).sum ≤ 8) (hdg : decode cc pc = .ok (.invokestatic index, 3)) (hf : cells ≤ R.cells ∧ slots ≤ R.slots)
    (kk : W p l e R s m args below meth c H locs cells slots Q (F0 m (pc + 3) ls (.int r :: rest))) : W p l e R s m args below meth c H locs cells slots Q (F0 m pc ls st0) :=
  vp_callSi (va_runSN S hM cw ⟨bl1 fun U g mk a q => ⟨q.1, q.2.call⟩, fun U hU hW => ⟨rfl, by rw [hU]; exact hP, hG.warm hW⟩⟩ rfl hn hsize hst (lv_room hW) hdg hf).run (fun z hz => by rw [hz]; exact kk)
end MYM
section MYR2
variable {p : Program} {l : Launch} {e : Env} {R : Room} {s : State} {m : MethodId} {args : Array Value} {below : List Frame} {meth : Method} {c : Code} {H : Heap} {locs : List Loc} {cells slots : Nat} {Q : State → Prop}
variable {y : MethodName} {bytes cc : ByteArray} {maxL nL n index : Nat} {ret : Option FieldType} {wsc : List Cond} {rm : Room} {Ts : List Cond} {own C host : String} {b : Nat} {As rest st0 : List Value} {pc : Nat} {ls : Array Slot} {D : va_G} {cy : Nat → ClassId} {wc ws ws' : va_W}
/-- a call that writes nothing and hands back one of two objects -/
theorem pcR2 {cd : Prop} [Decidable cd] {a1 a2 : Nat} {q0 ci : Nat} {q : vw_C} {fs : List Value} (hM : Met l y wsc rm (va_Pc (.ref b :: As) (fun U => va_P D vwCl wc U.heap ∧ gK D cy U)) (va_Sr (fun z => z = if cd then a1 else a2) (fun z => .ref z)) 0 0 (fun _ => False)) (S : CallFix p m c cc nL s args Ts own) (cw : CallW R s args own q.1 index y bytes maxL ret wsc rm 0 0 n)
    (hG : gK D cy s) (hP : va_P D vwCl wc H) (he : wc[q0]? = some (b, .inr (ci, fs))) (hc : vwCl[ci]? = some q) (hn : As.length = n) (hsize : ls.size = nL) (hst : st0 = As.reverse ++ .ref b :: rest) (hW : (rest.map fun v => v.category).sum ≤ 8) (hdg : decode cc pc = .ok (.invokevirtual index, 3)) (hf : cells ≤ R.cells ∧ slots ≤ R.slots)
    (kt : cd → W p l e R s m args below meth c H locs cells slots Q (F0 m (pc + 3) ls (.ref a1 :: rest))) (kf : ¬ cd → W p l e R s m args below meth c H locs cells slots Q (F0 m (pc + 3) ls (.ref a2 :: rest))) : W p l e R s m args below meth c H locs cells slots Q (F0 m pc ls st0) := by
  refine va_csr (W.runV S hM cw ⟨bl1 fun U g mk a q => ⟨q.1, q.2.call⟩, va_recv hG.1 hP hc he, fun U hU hW => ⟨rfl, by rw [hU]; exact hP, hG.warm hW⟩⟩ rfl hn hsize hst (lv_room hW) hdg hf) (fun z hz => ?_)
  subst hz
  by_cases h : cd
  · rw [if_pos h]; exact kt h
  · rw [if_neg h]; exact kf h
end MYR2
