/-! rows of this claim's own, 6: cutting a world by its segments (a permutation), and calls with it -/
def aW (cy : Nat → ClassId) (a : Nat → Nat) (o n : Nat) (f : Nat → Int32) : va_W := [(a o, .inl (cy 0, n, .inl f))]
theorem pm1 {α : Type} {ws X c Y : List α} (h : ws = X ++ (c ++ Y)) : ws.Perm (c ++ (X ++ Y)) := by
  rw [h, ← List.append_assoc, ← List.append_assoc]
  exact List.Perm.append_right Y List.perm_append_comm
theorem pm2 {α : Type} {ws X c1 Y c2 Z : List α} (h : ws = X ++ (c1 ++ (Y ++ (c2 ++ Z)))) : ws.Perm ((c1 ++ c2) ++ (X ++ (Y ++ Z))) := by
  have h1 : ws.Perm (c1 ++ (X ++ (Y ++ (c2 ++ Z)))) := pm1 h
  have h2 : (X ++ (Y ++ (c2 ++ Z))).Perm (c2 ++ ((X ++ Y) ++ Z)) := pm1 (by rw [List.append_assoc])
  refine h1.trans ?_
  rw [List.append_assoc c1]
  refine List.Perm.append_left c1 (h2.trans ?_)
  rw [List.append_assoc X]
theorem pm2r {α : Type} {ws X c1 Y c2 Z : List α} (h : ws = X ++ (c2 ++ (Y ++ (c1 ++ Z)))) : ws.Perm ((c1 ++ c2) ++ (X ++ (Y ++ Z))) :=
  (pm2 h).trans (List.Perm.append_right _ List.perm_append_comm)
section MYS
variable {p : Program} {l : Launch} {e : Env} {R : Room} {s : State} {m : MethodId} {args : Array Value} {below : List Frame} {meth : Method} {c : Code} {H : Heap} {locs : List Loc} {cells slots : Nat} {Q : State → Prop}
variable {y : MethodName} {bytes cc : ByteArray} {maxL nL n index : Nat} {ret : Option FieldType} {wsc : List Cond} {rm : Room} {Ts : List Cond} {own C host : String} {b : Nat} {As rest st0 : List Value} {pc : Nat} {ls : Array Slot} {D : va_G} {cl : List vw_C} {cy : Nat → ClassId} {wc ws ws' w1 Re : va_W}
variable {A0 : Nat → Prop} {H0 : Heap}
theorem P_mem {ws wc : va_W} (h : va_P D cl ws H) (hm : ∀ q, q ∈ wc → q ∈ ws) : va_P D cl wc H := by
  intro k q hq
  obtain ⟨i, hi⟩ := List.mem_iff_getElem?.mp (hm q (List.mem_of_getElem? hq))
  exact h i q hi
theorem P_seg {ws X c Y : va_W} (h : va_P D cl ws H) (e : ws = X ++ (c ++ Y)) : va_P D cl c H := P_mem h (fun q hq => by rw [e]; exact List.mem_append_right _ (List.mem_append_left _ hq))
theorem cutP (h : va_P D cl ws H) (hp : ws.Perm (wc ++ Re)) : va_P D cl wc H := P_mem h (fun q hq => hp.mem_iff.mpr (List.mem_append_left _ hq))
theorem D_nodup {A : Nat → Prop} {ws : va_W} : va_D A ws ↔ (ws.map Prod.fst).Nodup ∧ ∀ q ∈ ws, A q.1 := by
  constructor
  · intro h
    refine ⟨?_, fun q hq => ?_⟩
    · refine List.pairwise_iff_getElem.mpr (fun i j hi hj hij q => ?_)
      rw [List.length_map] at hi hj
      rw [List.getElem_map, List.getElem_map] at q
      have := h.1 i j _ _ (List.getElem?_eq_getElem hi) (List.getElem?_eq_getElem hj) q
      omega
    · obtain ⟨i, hi⟩ := List.mem_iff_getElem?.mp hq
      exact h.2 i q hi
  · rintro ⟨h1, h2⟩
    refine ⟨fun i j p q hp hq e => ?_, fun k q hk => h2 q (List.mem_of_getElem? hk)⟩
    have li : i < ws.length := (List.getElem?_eq_some_iff.mp hp).1
    have g : (ws.map Prod.fst)[i]? = (ws.map Prod.fst)[j]? := by
      rw [List.getElem?_map, List.getElem?_map, hp, hq]
      exact congrArg some e
    exact (List.getElem?_inj (by rw [List.length_map]; exact li) h1).mp g
theorem D_perm {A : Nat → Prop} {w w' : va_W} (h : va_D A w) (hp : w.Perm w') : va_D A w' := by
  rw [D_nodup] at h ⊢
  exact ⟨(hp.map Prod.fst).nodup_iff.mp h.1, fun q hq => h.2 q (hp.mem_iff.mpr hq)⟩
theorem cutD (h : va_D A0 ws) (hp : ws.Perm (wc ++ Re)) : va_D A0 wc := by
  have h1 := D_perm h hp
  rw [D_nodup] at h1 ⊢
  rw [List.map_append] at h1
  exact ⟨(List.nodup_append.mp h1.1).1, fun q hq => h1.2 q (List.mem_append_left _ hq)⟩
theorem cutF (hD : va_D A0 ws) (hp : ws.Perm (wc ++ Re)) (hS : va_S A0 H0 H locs) (hA : ∀ q, H0.size ≤ q → A0 q) : ∀ q, va_A wc H.size q → A0 q := by
  rintro q (⟨k, e, h⟩ | h)
  · have h1 := cutD hD hp
    exact h1.2 k (q, e) h
  · exact hA q (Nat.le_trans hS.1 h)
theorem cutJ {H1 : Heap} (hP : va_P D cl ws H) (hD : va_D A0 ws) (hp : ws.Perm (wc ++ Re)) (hp' : ws'.Perm (w1 ++ Re)) (hk : ∀ q : Nat, q < H.size → ¬ va_A wc H.size q → H1[q]? = H[q]?) (hF : ∀ q, va_A wc H.size q → A0 q) (hP1 : va_P D cl w1 H1) (hD1 : va_D (va_A wc H.size) w1) : va_P D cl ws' H1 ∧ va_D A0 ws' := by
  have hD2 := D_perm hD hp
  have hP2 : va_P D cl (wc ++ Re) H := P_mem hP (fun q hq => hp.mem_iff.mpr hq)
  have hnd := (D_nodup.mp hD2)
  rw [List.map_append] at hnd
  have hout : ∀ q ∈ Re, q.1 < H.size ∧ ¬ va_A wc H.size q.1 := by
    intro q hq
    obtain ⟨i, hi⟩ := List.mem_iff_getElem?.mp (List.mem_append_right wc hq)
    have hl := (hP2 i q hi).lt
    refine ⟨hl, ?_⟩
    rintro (⟨k, e, h⟩ | h)
    · exact (List.nodup_append.mp hnd.1).2.2 q.1 (List.mem_map.mpr ⟨(q.1, e), List.mem_of_getElem? h, rfl⟩) q.1 (List.mem_map.mpr ⟨q, hq, rfl⟩) rfl
    · omega
  have hPn : va_P D cl (w1 ++ Re) H1 := by
    refine va_P.app hP1 (fun k q hq => ?_)
    have hq' := List.mem_of_getElem? hq
    obtain ⟨g1, g2⟩ := hout q hq'
    obtain ⟨i, hi⟩ := List.mem_iff_getElem?.mp (List.mem_append_right wc hq')
    exact (hP2 i q hi).kept (hk q.1 g1 g2)
  have hDn : va_D A0 (w1 ++ Re) := by
    rw [D_nodup] at hD1 ⊢
    rw [List.map_append]
    refine ⟨List.nodup_append.mpr ⟨hD1.1, (List.nodup_append.mp hnd.1).2.1, ?_⟩, fun q hq => ?_⟩
    · intro x hx z hz e
      obtain ⟨q1, h1, rfl⟩ := List.mem_map.mp hx
      obtain ⟨q2, h2, rfl⟩ := List.mem_map.mp hz
      exact (hout q2 h2).2 (by rw [← e]; exact hD1.2 q1 h1)
    · rcases List.mem_append.mp hq with h | h
      · exact hF q.1 (hD1.2 q h)
      · exact hnd.2 q (List.mem_append_right _ h)
  exact ⟨P_mem hPn (fun q hq => hp'.mem_iff.mp hq), D_perm hDn hp'.symm⟩
theorem keepW (hP : va_P D cl ws H) (hD : va_D A0 ws) (hp : ws.Perm (wc ++ Re)) {H1 : Heap} (hk : ∀ q : Nat, q < H.size → ¬ va_A wc H.size q → H1[q]? = H[q]?) (hF : ∀ q, va_A wc H.size q → A0 q) (hP1 : va_P D cl wc H1) : va_P D cl ws H1 :=
  (cutJ hP hD hp hp hk hF hP1 ((cutD hD hp).self)).1
theorem smVi {S : Type} {wf : S → va_W} {rs : Int32 × S} {q0 ci : Nat} {q : vw_C} {fs : List Value} (hM : Met l y wsc rm (mP D cy H.size (.ref b :: As) wc) (va_Qi (fun r (u : S) => (r, u) = rs) (fun u t => mB D H.size wc (wf u) t) (va_A wc H.size)) 0 0 (va_A wc H.size)) (S : CallFix p m c cc nL s args Ts own) (cw : CallW R s args own q.1 index y bytes maxL ret wsc rm 0 0 n)
    (hG : gK D cy s) (hP : va_P D vwCl ws H) (hD : va_D A0 ws) (hS : va_S A0 H0 H locs) (hA : ∀ q, H0.size ≤ q → A0 q) (hp : ws.Perm (wc ++ Re)) (hp' : ws'.Perm (wf rs.2 ++ Re))
    (he : wc[q0]? = some (b, .inr (ci, fs))) (hc : vwCl[ci]? = some q) (hn : As.length = n) (hsize : ls.size = nL) (hst : st0 = As.reverse ++ .ref b :: rest) (hW : (rest.map fun v => v.category).sum ≤ 8) (hdg : decode cc pc = .ok (.invokevirtual index, 3)) (hf : cells ≤ R.cells ∧ slots ≤ R.slots)
    (kk : ∀ (H1 : Heap) (locs1 : List Loc), va_P D vwCl ws' H1 → va_D A0 ws' → va_S A0 H0 H1 locs1 → W p l e R s m args below meth c H1 locs1 cells slots Q (F0 m (pc + 3) ls (.int rs.1 :: rest))) : W p l e R s m args below meth c H locs cells slots Q (F0 m pc ls st0) := by
  have hDc := cutD hD hp
  have hPc := cutP hP hp
  have hFc := cutF hD hp hS hA
  refine va_calli (va_runV S hM cw ⟨bl1 fun U g mk a q => ⟨q.1, q.2.1, q.2.2.1.call, q.2.2.2⟩, va_recv hG.1 hPc hc he, fun U hU hW => ⟨rfl, by rw [hU], by rw [hU]; exact hPc, hG.warm hW, hDc.weaken (fun _ _ _ _ => trivial)⟩⟩ rfl hn hsize hst (lv_room hW) hdg hf) hS (fun q _ h => hFc q h) hFc (fun r u t H1 locs ht hvm hw hB hz1 hk1 hS => ?_)
  subst hw
  obtain ⟨hP1, hD1⟩ := hB
  rw [ht] at hP1
  obtain ⟨hP, hD⟩ := cutJ hP hD hp hp' hk1 hFc hP1 hD1
  exact kk H1 locs hP hD hS
/-- a void call, however it is made, that writes the cells that it is handed -/
theorem smRv {S : Type} {wf : S → va_W} {rs : S} (run : PreS s H (mP D cy H.size As wc) As → va_Run p l e R s m args below meth c H locs cells slots 0 0 (F0 m pc ls st0) rest (va_Qv (fun (u : S) => u = rs) (fun u t => mB D H.size wc (wf u) t) (va_A wc H.size) As.toArray) (va_A wc H.size))
    (hG : gK D cy s) (hP : va_P D vwCl ws H) (hD : va_D A0 ws) (hS : va_S A0 H0 H locs) (hA : ∀ q, H0.size ≤ q → A0 q) (hp : ws.Perm (wc ++ Re)) (hp' : ws'.Perm (wf rs ++ Re))
    (kk : ∀ (H1 : Heap) (locs1 : List Loc), va_P D vwCl ws' H1 → va_D A0 ws' → va_S A0 H0 H1 locs1 → W p l e R s m args below meth c H1 locs1 cells slots Q (F0 m (pc + 3) ls rest)) : W p l e R s m args below meth c H locs cells slots Q (F0 m pc ls st0) := by
  have hDc := cutD hD hp
  have hPc := cutP hP hp
  have hFc := cutF hD hp hS hA
  refine va_callv (run ⟨bl1 fun U g mk a q => ⟨q.1, q.2.1, q.2.2.1.call, q.2.2.2⟩, fun U hU hW => ⟨rfl, by rw [hU], by rw [hU]; exact hPc, hG.warm hW, hDc.weaken (fun _ _ _ _ => trivial)⟩⟩) hS (fun q _ h => hFc q h) hFc (fun u t H1 locs ht hvm hw hB1 hz1 hk1 hS => ?_)
  subst hw
  obtain ⟨hP1, hD1⟩ := hB1
  rw [ht] at hP1
  obtain ⟨hP, hD⟩ := cutJ hP hD hp hp' hk1 hFc hP1 hD1
  exact kk H1 locs hP hD hS
theorem smVv {S : Type} {wf : S → va_W} {rs : S} {q0 ci : Nat} {q : vw_C} {fs : List Value} (hM : Met l y wsc rm (mP D cy H.size (.ref b :: As) wc) (va_Qv (fun (u : S) => u = rs) (fun u t => mB D H.size wc (wf u) t) (va_A wc H.size)) 0 0 (va_A wc H.size)) (S : CallFix p m c cc nL s args Ts own) (cw : CallW R s args own q.1 index y bytes maxL ret wsc rm 0 0 n)
    (hG : gK D cy s) (hP : va_P D vwCl ws H) (hD : va_D A0 ws) (hS : va_S A0 H0 H locs) (hA : ∀ q, H0.size ≤ q → A0 q) (hp : ws.Perm (wc ++ Re)) (hp' : ws'.Perm (wf rs ++ Re))
    (he : wc[q0]? = some (b, .inr (ci, fs))) (hc : vwCl[ci]? = some q) (hn : As.length = n) (hsize : ls.size = nL) (hst : st0 = As.reverse ++ .ref b :: rest) (hW : (rest.map fun v => v.category).sum ≤ 8) (hdg : decode cc pc = .ok (.invokevirtual index, 3)) (hf : cells ≤ R.cells ∧ slots ≤ R.slots)
    (kk : ∀ (H1 : Heap) (locs1 : List Loc), va_P D vwCl ws' H1 → va_D A0 ws' → va_S A0 H0 H1 locs1 → W p l e R s m args below meth c H1 locs1 cells slots Q (F0 m (pc + 3) ls rest)) : W p l e R s m args below meth c H locs cells slots Q (F0 m pc ls st0) := by
  have hPc := cutP hP hp
  exact smRv (wf := wf) (rs := rs) (As := .ref b :: As) (fun hp => va_runV S hM cw ⟨hp.1, va_recv hG.1 hPc hc he, hp.2⟩ rfl hn hsize hst (lv_room hW) hdg hf) hG hP hD hS hA hp hp' kk
end MYS
theorem pm0 {α : Type} (ws : List α) : ws.Perm (([] : List α) ++ ws) := List.Perm.refl _
