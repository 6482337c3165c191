/-- what the wrapper of setProgram answers -/
def wrS (xs : List Nat) (S : SX11) (f : Nat → Int64) (x : Option (Nat ⊕ (Int32 × SX11))) (r : Int32) (u : SX11 × (Nat → Int64)) : Prop :=
  (∃ v T, x = some (Sum.inr (v, T)) ∧ (r, u) = (iI 0, (T, vp_updL f 0 v.toInt64))) ∨ ∃ (i n : Nat), x = some (Sum.inl n) ∧ xs[i]? = some n ∧ r = iI ((i : Int) + 1) ∧ (u.1 = S ∨ ∃ x3, DX8_faultAmong (gX11_text S) (gX10_count (gX0_works (gX11_now S))) = some x3 ∧ u.1 = uX11_text S x3.2) ∧ u.2 = f
section MYT
variable {p : Program} {l : Launch} {e : Env} {R : Room} {s : State} {m : MethodId} {args : Array Value} {below : List Frame} {meth : Method} {c : Code} {H : Heap} {locs : List Loc} {cells slots : Nat} {Q : State → Prop}
variable {rest st0 av : List Value} {pc : Nat} {ls : Array Slot} {D : va_G} {cy : Nat → ClassId} {tt : Nat → Nat} {A0 : Nat → Prop} {mc ms : Nat} {a : Nat → Nat} {o b : Nat} {f : Nat → Int64} {S : SX11}
/-- setProgram throws: the text has been read, or not -/
theorem tcTS {k : Nat} {Qa : State → Outcome → State → Prop} (hno : ∀ st v t, Qa st (.returned v) t → False) (hG : gK D cy s) (hX : gX tt A0 s s.heap) (hP : va_P D vwCl (oC cy b f :: wX11 cy a o S) H) (hD : va_D A0 (oC cy b f :: wX11 cy a o S)) (hS : va_S A0 s.heap H locs) (hA : ∀ q, s.heap.size ≤ q → A0 q)
    (run : FrameBlind (xP D cy tt H.size av (wX11 cy a o S)) → (∀ U : State, U.heap = H → s.WarmedH U.vm → xP D cy tt H.size av (wX11 cy a o S) av.toArray U) → vx_Run p l e R s m args below meth c H locs cells slots mc ms (F0 m pc ls st0) rest Qa (xS D H.size cy a o S (Sum.inl k)) (va_A (wX11 cy a o S) H.size))
    (kx : ∀ (ce : Cell) (q9 : Addr) (S5 : SX11) (H1 : Heap) (locs1 : List Loc), (S5 = S ∨ ∃ x3, DX8_faultAmong (gX11_text S) (gX10_count (gX0_works (gX11_now S))) = some x3 ∧ S5 = uX11_text S x3.2) → va_P D vwCl (oC cy b f :: wX11 cy a o S5) H1 → va_D A0 (oC cy b f :: wX11 cy a o S5) → va_S A0 s.heap H1 locs1 → H1[q9]? = some ce → ce.vm = .none → s.vm.findClass (exN k) = some ce.cls → vx_W p l e R s m args below meth c H1 locs1 (cells + mc) (slots + ms) Q (F0 m pc ls rest) q9) : W p l e R s m args below meth c H locs cells slots Q (F0 m pc ls st0) := by
  have hp := pmO cy a o b S f
  have hFc := cutF hD hp hS hA
  have hr := run xBl (xPre hG hX hP hD hS hA hp)
  intro T hT X
  rcases hr T hT X with ⟨v, st₀, t, T', L, h0, X', hL, e1, e2, hq, st⟩ | ⟨q, st₀, t, T', L, E, ce, h0, X', hL, e1, e2, ⟨u, ⟨hu, h5⟩, ⟨hE, hP1, hD1⟩, hF⟩, hce, hcv, hcl, st⟩
  · exact (hno _ _ _ hq).elim
  · have hu' : u.1 = k := Sum.inl.inj hu
    rw [hu'] at hE
    subst hE
    obtain ⟨k1, k2, k3⟩ := vx_keep h0 e1 hS (fun q _ h => hFc q h) hFc hL hF
    rw [← e1] at hP1 hce
    obtain ⟨hP2, hD2⟩ := cutJ hP hD hp (pmO cy a o b u.2 f) k2 hFc hP1 hD1
    obtain ⟨t2, a1, b1⟩ := kx ce q u.2 T'.heap (locs ++ L) h5 hP2 hD2 k3 hce hcv hcl T' rfl X'
    exact ⟨t2, st.trans a1, b1⟩
/-- .. or returns -/
theorem tcMS {x0 : Int32 × SX11} {c2 s2 : Nat} (hG : gK D cy s) (hX : gX tt A0 s s.heap) (hP : va_P D vwCl (oC cy b f :: wX11 cy a o S) H) (hD : va_D A0 (oC cy b f :: wX11 cy a o S)) (hS : va_S A0 s.heap H locs) (hA : ∀ q, s.heap.size ≤ q → A0 q) {ar : Array Value}
    (run : FrameBlind (xP D cy tt H.size av (wX11 cy a o S)) → (∀ U : State, U.heap = H → s.WarmedH U.vm → xP D cy tt H.size av (wX11 cy a o S) av.toArray U) → vx_Run p l e R s m args below meth c H locs cells slots mc ms (F0 m pc ls st0) rest (va_Qi (fun r (u : SX11) => Sum.inr (r, u) = (Sum.inr x0 : Nat ⊕ (Int32 × SX11))) (fun u t => mB D H.size (wX11 cy a o S) (wX11 cy a o u) t) (va_A (wX11 cy a o S) H.size) ar) (xS D H.size cy a o S (Sum.inr x0)) (va_A (wX11 cy a o S) H.size)) (hc2 : cells + mc = c2) (hs2 : slots + ms = s2)
    (kk : ∀ (H1 : Heap) (locs1 : List Loc), va_P D vwCl (oC cy b f :: wX11 cy a o x0.2) H1 → va_D A0 (oC cy b f :: wX11 cy a o x0.2) → va_S A0 s.heap H1 locs1 → W p l e R s m args below meth c H1 locs1 c2 s2 Q (F0 m (pc + 3) ls (.int x0.1 :: rest))) : W p l e R s m args below meth c H locs cells slots Q (F0 m pc ls st0) := by
  subst hc2
  subst hs2
  have hp := pmO cy a o b S f
  have hFc := cutF hD hp hS hA
  have hr := run xBl (xPre hG hX hP hD hS hA hp)
  intro T hT X
  rcases hr T hT X with ⟨v, st₀, t, T', L, h0, X', hL, e1, e2, ⟨⟨r, u, hv, hu, hP1, hD1⟩, hF⟩, st⟩ | ⟨q, st₀, t, T', L, E, ce, h0, X', hL, e1, e2, ⟨u, ⟨hu, -⟩, -, -⟩, -⟩
  · cases hv
    cases hu
    obtain ⟨k1, k2, k3⟩ := vx_keep h0 e1 hS (fun q _ h => hFc q h) hFc hL hF
    rw [← e1] at hP1
    obtain ⟨hP2, hD2⟩ := cutJ hP hD hp (pmO cy a o b u f) k2 hFc hP1 hD1
    obtain ⟨t2, a1, b1⟩ := kk T'.heap (locs ++ L) hP2 hD2 k3 T' rfl X'
    exact ⟨t2, st t2 a1, b1⟩
  · cases hu
end MYT
theorem qL_setProgram (l : Launch) (hl9 : l.stackTraces = false) (D : va_G) (cy : Nat → ClassId) (tt : Nat → Nat) (a : Nat → Nat) (o b : Nat) (S : SX11) (p1 : Int32) (p2 : Int32) (f : Nat → Int64) (sz : Nat) (h : (∃ v T, DX11_setProgram S p1 p2 = some (Sum.inr (v, T))) ∨ ∃ (i n : Nat), DX11_setProgram S p1 p2 = some (Sum.inl n) ∧ ([1, 2] : List Nat)[i]? = some n) : vx_Met l yL_setProgram wsL_setProgram ({ frames := 10, cells := 3, slots := 18, locals := 229 } : Room) (lP D cy tt sz [.ref (a o), .int p1, .int p2, .ref b] (oC cy b f :: wX11 cy a o S)) (va_Qi (fun r (u : SX11 × (Nat → Int64)) => wrS [1, 2] S f (DX11_setProgram S p1 p2) r u) (fun u t => mB D sz (oC cy b f :: wX11 cy a o S) (oC cy b u.2 :: wX11 cy a o u.1) t) (va_A (oC cy b f :: wX11 cy a o S) sz)) (fun _ _ _ => False) 3 18 (va_A (oC cy b f :: wX11 cy a o S) sz) := by
  refine vx_ofWH (cc := cL_setProgram) (maxL := 5) (ret := (some .int)) (by decide) rfl ?_
  intro p e s m args below meth c s₁ B hml hv
  obtain ⟨rfl, hsz, hP, hG, hD0, hX, hN⟩ := hv
  have hx := B.exec
  have hb := B.bytes
  have hr := B.returns
  have hts := atoms_spec (ws := wsL_setProgram) B.pre
  have hown : s.vm.findClass RL = some m.cls := findClass_of_methodNamed B.named
  have hlocks := B.notSynchronized
  have htab := vx_table (x := yL_setProgram) B (hts _ List.mem_cons_self)
  have hK := hG.1
  subst hsz
  have hD := hD0.self (sz := s.heap.size)
  have hA : ∀ q : Nat, s.heap.size ≤ q → (va_A (oC cy b f :: wX11 cy a o S) s.heap.size) q := fun q h => Or.inr h
  have hS : va_S (va_A (oC cy b f :: wX11 cy a o S) s.heap.size) s.heap s.heap [] := va_S.rf
  have hl := lv_entry ([.ref (a o), .int p1, .int p2, .ref b]) (n := 5) (Nat.le_of_ble_eq_true rfl)
  rw [lg_entry_eq]
  generalize (lg_sl ([.ref (a o), .int p1, .int p2, .ref b]) ++ List.replicate (5 - (lg_sl ([.ref (a o), .int p1, .int p2, .ref b])).length) Slot.unset).toArray = ls at hl ⊢
  have hl : lv_has ls 5 [(0, .ref (a o)), (1, .int p1), (2, .int p2), (3, .ref b)] := hl
  refine lv_aload_n hx hb dL_setProgram_0 rfl (lv_at hl 3 rfl) ?_
  refine lv_iconst (v := (0 : Int32)) hx hb dL_setProgram_1 (by decide) ?_
  refine lv_aload_n hx hb dL_setProgram_2 rfl (lv_at hl 0 rfl) ?_
  refine lv_iload_n hx hb dL_setProgram_3 rfl (lv_at hl 1 rfl) ?_
  refine lv_iload_n hx hb dL_setProgram_4 rfl (lv_at hl 2 rfl) ?_
  rcases h with ⟨v, T, e1⟩ | ⟨i, n, e1, e2⟩
  · refine tcMS (x0 := (v, T)) (cy := cy) (a := a) (o := o) (b := b) (f := f) (S := S) hG hX hP hD hS hA (fun h1 h2 => vx_runV (As := [.int p1, .int p2]) (rest := [.int 0, .ref b]) ⟨hx, hb, hml, hown, hts⟩ (qX11_setProgram l hl9 D cy tt a o S p1 p2 (s.heap).size (Sum.inr (v, T)) e1) (cwV 2 hts gL_setProgram_X11_setProgram rfl rfl rfl (by decide +kernel) ⟨Nat.le_of_ble_eq_true rfl, Nat.le_of_ble_eq_true rfl⟩) ⟨h1, va_recv hK hP (ci := 11) (q0 := 1) rfl rfl, h2⟩ rfl rfl hl.1 rfl (lv_room (Nat.le_of_ble_eq_true rfl)) dL_setProgram_5 ⟨Nat.le_of_ble_eq_true rfl, Nat.le_of_ble_eq_true rfl⟩) (c2 := 3) (s2 := 18) rfl rfl (fun H locs hP hD hS => ?_)
    refine lv_i2l hx hb dL_setProgram_8 rfl ?_
    refine va_last (q0 := 0) (t0 := 3) hx hb hK hP hD hS rfl rfl (show vp_in (0 : Int32) 1 by unfold vp_in; decide) dL_setProgram_9 (fun H locs hP hD hS => ?_)
    refine lv_goto (tgt := 21) hx hb dL_setProgram_10 (by decide) ?_
    refine lv_iconst (v := (0 : Int32)) hx hb dL_setProgram_21 (by decide) ?_
    refine vx_ret (W.widen (k := 3) (n := 18) (by decide) (by decide) ?_)
    exact W.iret (v := (0 : Int32)) hx hb hr (fun t ht hW => ⟨⟨(0 : Int32), (T, vp_updL f 0 v.toInt64), rfl, Or.inl ⟨v, T, e1, rfl⟩, by rw [ht]; exact hP, hD⟩, hS.F ht⟩) hS.2.2 dL_setProgram_22
  · refine tcTS (cy := cy) (a := a) (o := o) (b := b) (f := f) (S := S) (fun st v t q => by obtain ⟨⟨r, u, -, hu, -⟩, -⟩ := q; cases hu) hG hX hP hD hS hA (fun h1 h2 => vx_runV (As := [.int p1, .int p2]) (rest := [.int 0, .ref b]) ⟨hx, hb, hml, hown, hts⟩ (qX11_setProgram l hl9 D cy tt a o S p1 p2 (s.heap).size (Sum.inl n) e1) (cwV 2 hts gL_setProgram_X11_setProgram rfl rfl rfl (by decide +kernel) ⟨Nat.le_of_ble_eq_true rfl, Nat.le_of_ble_eq_true rfl⟩) ⟨h1, va_recv hK hP (ci := 11) (q0 := 1) rfl rfl, h2⟩ rfl rfl hl.1 rfl (lv_room (Nat.le_of_ble_eq_true rfl)) dL_setProgram_5 ⟨Nat.le_of_ble_eq_true rfl, Nat.le_of_ble_eq_true rfl⟩) (fun ce q9 S5 H locs h5 hP hD hS hce hcv hcl => ?_)
    match i, e2 with
    | 0, e2 =>
      cases Option.some.inj e2
      refine vx_catch hown [] ⟨0, 10, 13, 21⟩ [⟨0, 10, 17, 13⟩] (htab.trans rfl) (fun z hz => nomatch hz) rfl (by decide) (hts (.classLink RL 21 "java/lang/IndexOutOfBoundsException") (by decide +kernel)) (cast_w hG).2.2 hce hcv hcl ?_
      refine lv_astore (lv' := [(4, .ref q9), (0, .ref (a o)), (1, .int p1), (2, .int p2), (3, .ref b)]) hx hb dL_setProgram_13 hl (by decide) rfl (fun ls hl => ?_)
      refine lv_iconst (v := (1 : Int32)) hx hb dL_setProgram_15 (by decide) ?_
      refine vx_ret (W.widen (k := 3) (n := 18) (by decide) (by decide) ?_)
      exact W.iret (v := (1 : Int32)) hx hb hr (fun t ht hW => ⟨⟨(1 : Int32), (S5, f), rfl, Or.inr ⟨0, 1, e1, rfl, rfl, h5, rfl⟩, by rw [ht]; exact hP, hD⟩, hS.F ht⟩) hS.2.2 dL_setProgram_16
    | 1, e2 =>
      cases Option.some.inj e2
      refine vx_catch hown [⟨0, 10, 13, 21⟩] ⟨0, 10, 17, 13⟩ [] (htab.trans rfl) (fun z hz => by cases List.mem_singleton.mp hz; exact Or.inr ⟨by decide, "java/lang/IndexOutOfBoundsException", hts (.classLink RL 21 "java/lang/IndexOutOfBoundsException") (by decide +kernel), hN.1⟩) rfl (by decide) (hts (.classLink RL 13 "java/lang/IllegalArgumentException") (by decide +kernel)) (cast_w hG).1 hce hcv hcl ?_
      refine lv_astore (lv' := [(4, .ref q9), (0, .ref (a o)), (1, .int p1), (2, .int p2), (3, .ref b)]) hx hb dL_setProgram_17 hl (by decide) rfl (fun ls hl => ?_)
      refine lv_iconst (v := (2 : Int32)) hx hb dL_setProgram_19 (by decide) ?_
      refine vx_ret (W.widen (k := 3) (n := 18) (by decide) (by decide) ?_)
      exact W.iret (v := (2 : Int32)) hx hb hr (fun t ht hW => ⟨⟨(2 : Int32), (S5, f), rfl, Or.inr ⟨1, 2, e1, rfl, rfl, h5, rfl⟩, by rw [ht]; exact hP, hD⟩, hS.F ht⟩) hS.2.2 dL_setProgram_20
    | i + 2, e2 => cases e2
