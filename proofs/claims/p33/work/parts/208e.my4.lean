/-! rows of this claim's own, 4: methods that may throw -/
/-- a static int array of PianoRounds -/
def gT (n : String) (t N : Nat) (f : Nat → Int32) (A : Nat → Prop) (U : State) (H : Heap) : Prop := va_Z "PianoRounds" n "[I" (.ref t) A U H ∧ va_T .int t N (fun j => .int (f j)) A U H
/-- what methods that throw, or read static arrays, ask of the launch -/
def gX (tt : Nat → Nat) (A : Nat → Prop) (U : State) (H : Heap) : Prop := vx_Zq Bundle.tN "UNASSIGNED_STACK" Bundle.steD A U H ∧ vx_Zq Bundle.tN "SUPPRESSED_SENTINEL" Bundle.listD A U H ∧ gT "SETTING_LOWEST" (tt 0) 3 tab0 A U H ∧ gT "SETTING_HIGHEST" (tt 1) 3 tab1 A U H ∧ gT "RULE_LOWEST" (tt 2) 6 tab2 A U H ∧ gT "RULE_HIGHEST" (tt 3) 6 tab3 A U H ∧ gT "RULE_AT_FIRST" (tt 4) 6 tab4 A U H
theorem gT.moved {n : String} {t N : Nat} {f : Nat → Int32} {A : Nat → Prop} {u U : State} {H : Heap} (hvm : u.vm.Alike U.vm) (h : gT n t N f A u H) : gT n t N f A U H := ⟨va_Z.moved hvm h.1, va_T.moved hvm h.2⟩
theorem gT.kept {n : String} {t N : Nat} {f : Nat → Int32} {A : Nat → Prop} {U : State} {H H1 : Heap} (h : gT n t N f A U H) (hq : ∀ a : Nat, a < H.size → ¬ A a → H1[a]? = H[a]?) : gT n t N f A U H1 := ⟨va_Z.kept h.1 hq, va_T.kept h.2 hq⟩
theorem gT.narrow {n : String} {t N : Nat} {f : Nat → Int32} {A B : Nat → Prop} {U : State} {H : Heap} (h : gT n t N f A U H) (hAB : ∀ q, B q → A q) : gT n t N f B U H := ⟨va_Z.narrow h.1 hAB, va_T.narrow h.2 hAB⟩
theorem gX.moved {tt : Nat → Nat} {A : Nat → Prop} {u U : State} {H : Heap} (hvm : u.vm.Alike U.vm) (h : gX tt A u H) : gX tt A U H := ⟨h.1.moved hvm, h.2.1.moved hvm, h.2.2.1.moved hvm, h.2.2.2.1.moved hvm, h.2.2.2.2.1.moved hvm, h.2.2.2.2.2.1.moved hvm, h.2.2.2.2.2.2.moved hvm⟩
theorem gX.kept {tt : Nat → Nat} {A : Nat → Prop} {U : State} {H H1 : Heap} (h : gX tt A U H) (hq : ∀ a : Nat, a < H.size → ¬ A a → H1[a]? = H[a]?) : gX tt A U H1 := ⟨h.1.kept hq, h.2.1.kept hq, h.2.2.1.kept hq, h.2.2.2.1.kept hq, h.2.2.2.2.1.kept hq, h.2.2.2.2.2.1.kept hq, h.2.2.2.2.2.2.kept hq⟩
theorem gX.narrow {tt : Nat → Nat} {A B : Nat → Prop} {U : State} {H : Heap} (h : gX tt A U H) (hAB : ∀ q, B q → A q) : gX tt B U H := ⟨h.1.narrow hAB, h.2.1.narrow hAB, h.2.2.1.narrow hAB, h.2.2.2.1.narrow hAB, h.2.2.2.2.1.narrow hAB, h.2.2.2.2.2.1.narrow hAB, h.2.2.2.2.2.2.narrow hAB⟩
/-- what a method that may throw starts from -/
abbrev xP (D : va_G) (cy : Nat → ClassId) (tt : Nat → Nat) (sz : Nat) (av : List Value) (w0 : va_W) : Array Value → State → Prop := va_Pc av (fun U => U.heap.size = sz ∧ va_P D vwCl w0 U.heap ∧ gK D cy U ∧ va_D (fun _ => True) w0 ∧ gX tt (va_A w0 sz) U U.heap)
/-- .. and what holds where it has thrown -/
abbrev xC {R0 : Type} (D : va_G) (sz : Nat) (w0 : va_W) (rs : Nat ⊕ R0) : String → State → State → Prop := vx_X (fun (k : Nat) => Sum.inl k = rs) (fun E k t => E = exN k ∧ mB D sz w0 w0 t) (va_A w0 sz)
section MYX
variable {p : Program} {l : Launch} {e : Env} {R : Room} {s : State} {m : MethodId} {args : Array Value} {below : List Frame} {meth : Method} {c : Code} {H : Heap} {locs : List Loc} {cells slots : Nat} {Q : State → Prop}
variable {rest st0 av : List Value} {pc : Nat} {ls : Array Slot} {D : va_G} {cl : List vw_C} {cy : Nat → ClassId} {tt : Nat → Nat} {wc ws ws' Re : va_W} {A0 : Nat → Prop} {mc ms c2 s2 : Nat}
theorem xPre (hG : gK D cy s) (hX : gX tt A0 s s.heap) (hP : va_P D vwCl ws H) (hD : va_D A0 ws) (hS : va_S A0 s.heap H locs) (hA : ∀ q, s.heap.size ≤ q → A0 q) (hp : ws.Perm (wc ++ Re)) : ∀ U : State, U.heap = H → s.WarmedH U.vm → xP D cy tt H.size av wc av.toArray U := by
  intro U hU hW
  have hDc := cutD hD hp
  have hPc := cutP hP hp
  have hFc := cutF hD hp hS hA
  refine ⟨rfl, by rw [hU], by rw [hU]; exact hPc, hG.warm hW, hDc.weaken (fun _ _ _ _ => trivial), ?_⟩
  rw [hU]
  exact ((hX.kept hS.2.1).moved hW.alike).narrow hFc
theorem xBl {sz : Nat} {w0 : va_W} : FrameBlind (xP D cy tt sz av w0) := bl1 fun U g mk a q => ⟨q.1, q.2.1, q.2.2.1.call, q.2.2.2.1, q.2.2.2.2.moved (u := U) (U := U.calling g mk a) (Vm.Alike.refl U.vm)⟩
/-- the callee throws, and so does this method -/
theorem tcT {R0 : Type} {k : Nat} {Qa : State → Outcome → State → Prop} (hno : ∀ st v t, Qa st (.returned v) t → False) (hG : gK D cy s) (hX : gX tt A0 s s.heap) (hP : va_P D vwCl ws H) (hD : va_D A0 ws) (hS : va_S A0 s.heap H locs) (hA : ∀ q, s.heap.size ≤ q → A0 q) (hp : ws.Perm (wc ++ Re))
    (run : FrameBlind (xP D cy tt H.size av wc) → (∀ U : State, U.heap = H → s.WarmedH U.vm → xP D cy tt H.size av wc av.toArray U) → vx_Run p l e R s m args below meth c H locs cells slots mc ms (F0 m pc ls st0) rest Qa (xC (R0 := R0) D H.size wc (Sum.inl k)) (va_A wc H.size))
    (kx : ∀ (ce : Cell) (q9 : Addr) (H1 : Heap) (locs1 : List Loc), va_P D vwCl ws H1 → va_S A0 s.heap H1 locs1 → H1[q9]? = some ce → ce.vm = .none → s.vm.findClass (exN k) = some ce.cls → vx_W p l e R s m args below meth c H1 locs1 (cells + mc) (slots + ms) Q (F0 m pc ls rest) q9) : W p l e R s m args below meth c H locs cells slots Q (F0 m pc ls st0) := by
  have hFc := cutF hD hp hS hA
  have hr := run xBl (xPre hG hX hP hD hS hA hp)
  intro T hT X
  rcases hr T hT X with ⟨v, st₀, t, T', L, h0, X', hL, e1, e2, hq, st⟩ | ⟨q, st₀, t, T', L, E, ce, h0, X', hL, e1, e2, ⟨u, hu, ⟨hE, hP1, hD1⟩, hF⟩, hce, hcv, hcl, st⟩
  · exact (hno _ _ _ hq).elim
  · cases hu
    subst hE
    obtain ⟨k1, k2, k3⟩ := vx_keep h0 e1 hS (fun q _ h => hFc q h) hFc hL hF
    rw [← e1] at hP1 hce
    obtain ⟨t2, a1, b1⟩ := kx ce q T'.heap (locs ++ L) (keepW hP hD hp k2 hFc hP1) k3 hce hcv hcl T' rfl X'
    exact ⟨t2, st.trans a1, b1⟩
/-- the callee returns; it has written nothing -/
theorem tcNv (hG : gK D cy s) (hX : gX tt A0 s s.heap) (hP : va_P D vwCl ws H) (hD : va_D A0 ws) (hS : va_S A0 s.heap H locs) (hA : ∀ q, s.heap.size ≤ q → A0 q) (hp : ws.Perm (wc ++ Re)) {a : Array Value} {u0 : Unit}
    (run : FrameBlind (xP D cy tt H.size av wc) → (∀ U : State, U.heap = H → s.WarmedH U.vm → xP D cy tt H.size av wc av.toArray U) → vx_Run p l e R s m args below meth c H locs cells slots mc ms (F0 m pc ls st0) rest (va_Qv (fun (u : Unit) => Sum.inr u = (Sum.inr u0 : Nat ⊕ Unit)) (fun _ t => mB D H.size wc wc t) (va_A wc H.size) a) (xC D H.size wc (Sum.inr u0 : Nat ⊕ Unit)) (va_A wc H.size)) (hc2 : cells + mc = c2) (hs2 : slots + ms = s2)
    (kk : ∀ (H1 : Heap) (locs1 : List Loc), va_P D vwCl ws H1 → va_S A0 s.heap H1 locs1 → W p l e R s m args below meth c H1 locs1 c2 s2 Q (F0 m (pc + 3) ls rest)) : W p l e R s m args below meth c H locs cells slots Q (F0 m pc ls st0) := by
  subst hc2
  subst hs2
  have hFc := cutF hD hp hS hA
  have hr := run xBl (xPre hG hX hP hD hS hA hp)
  intro T hT X
  rcases hr T hT X with ⟨v, st₀, t, T', L, h0, X', hL, e1, e2, ⟨⟨u, hv, hu, hP1, hD1⟩, hF⟩, st⟩ | ⟨q, st₀, t, T', L, E, ce, h0, X', hL, e1, e2, ⟨u, hu, -, -⟩, -⟩
  · cases hv
    obtain ⟨k1, k2, k3⟩ := vx_keep h0 e1 hS (fun q _ h => hFc q h) hFc hL hF
    rw [← e1] at hP1
    obtain ⟨t2, a1, b1⟩ := kk T'.heap (locs ++ L) (keepW hP hD hp k2 hFc hP1) k3 T' rfl X'
    exact ⟨t2, st t2 a1, b1⟩
  · cases hu
theorem tcNi (hG : gK D cy s) (hX : gX tt A0 s s.heap) (hP : va_P D vwCl ws H) (hD : va_D A0 ws) (hS : va_S A0 s.heap H locs) (hA : ∀ q, s.heap.size ≤ q → A0 q) (hp : ws.Perm (wc ++ Re)) {a : Array Value} {x0 : Int32}
    (run : FrameBlind (xP D cy tt H.size av wc) → (∀ U : State, U.heap = H → s.WarmedH U.vm → xP D cy tt H.size av wc av.toArray U) → vx_Run p l e R s m args below meth c H locs cells slots mc ms (F0 m pc ls st0) rest (va_Qi (fun r (_ : Unit) => Sum.inr r = (Sum.inr x0 : Nat ⊕ Int32)) (fun _ t => mB D H.size wc wc t) (va_A wc H.size) a) (xC D H.size wc (Sum.inr x0 : Nat ⊕ Int32)) (va_A wc H.size)) (hc2 : cells + mc = c2) (hs2 : slots + ms = s2)
    (kk : ∀ (H1 : Heap) (locs1 : List Loc), va_P D vwCl ws H1 → va_S A0 s.heap H1 locs1 → W p l e R s m args below meth c H1 locs1 c2 s2 Q (F0 m (pc + 3) ls (.int x0 :: rest))) : W p l e R s m args below meth c H locs cells slots Q (F0 m pc ls st0) := by
  subst hc2
  subst hs2
  have hFc := cutF hD hp hS hA
  have hr := run xBl (xPre hG hX hP hD hS hA hp)
  intro T hT X
  rcases hr T hT X with ⟨v, st₀, t, T', L, h0, X', hL, e1, e2, ⟨⟨r, u, hv, hu, hP1, hD1⟩, hF⟩, st⟩ | ⟨q, st₀, t, T', L, E, ce, h0, X', hL, e1, e2, ⟨u, hu, -, -⟩, -⟩
  · cases hv
    cases hu
    obtain ⟨k1, k2, k3⟩ := vx_keep h0 e1 hS (fun q _ h => hFc q h) hFc hL hF
    rw [← e1] at hP1
    obtain ⟨t2, a1, b1⟩ := kk T'.heap (locs ++ L) (keepW hP hD hp k2 hFc hP1) k3 T' rfl X'
    exact ⟨t2, st t2 a1, b1⟩
  · cases hu
/-- the callee returns, an int, and has written the cells that it was handed -/
theorem tcNm {S : Type} {wf : S → va_W} {x0 : Int32 × S} (hG : gK D cy s) (hX : gX tt A0 s s.heap) (hP : va_P D vwCl ws H) (hD : va_D A0 ws) (hS : va_S A0 s.heap H locs) (hA : ∀ q, s.heap.size ≤ q → A0 q) (hp : ws.Perm (wc ++ Re)) (hp' : ws'.Perm (wf x0.2 ++ Re)) {a : Array Value}
    (run : FrameBlind (xP D cy tt H.size av wc) → (∀ U : State, U.heap = H → s.WarmedH U.vm → xP D cy tt H.size av wc av.toArray U) → vx_Run p l e R s m args below meth c H locs cells slots mc ms (F0 m pc ls st0) rest (va_Qi (fun r (u : S) => Sum.inr (r, u) = (Sum.inr x0 : Nat ⊕ (Int32 × S))) (fun u t => mB D H.size wc (wf u) t) (va_A wc H.size) a) (xC D H.size wc (Sum.inr x0 : Nat ⊕ (Int32 × S))) (va_A wc H.size)) (hc2 : cells + mc = c2) (hs2 : slots + ms = s2)
    (kk : ∀ (H1 : Heap) (locs1 : List Loc), va_P D vwCl ws' H1 → va_D A0 ws' → va_S A0 s.heap H1 locs1 → W p l e R s m args below meth c H1 locs1 c2 s2 Q (F0 m (pc + 3) ls (.int x0.1 :: rest))) : W p l e R s m args below meth c H locs cells slots Q (F0 m pc ls st0) := by
  subst hc2
  subst hs2
  have hFc := cutF hD hp hS hA
  have hr := run xBl (xPre hG hX hP hD hS hA hp)
  intro T hT X
  rcases hr T hT X with ⟨v, st₀, t, T', L, h0, X', hL, e1, e2, ⟨⟨r, u, hv, hu, hP1, hD1⟩, hF⟩, st⟩ | ⟨q, st₀, t, T', L, E, ce, h0, X', hL, e1, e2, ⟨u, hu, -, -⟩, -⟩
  · cases hv
    cases hu
    obtain ⟨k1, k2, k3⟩ := vx_keep h0 e1 hS (fun q _ h => hFc q h) hFc hL hF
    rw [← e1] at hP1
    obtain ⟨hP2, hD2⟩ := cutJ hP hD hp hp' k2 hFc hP1 hD1
    obtain ⟨t2, a1, b1⟩ := kk T'.heap (locs ++ L) hP2 hD2 k3 T' rfl X'
    exact ⟨t2, st t2 a1, b1⟩
  · cases hu
end MYX
