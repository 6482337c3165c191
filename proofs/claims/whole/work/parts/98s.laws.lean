/-! the law's loop: what holds at its head, and rows that each of its cases uses -/
theorem i32 (x : Int32) : ∃ w : Int, x = iI w ∧ -2147483648 ≤ w ∧ w < 2147483648 := ⟨x.toInt, (iI_of x).symm, by have := Int32.le_toInt x; omega, by have := Int32.toInt_lt x; omega⟩
/-- what the loop's rows stand on: the machine, the words, the script, the launch -/
def lX (p : Program) (l : Launch) (s : State) (m : MethodId) (c : Code) (b L : Nat) (xs : Nat → Int32) (D : va_G) (cy : Nat → ClassId) (tt : Nat → Nat) : Prop :=
  p.tables.exec = Jvm.exec ∧ c.code = cL_law ∧ c.maxLocals = 7 ∧ s.vm.findClass RL = some m.cls ∧ (∀ w ∈ wsL_law, w.before #[Value.ref b] s = true) ∧ va_X b L xs s s.heap ∧ b < s.heap.size ∧ l.stackTraces = false ∧ gK D cy s ∧ gX tt (fun q => s.heap.size ≤ q) s s.heap ∧ gN s
def lC (cells slots : Nat) : Prop := cells + 5 ≤ 601024 ∧ slots + 30 ≤ 7293034
/-- the turn's end: what the loop goes on from -/
def lK (p : Program) (l : Launch) (e : Env) (s : State) (m : MethodId) (below : List Frame) (meth : Method) (c : Code) (D : va_G) (cy : Nat → ClassId) (b : Nat) (a : Nat → Nat) (o : Nat) (a' : Nat → Nat) (o' bo : Nat) (i : Int32) (cells slots : Nat) (Q : State → Prop) : Prop :=
  ∀ (T : SX11) (S : SX12) (f : Nat → Int64) (H : Heap) (locs : List Loc) (ls : Array Slot), GG T S → va_P D vwCl (oC cy bo f :: (wX11 cy a o T ++ wX12 cy a' o' S)) H → va_D (fun q => s.heap.size ≤ q) (oC cy bo f :: (wX11 cy a o T ++ wX12 cy a' o' S)) → va_S (fun q => s.heap.size ≤ q) s.heap H locs → lv_has ls 7 [(4, .int i), (0, .ref b), (1, .ref (a o)), (2, .ref (a' o')), (3, .ref bo)] → W p l e room_1 s m #[Value.ref b] below meth c H locs (cells + 5) (slots + 30) Q (F0 m 1929 ls [])
theorem pmT (cy : Nat → ClassId) (a : Nat → Nat) (o b : Nat) (T : SX11) (g : Nat → Int64) (W2 : va_W) : (oC cy b g :: (wX11 cy a o T ++ W2)).Perm (W2 ++ (oC cy b g :: wX11 cy a o T)) := List.perm_append_comm (l₁ := oC cy b g :: wX11 cy a o T) (l₂ := W2)
theorem pmU (cy : Nat → ClassId) (a : Nat → Nat) (o b : Nat) (T : SX11) (g : Nat → Int64) (W2 : va_W) : (oC cy b g :: (wX11 cy a o T ++ W2)).Perm (wX11 cy a o T ++ ([oC cy b g] ++ W2)) := by
  have h := (pmO cy a o b T g).append (List.Perm.refl W2)
  rw [List.append_assoc] at h
  exact h
theorem pmV (cy : Nat → ClassId) (a : Nat → Nat) (o b : Nat) (T : SX11) (g : Nat → Int64) (W2 : va_W) : (oC cy b g :: (wX11 cy a o T ++ W2)).Perm (wX11n cy a o (gX11_now T) ++ (((wX5 cy a (o + 54) (gX11_records T) ++ wX8 cy a (o + 268) (gX11_text T)) ++ [oC cy b g]) ++ W2)) := by
  have h := (pmR cy a o b T g).append (List.Perm.refl W2)
  rw [List.append_assoc] at h
  exact h
theorem lBl {D : va_G} {cy : Nat → ClassId} {tt : Nat → Nat} {sz : Nat} {av : List Value} {w0 : va_W} : FrameBlind (lP D cy tt sz av w0) := bl1 fun U g mk a q => ⟨q.1, q.2.1, q.2.2.1.call, q.2.2.2.1, q.2.2.2.2.1.moved (u := U) (U := U.calling g mk a) (Vm.Alike.refl U.vm), q.2.2.2.2.2.moved (u := U) (U := U.calling g mk a) (Vm.Alike.refl U.vm)⟩
section LW
variable {p : Program} {l : Launch} {e : Env} {R : Room} {s : State} {m : MethodId} {args : Array Value} {below : List Frame} {meth : Method} {c : Code} {H : Heap} {locs : List Loc} {cells slots : Nat} {Q : State → Prop}
variable {rest st0 av As : List Value} {pc : Nat} {ls : Array Slot} {D : va_G} {cy : Nat → ClassId} {tt : Nat → Nat} {A0 : Nat → Prop} {mc ms c2 s2 : Nat} {a : Nat → Nat} {o b : Nat} {f : Nat → Int64} {S : SX11} {W2 : va_W}
/-- a wrapper called: it returns, and has written what it was handed -/
theorem lcW {Qw : Int32 → SX11 × (Nat → Int64) → Prop} {ar : Array Value} (hG : gK D cy s) (hX : gX tt A0 s s.heap) (hN : gN s) (hP : va_P D vwCl (oC cy b f :: (wX11 cy a o S ++ W2)) H) (hD : va_D A0 (oC cy b f :: (wX11 cy a o S ++ W2))) (hS : va_S A0 s.heap H locs) (hA : ∀ q, s.heap.size ≤ q → A0 q)
    (run : FrameBlind (lP D cy tt H.size av (oC cy b f :: wX11 cy a o S)) → (∀ U : State, U.heap = H → s.WarmedH U.vm → lP D cy tt H.size av (oC cy b f :: wX11 cy a o S) av.toArray U) → vx_Run p l e R s m args below meth c H locs cells slots mc ms (F0 m pc ls st0) rest (va_Qi Qw (fun u t => mB D H.size (oC cy b f :: wX11 cy a o S) (oC cy b u.2 :: wX11 cy a o u.1) t) (va_A (oC cy b f :: wX11 cy a o S) H.size) ar) (fun _ _ _ => False) (va_A (oC cy b f :: wX11 cy a o S) H.size)) (hc2 : cells + mc ≤ c2) (hs2 : slots + ms ≤ s2)
    (kk : ∀ (r : Int32) (u : SX11 × (Nat → Int64)) (H1 : Heap) (locs1 : List Loc), Qw r u → va_P D vwCl (oC cy b u.2 :: (wX11 cy a o u.1 ++ W2)) H1 → va_D A0 (oC cy b u.2 :: (wX11 cy a o u.1 ++ W2)) → va_S A0 s.heap H1 locs1 → W p l e R s m args below meth c H1 locs1 c2 s2 Q (F0 m (pc + 3) ls (.int r :: rest))) : W p l e R s m args below meth c H locs cells slots Q (F0 m pc ls st0) := by
  have hp : (oC cy b f :: (wX11 cy a o S ++ W2)).Perm ((oC cy b f :: wX11 cy a o S) ++ W2) := List.Perm.refl _
  have hFc := cutF hD hp hS hA
  have hr := run lBl (fun U hU hW => by
    obtain ⟨h1, h2, h3, h4, h5, h6⟩ := xPre (av := av) hG hX hP hD hS hA hp U hU hW
    exact ⟨h1, h2, h3, h4, h5, h6, hN.moved hW.alike⟩)
  intro T hT X
  rcases hr T hT X with ⟨v, st₀, t, T', L, h0, X', hL, e1, e2, ⟨⟨r, u, hv, hu, hP1, hD1⟩, hF⟩, st⟩ | ⟨q, st₀, t, T', L, E, ce, h0, X', hL, e1, e2, hF, -⟩
  · cases hv
    obtain ⟨k1, k2, k3⟩ := vx_keep h0 e1 hS (fun q _ h => hFc q h) hFc hL hF
    rw [← e1] at hP1
    have hp2 : (oC cy b u.2 :: (wX11 cy a o u.1 ++ W2)).Perm ((oC cy b u.2 :: wX11 cy a o u.1) ++ W2) := List.Perm.refl _
    obtain ⟨hP2, hD2⟩ := cutJ hP hD hp hp2 k2 hFc hP1 hD1
    have K := kk r u T'.heap (locs ++ L) hu hP2 hD2 k3
    obtain ⟨t2, a1, b1⟩ := W.widen hc2 hs2 K T' rfl X'
    exact ⟨t2, st t2 a1, b1⟩
  · exact hF.elim
end LW
section LV
variable {p : Program} {l : Launch} {e : Env} {R : Room} {s : State} {m : MethodId} {args : Array Value} {below : List Frame} {meth : Method} {c : Code} {H H0 : Heap} {locs : List Loc} {cells slots : Nat} {Q : State → Prop}
variable {y : MethodName} {bytes cc : ByteArray} {maxL nL n index : Nat} {ret : Option FieldType} {wsc : List Cond} {rm : Room} {Ts : List Cond} {own : String} {b : Nat} {As rest st0 : List Value} {pc : Nat} {ls : Array Slot} {D : va_G} {cy : Nat → ClassId} {wc ws ws' Re : va_W} {A0 : Nat → Prop}
theorem smVl {S : Type} {wf : S → va_W} {rs : Int64 × S} {q0 ci : Nat} {q : vw_C} {fs : List Value} (hM : Met l y wsc rm (mP D cy H.size (.ref b :: As) wc) (va_Ql (fun r (u : S) => (r, u) = rs) (fun u t => mB D H.size wc (wf u) t) (va_A wc H.size)) 0 0 (va_A wc H.size)) (S : CallFix p m c cc nL s args Ts own) (cw : CallW R s args own q.1 index y bytes maxL ret wsc rm 0 0 n)
    (hG : gK D cy s) (hP : va_P D vwCl ws H) (hD : va_D A0 ws) (hS : va_S A0 H0 H locs) (hA : ∀ q, H0.size ≤ q → A0 q) (hp : ws.Perm (wc ++ Re)) (hp' : ws'.Perm (wf rs.2 ++ Re))
    (he : wc[q0]? = some (b, .inr (ci, fs))) (hc : vwCl[ci]? = some q) (hn : As.length = n) (hsize : ls.size = nL) (hst : st0 = As.reverse ++ .ref b :: rest) (hW : (rest.map fun v => v.category).sum ≤ 8) (hdg : decode cc pc = .ok (.invokevirtual index, 3)) (hf : cells ≤ R.cells ∧ slots ≤ R.slots)
    (kk : ∀ (H1 : Heap) (locs1 : List Loc), va_P D vwCl ws' H1 → va_D A0 ws' → va_S A0 H0 H1 locs1 → W p l e R s m args below meth c H1 locs1 cells slots Q (F0 m (pc + 3) ls (.long rs.1 :: rest))) : W p l e R s m args below meth c H locs cells slots Q (F0 m pc ls st0) := by
  have hDc := cutD hD hp
  have hPc := cutP hP hp
  have hFc := cutF hD hp hS hA
  refine va_calll (va_runV S hM cw ⟨bl1 fun U g mk a q => ⟨q.1, q.2.1, q.2.2.1.call, q.2.2.2⟩, va_recv hG.1 hPc hc he, fun U hU hW => ⟨rfl, by rw [hU], by rw [hU]; exact hPc, hG.warm hW, hDc.weaken (fun _ _ _ _ => trivial)⟩⟩ rfl hn hsize hst (lv_room hW) hdg hf) hS (fun q _ h => hFc q h) hFc (fun r u t H1 locs ht hvm hw hB hz1 hk1 hS => ?_)
  subst hw
  obtain ⟨hP1, hD1⟩ := hB
  rw [ht] at hP1
  obtain ⟨hP, hD⟩ := cutJ hP hD hp hp' hk1 hFc hP1 hD1
  exact kk H1 locs hP hD hS
end LV
section LR
variable {p : Program} {l : Launch} {e : Env} {s : State} {m : MethodId} {below : List Frame} {meth : Method} {c : Code} {H : Heap} {locs : List Loc} {cells slots : Nat} {Q : State → Prop}
variable {D : va_G} {cy : Nat → ClassId} {tt : Nat → Nat} {b L : Nat} {xs : Nat → Int32} {a a' : Nat → Nat} {o o' bo pc : Nat} {ls : Array Slot} {rest : List Value} {i r v : Int32} {S : SX11} {T : SX12} {f g : Nat → Int64}
/-- a cell of the script read -/
theorem lRd {k : Int32} {kz : Int} (C : lX p l s m c b L xs D cy tt) (hS : va_S (fun q => s.heap.size ≤ q) s.heap H locs) (h0 : ls[0]? = some (.val (.ref b))) (h4 : ls[4]? = some (.val (.int i))) (hk : Int32.ofInt kz = k) (hin : vp_in (i + k) L)
    (d0 : decode cL_law pc = .ok (.aload_n 0, 1)) (d1 : decode cL_law (pc + 1) = .ok (.iload 4, 2)) (d2 : decode cL_law (pc + 3) = .ok (.iconst kz, 1)) (d3 : decode cL_law (pc + 4) = .ok (.iadd, 1)) (d4 : decode cL_law (pc + 5) = .ok (.iaload, 1))
    (kk : W p l e room_1 s m #[Value.ref b] below meth c H locs cells slots Q (F0 m (pc + 6) ls (.int (xs (i + k).toNatClampNeg) :: rest))) : W p l e room_1 s m #[Value.ref b] below meth c H locs cells slots Q (F0 m pc ls rest) := by
  obtain ⟨hx, hb, hml, hown, hts, hX, hbl, hl9, hG, hGX, hN⟩ := C
  refine lv_aload_n hx hb d0 rfl h0 ?_
  refine lv_iload hx hb d1 h4 ?_
  refine lv_iconst (v := k) hx hb d2 hk ?_
  refine lv_iadd hx hb d3 ?_
  exact va_sld hx hb hX hbl (Nat.not_le.mpr hbl) hS hin d4 kk
/-- what a case does behind both calls: the reference's exception is the wrapper's, and where none was thrown, the answers are the same -/
theorem lTail {off : Int} (C : lX p l s m c b L xs D cy tt) (hc : cells ≤ 601024 ∧ slots ≤ 7293034) (hcode : gX12_code T = r) (hout : r = iI 0 → g = vp_updL f 0 v.toInt64) (hP : va_P D vwCl (oC cy bo g :: (wX11 cy a o S ++ wX12 cy a' o' T)) H)
    (hl : lv_has ls 7 [(6, .int v), (5, .int r), (4, .int i), (0, .ref b), (1, .ref (a o)), (2, .ref (a' o')), (3, .ref bo)])
    (d0 : decode cL_law pc = .ok (.aload_n 2, 1)) (d1 : decode cL_law (pc + 1) = .ok (.invokevirtual 106, 3)) (d2 : decode cL_law (pc + 4) = .ok (.iload 5, 2)) (d3 : decode cL_law (pc + 6) = .ok (.if_icmp .eq 5, 3)) (d4 : decode cL_law (pc + 11) = .ok (.iload 5, 2)) (d5 : decode cL_law (pc + 13) = .ok (.ifCond .ne 15, 3))
    (d6 : decode cL_law (pc + 16) = .ok (.aload_n 3, 1)) (d7 : decode cL_law (pc + 17) = .ok (.iconst 0, 1)) (d8 : decode cL_law (pc + 18) = .ok (.laload, 1)) (d9 : decode cL_law (pc + 19) = .ok (.iload 6, 2)) (d10 : decode cL_law (pc + 21) = .ok (.i2l, 1)) (d11 : decode cL_law (pc + 22) = .ok (.lcmp, 1)) (d12 : decode cL_law (pc + 23) = .ok (.ifCond .eq 5, 3)) (d13 : decode cL_law (pc + 28) = .ok (.goto off, 3)) (ht : ((pc + 28 : Nat) : Int) + off = ((1929 : Nat) : Int))
    (kk : lv_has ls 7 [(4, .int i), (0, .ref b), (1, .ref (a o)), (2, .ref (a' o')), (3, .ref bo)] → W p l e room_1 s m #[Value.ref b] below meth c H locs cells slots Q (F0 m 1929 ls [])) : W p l e room_1 s m #[Value.ref b] below meth c H locs cells slots Q (F0 m pc ls []) := by
  obtain ⟨hx, hb, hml, hown, hts, hX, hbl, hl9, hG, hGX, hN⟩ := C
  have hP9 : va_P D vwCl (wX12 cy a' o' T) H := cutP hP (pmT cy a o bo S g (wX12 cy a' o' T))
  have k9 := kk (lv_sub hl [2, 3, 4, 5, 6] rfl)
  refine lv_aload_n hx hb d0 rfl (lv_at hl 5 rfl) ?_
  refine pcV (As := []) (rest := []) (q0 := 0) (ci := 12) (qX12_thrown l D cy a' o' T (gX12_code T) rfl) ⟨hx, hb, hml, hown, hts⟩ (cwV 0 hts gL_law_X12_thrown rfl rfl rfl (by decide +kernel) ⟨Nat.le_of_ble_eq_true rfl, Nat.le_of_ble_eq_true rfl⟩) hG hP9 rfl rfl rfl hl.1 rfl (Nat.le_of_ble_eq_true rfl) d1 hc ?_
  refine lv_iload hx hb d2 (lv_at hl 1 rfl) ?_
  refine lv_icmp_eq (tgt := pc + 11) hx hb d3 (by omega) (fun cc => ?_) (fun cc => absurd hcode cc)
  refine lv_iload hx hb d4 (lv_at hl 1 rfl) ?_
  refine lv_if_ne (tgt := pc + 28) hx hb d5 (by omega) (fun cc => ?_) (fun cc => ?_)
  · exact lv_goto (tgt := 1929) hx hb d13 ht k9
  · have hg := hout (cc.trans iI_lit.1)
    have hg0 : g (0 : Int32).toNatClampNeg = v.toInt64 := by rw [hg]; exact pk_uLs
    refine lv_aload_n hx hb d6 rfl (lv_at hl 6 rfl) ?_
    refine lv_iconst (v := (0 : Int32)) hx hb d7 (by decide) ?_
    refine va_lald (cA := cy 3) hx hb hG.1 hP 0 3 rfl rfl (show vp_in (0 : Int32) 1 by unfold vp_in; decide) d8 ?_
    refine lv_iload hx hb d9 (lv_at hl 0 rfl) ?_
    refine lv_i2l (v := v.toInt64) hx hb d10 rfl ?_
    refine W.lcmp hx hb d11 ?_
    refine lv_if_eq (tgt := pc + 28) hx hb d12 (by omega) (fun c2 => ?_) (fun c2 => absurd ((lg_cmp_eq _ _).mpr hg0) c2)
    exact lv_goto (tgt := 1929) hx hb d13 ht k9
/-- the same, of a call that answers a boolean -/
theorem lTailB {off : Int} (C : lX p l s m c b L xs D cy tt) (hc : cells ≤ 601024 ∧ slots ≤ 7293034) (hcode : gX12_code T = r) (hout : r = iI 0 → g = vp_updL f 0 (if v = 0 then (0 : Int64) else 1)) (hP : va_P D vwCl (oC cy bo g :: (wX11 cy a o S ++ wX12 cy a' o' T)) H)
    (hl : lv_has ls 7 [(6, .int v), (5, .int r), (4, .int i), (0, .ref b), (1, .ref (a o)), (2, .ref (a' o')), (3, .ref bo)])
    (d0 : decode cL_law pc = .ok (.aload_n 2, 1)) (d1 : decode cL_law (pc + 1) = .ok (.invokevirtual 106, 3)) (d2 : decode cL_law (pc + 4) = .ok (.iload 5, 2)) (d3 : decode cL_law (pc + 6) = .ok (.if_icmp .eq 5, 3)) (d4 : decode cL_law (pc + 11) = .ok (.iload 5, 2)) (d5 : decode cL_law (pc + 13) = .ok (.ifCond .ne 22, 3))
    (d6 : decode cL_law (pc + 16) = .ok (.aload_n 3, 1)) (d7 : decode cL_law (pc + 17) = .ok (.iconst 0, 1)) (d8 : decode cL_law (pc + 18) = .ok (.laload, 1)) (d9 : decode cL_law (pc + 19) = .ok (.iload 6, 2)) (e0 : decode cL_law (pc + 21) = .ok (.ifCond .eq 7, 3)) (e1 : decode cL_law (pc + 24) = .ok (.lconst 1, 1)) (e2 : decode cL_law (pc + 25) = .ok (.goto 4, 3)) (e3 : decode cL_law (pc + 28) = .ok (.lconst 0, 1)) (d11 : decode cL_law (pc + 29) = .ok (.lcmp, 1)) (d12 : decode cL_law (pc + 30) = .ok (.ifCond .eq 5, 3)) (d13 : decode cL_law (pc + 35) = .ok (.goto off, 3)) (ht : ((pc + 35 : Nat) : Int) + off = ((1929 : Nat) : Int))
    (kk : lv_has ls 7 [(4, .int i), (0, .ref b), (1, .ref (a o)), (2, .ref (a' o')), (3, .ref bo)] → W p l e room_1 s m #[Value.ref b] below meth c H locs cells slots Q (F0 m 1929 ls [])) : W p l e room_1 s m #[Value.ref b] below meth c H locs cells slots Q (F0 m pc ls []) := by
  obtain ⟨hx, hb, hml, hown, hts, hX, hbl, hl9, hG, hGX, hN⟩ := C
  have hP9 : va_P D vwCl (wX12 cy a' o' T) H := cutP hP (pmT cy a o bo S g (wX12 cy a' o' T))
  have k9 := kk (lv_sub hl [2, 3, 4, 5, 6] rfl)
  refine lv_aload_n hx hb d0 rfl (lv_at hl 5 rfl) ?_
  refine pcV (As := []) (rest := []) (q0 := 0) (ci := 12) (qX12_thrown l D cy a' o' T (gX12_code T) rfl) ⟨hx, hb, hml, hown, hts⟩ (cwV 0 hts gL_law_X12_thrown rfl rfl rfl (by decide +kernel) ⟨Nat.le_of_ble_eq_true rfl, Nat.le_of_ble_eq_true rfl⟩) hG hP9 rfl rfl rfl hl.1 rfl (Nat.le_of_ble_eq_true rfl) d1 hc ?_
  refine lv_iload hx hb d2 (lv_at hl 1 rfl) ?_
  refine lv_icmp_eq (tgt := pc + 11) hx hb d3 (by omega) (fun cc => ?_) (fun cc => absurd hcode cc)
  refine lv_iload hx hb d4 (lv_at hl 1 rfl) ?_
  refine lv_if_ne (tgt := pc + 35) hx hb d5 (by omega) (fun cc => ?_) (fun cc => ?_)
  · exact lv_goto (tgt := 1929) hx hb d13 ht k9
  · have hg := hout (cc.trans iI_lit.1)
    have hg0 : g (0 : Int32).toNatClampNeg = if v = 0 then (0 : Int64) else 1 := by rw [hg]; exact pk_uLs
    refine lv_aload_n hx hb d6 rfl (lv_at hl 6 rfl) ?_
    refine lv_iconst (v := (0 : Int32)) hx hb d7 (by decide) ?_
    refine va_lald (cA := cy 3) hx hb hG.1 hP 0 3 rfl rfl (show vp_in (0 : Int32) 1 by unfold vp_in; decide) d8 ?_
    refine lv_iload hx hb d9 (lv_at hl 0 rfl) ?_
    refine lv_if_eq (tgt := pc + 28) hx hb e0 (by omega) (fun c3 => ?_) (fun c3 => ?_)
    · rw [if_pos c3] at hg0
      refine lv_lconst (v := (0 : Int64)) hx hb e3 (by decide) ?_
      refine W.lcmp hx hb d11 ?_
      refine lv_if_eq (tgt := pc + 35) hx hb d12 (by omega) (fun c2 => ?_) (fun c2 => absurd ((lg_cmp_eq _ _).mpr hg0) c2)
      exact lv_goto (tgt := 1929) hx hb d13 ht k9
    · rw [if_neg c3] at hg0
      refine lv_lconst (v := (1 : Int64)) hx hb e1 (by decide) ?_
      refine lv_goto (tgt := pc + 29) hx hb e2 (by omega) ?_
      refine W.lcmp hx hb d11 ?_
      refine lv_if_eq (tgt := pc + 35) hx hb d12 (by omega) (fun c2 => ?_) (fun c2 => absurd ((lg_cmp_eq _ _).mpr hg0) c2)
      exact lv_goto (tgt := 1929) hx hb d13 ht k9
end LR
