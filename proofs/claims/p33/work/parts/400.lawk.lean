/-! the law's rows: what its wrappers and its loops stand on -/
def gN (U : State) : Prop := va_Nc "java/lang/IllegalArgumentException" "java/lang/IndexOutOfBoundsException" U ∧ va_Nc "java/lang/IllegalStateException" "java/lang/IndexOutOfBoundsException" U ∧ va_Nc "java/lang/IllegalStateException" "java/lang/IllegalArgumentException" U
theorem gN.moved {u U : State} (hvm : u.vm.Alike U.vm) (h : gN u) : gN U := ⟨h.1.moved hvm, h.2.1.moved hvm, h.2.2.moved hvm⟩
abbrev lP (D : va_G) (cy : Nat → ClassId) (tt : Nat → Nat) (sz : Nat) (av : List Value) (w0 : va_W) : Array Value → State → Prop := va_Pc av (fun U => U.heap.size = sz ∧ va_P D vwCl w0 U.heap ∧ gK D cy U ∧ va_D (fun _ => True) w0 ∧ gX tt (va_A w0 sz) U U.heap ∧ gN U)
theorem cast_w {D : va_G} {cy : Nat → ClassId} {s : State} {args : Array Value} (hG : gK D cy s) : (Cond.castable "java/lang/IllegalArgumentException" "java/lang/IllegalArgumentException").before args s = true ∧ (Cond.castable "java/lang/IllegalStateException" "java/lang/IllegalStateException").before args s = true ∧ (Cond.castable "java/lang/IndexOutOfBoundsException" "java/lang/IndexOutOfBoundsException").before args s = true := ⟨va_Nw.use rfl (hG.2.2.2 _ (by decide +kernel)), va_Nw.use rfl (hG.2.2.2 _ (by decide +kernel)), va_Nw.use rfl (hG.2.2.2 _ (by decide +kernel))⟩
theorem lBl {D : va_G} {cy : Nat → ClassId} {tt : Nat → Nat} {sz : Nat} {av : List Value} {w0 : va_W} : FrameBlind (lP D cy tt sz av w0) := bl1 fun U g mk a q => ⟨q.1, q.2.1, q.2.2.1.call, q.2.2.2.1, q.2.2.2.2.1.moved (u := U) (U := U.calling g mk a) (Vm.Alike.refl U.vm), q.2.2.2.2.2.moved (u := U) (U := U.calling g mk a) (Vm.Alike.refl U.vm)⟩
theorem pmA (Re W : va_W) : (Re ++ W).Perm (W ++ Re) := List.perm_append_comm
theorem pmN1 (cy : Nat → ClassId) (a : Nat → Nat) (o : Nat) (T : SX11) : (wX11 cy a o T).Perm (wX11n cy a o (gX11_now T) ++ (wX5 cy a (o + 54) (gX11_records T) ++ wX8 cy a (o + 268) (gX11_text T))) := by
  have e : wX11 cy a o T = wX11n cy a o (gX11_now T) ++ (wX5 cy a (o + 54) (gX11_records T) ++ wX8 cy a (o + 268) (gX11_text T)) := by
    simp only [wX11, wX11n, List.append_assoc]
    rfl
  rw [e]
theorem P_now {D : va_G} {cy : Nat → ClassId} {a : Nat → Nat} {o : Nat} {S : SX11} {H : Heap} (h : va_P D vwCl (wX11 cy a o S) H) : va_P D vwCl (wX11n cy a o (gX11_now S)) H := cutP h (pmN1 cy a o S)
/-- a script's cell, and what stands for those behind its end -/
def ceF (L : Nat) (xs : Nat → Int32) (k : Int32) : Int32 := if Int32.ofNat L ≤ k then (1573499863 : Int32) * (k + (1667 : Int32)) + (1489 : Int32) else xs k.toNatClampNeg
/-- what the law's rows stand on: the machine, the words, the script, the launch -/
def lX (p : Program) (l : Launch) (s : State) (m : MethodId) (c : Code) (b L : Nat) (xs : Nat → Int32) (D : va_G) (cy : Nat → ClassId) (tt : Nat → Nat) : Prop :=
  p.tables.exec = Jvm.exec ∧ c.code = cL_law ∧ c.maxLocals = 17 ∧ s.vm.findClass RL = some m.cls ∧ (∀ w ∈ wsL_law, w.before #[Value.ref b] s = true) ∧ va_X b L xs s s.heap ∧ b < s.heap.size ∧ l.stackTraces = false ∧ gK D cy s ∧ gX tt (fun q => s.heap.size ≤ q) s s.heap ∧ gN s
section LW
variable {p : Program} {l : Launch} {e : Env} {R : Room} {s : State} {m : MethodId} {args : Array Value} {below : List Frame} {meth : Method} {c : Code} {H : Heap} {locs : List Loc} {cells slots : Nat} {Q : State → Prop}
variable {rest st0 av As : List Value} {pc : Nat} {ls : Array Slot} {D : va_G} {cy : Nat → ClassId} {tt : Nat → Nat} {A0 : Nat → Prop} {mc ms c2 s2 : Nat} {a : Nat → Nat} {o b : Nat} {S : SX11} {Re : va_W}
/-- a wrapper or a helper of the law called: it returns -/
theorem lcW {rs : Int32 × SX11} {ar : Array Value} (hG : gK D cy s) (hX : gX tt A0 s s.heap) (hN : gN s) (hP : va_P D vwCl (Re ++ wX11 cy a o S) H) (hD : va_D A0 (Re ++ wX11 cy a o S)) (hS : va_S A0 s.heap H locs) (hA : ∀ q, s.heap.size ≤ q → A0 q)
    (run : FrameBlind (lP D cy tt H.size av (wX11 cy a o S)) → (∀ U : State, U.heap = H → s.WarmedH U.vm → lP D cy tt H.size av (wX11 cy a o S) av.toArray U) → vx_Run p l e R s m args below meth c H locs cells slots mc ms (F0 m pc ls st0) rest (va_Qi (fun r (u : SX11) => (r, u) = rs) (fun u t => mB D H.size (wX11 cy a o S) (wX11 cy a o u) t) (va_A (wX11 cy a o S) H.size) ar) (fun _ _ _ => False) (va_A (wX11 cy a o S) H.size)) (hc2 : cells + mc = c2) (hs2 : slots + ms = s2)
    (kk : ∀ (H1 : Heap) (locs1 : List Loc), va_P D vwCl (Re ++ wX11 cy a o rs.2) H1 → va_D A0 (Re ++ wX11 cy a o rs.2) → va_S A0 s.heap H1 locs1 → W p l e R s m args below meth c H1 locs1 c2 s2 Q (F0 m (pc + 3) ls (.int rs.1 :: rest))) : W p l e R s m args below meth c H locs cells slots Q (F0 m pc ls st0) := by
  subst hc2
  subst hs2
  have hp := pmA Re (wX11 cy a o S)
  have hFc := cutF hD hp hS hA
  have hr := run lBl (fun U hU hW => by
    obtain ⟨h1, h2, h3, h4, h5, h6⟩ := xPre (av := av) hG hX hP hD hS hA hp U hU hW
    exact ⟨h1, h2, h3, h4, h5, h6, hN.moved hW.alike⟩)
  intro T hT X
  rcases hr T hT X with ⟨v, st₀, t, T', L, h0, X', hL, e1, e2, ⟨⟨r, u, hv, hu, hP1, hD1⟩, hF⟩, st⟩ | ⟨q, st₀, t, T', L, E, ce, h0, X', hL, e1, e2, hF, -⟩
  · cases hv
    cases hu
    obtain ⟨k1, k2, k3⟩ := vx_keep h0 e1 hS (fun q _ h => hFc q h) hFc hL hF
    rw [← e1] at hP1
    obtain ⟨hP2, hD2⟩ := cutJ hP hD hp (pmA Re (wX11 cy a o u)) k2 hFc hP1 hD1
    obtain ⟨t2, a1, b1⟩ := kk T'.heap (locs ++ L) hP2 hD2 k3 T' rfl X'
    exact ⟨t2, st t2 a1, b1⟩
  · exact hF.elim
end LW
section LV
variable {p : Program} {l : Launch} {e : Env} {R : Room} {s : State} {m : MethodId} {args : Array Value} {below : List Frame} {meth : Method} {c : Code} {H H0 : Heap} {locs : List Loc} {cells slots : Nat} {Q : State → Prop}
variable {y : MethodName} {bytes cc : ByteArray} {maxL nL n index : Nat} {ret : Option FieldType} {wsc : List Cond} {rm : Room} {Ts : List Cond} {own : String} {b L : Nat} {xs : Nat → Int32} {As rest st0 : List Value} {pc : Nat} {ls : Array Slot}
theorem pcC {r : Int32} (hM : Met l y wsc rm (va_Pc As (fun U => va_X b L xs U U.heap)) (vp_Si (fun z => z = r)) 0 0 (fun _ => False)) (S : CallFix p m c cc nL s args Ts own) (cw : CallB R s args own index y bytes maxL ret wsc rm 0 0 n ∧ (Cond.static y).before args s = true)
    (hX : va_X b L xs s s.heap) (hbl : b < s.heap.size) (hS : va_S (fun q : Nat => s.heap.size ≤ q) s.heap H locs) (hn : As.length = n) (hsize : ls.size = nL) (hst : st0 = As.reverse ++ rest) (hW : (rest.map fun v => v.category).sum ≤ 8) (hdg : decode cc pc = .ok (.invokestatic index, 3)) (hf : cells ≤ R.cells ∧ slots ≤ R.slots)
    (kk : W p l e R s m args below meth c H locs cells slots Q (F0 m (pc + 3) ls (.int r :: rest))) : W p l e R s m args below meth c H locs cells slots Q (F0 m pc ls st0) :=
  vp_callSi (W.runS S hM cw ⟨bl1 fun U g mk a q => va_X.moved (u := U) (U := U.calling g mk a) (Vm.Alike.refl U.vm) q, fun U hU hW => ⟨rfl, by show va_X b L xs U U.heap; rw [hU]; exact (hX.kept (hS.2.1 b hbl (Nat.not_le.mpr hbl))).moved hW.alike⟩⟩ rfl hn hsize hst (lv_room hW) hdg hf) (fun z hz => by rw [hz]; exact kk)
end LV
theorem qL_cell (l : Launch) (b L : Nat) (xs : Nat → Int32) (hL : L < 2147483648) (k : Int32) (hk : (0 : Int32) ≤ k) : Met l yL_cell wsL_cell ({ frames := 0, cells := 0, slots := 0, locals := 0 } : Room) (va_Pc [.ref b, .int k] (fun U => va_X b L xs U U.heap)) (vp_Si (fun z => z = ceF L xs k)) 0 0 (fun _ => False) := by
  refine Met.ofW (cc := cL_cell) (maxL := 2) (ret := (some .int)) (by decide) rfl ?_
  intro p e s m args below meth c s₁ B hml hv
  obtain ⟨rfl, hX⟩ := hv
  have hx := B.exec
  have hb := B.bytes
  have hr := B.returns
  have hts := atoms_spec (ws := wsL_cell) B.pre
  have hown : s.vm.findClass RL = some m.cls := findClass_of_methodNamed B.named
  have hlocks := B.notSynchronized
  have hbl : b < s.heap.size := by
    obtain ⟨scr, h1, -⟩ := id hX
    exact (Array.getElem?_eq_some_iff.mp h1).1
  have hS : va_S (fun _ : Nat => False) s.heap s.heap [] := va_S.rf
  have hl := lv_entry ([.ref b, .int k]) (n := 2) (Nat.le_of_ble_eq_true rfl)
  rw [lg_entry_eq]
  generalize (lg_sl ([.ref b, .int k]) ++ List.replicate (2 - (lg_sl ([.ref b, .int k])).length) Slot.unset).toArray = ls at hl ⊢
  have hl : lv_has ls 2 [(0, .ref b), (1, .int k)] := hl
  refine lv_iload_n hx hb dL_cell_0 rfl (lv_at hl 1 rfl) ?_
  refine lv_aload_n hx hb dL_cell_1 rfl (lv_at hl 0 rfl) ?_
  refine va_slen hx hb hX hbl (fun h => h) hS dL_cell_2 ?_
  refine lv_icmp_ge (tgt := 12) hx hb dL_cell_3 (by decide) (fun cc => ?_) (fun cc => ?_)
  · refine lv_ldc (v := (1573499863 : Int32)) hx hb hown (hts (.constant RL 7 (1573499863 : Int32)) (by decide +kernel)) dL_cell_12 ?_
    refine lv_iload_n hx hb dL_cell_14 rfl (lv_at hl 1 rfl) ?_
    refine lv_sipush (v := (1667 : Int32)) hx hb dL_cell_15 (by decide) ?_
    refine lv_iadd hx hb dL_cell_18 ?_
    refine lv_imul hx hb dL_cell_19 ?_
    refine lv_sipush (v := (1489 : Int32)) hx hb dL_cell_20 (by decide) ?_
    refine lv_iadd hx hb dL_cell_23 ?_
    exact W.iret (v := (1573499863 : Int32) * (k + (1667 : Int32)) + (1489 : Int32)) hx hb hr (fun t ht hW => ⟨(1573499863 : Int32) * (k + (1667 : Int32)) + (1489 : Int32), rfl, (if_pos cc).symm, ht⟩) (fun q hq => nomatch hq) dL_cell_24
  · have hin : vp_in k L := by
      have e1 : Int32.ofNat L = iI (L : Int) := nI_i (by omega)
      have e2 := (iI_of k).symm
      have b1 := Int32.toInt_lt k
      have b2 := Int32.le_toInt k
      rw [e1] at cc
      rw [e2] at cc hk ⊢
      generalize k.toInt = z at *
      rw [show (0 : Int32) = iI 0 from rfl, iI_le (by omega) (by omega) (by omega) (by omega)] at hk
      rw [iI_le (by omega) (by omega) (by omega) (by omega)] at cc
      intro h9
      rcases h9 with h9 | h9
      · rw [show (0 : Int32) = iI 0 from rfl, iI_lt (by omega) (by omega) (by omega) (by omega)] at h9
        omega
      · rw [iI_nat (by omega) (by omega)] at h9
        omega
    refine lv_aload_n hx hb dL_cell_6 rfl (lv_at hl 0 rfl) ?_
    refine lv_iload_n hx hb dL_cell_7 rfl (lv_at hl 1 rfl) ?_
    refine va_sld hx hb hX hbl (fun h => h) hS hin dL_cell_8 ?_
    refine lv_goto (tgt := 24) hx hb dL_cell_9 (by decide) ?_
    exact W.iret (v := xs k.toNatClampNeg) hx hb hr (fun t ht hW => ⟨xs k.toNatClampNeg, rfl, (if_neg cc).symm, ht⟩) (fun q hq => nomatch hq) dL_cell_24
