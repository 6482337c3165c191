/-! rows of this claim's own: partial values, guards, worlds by state, calls -/
/-- the class ids of the arrays -/
abbrev TY (cy : Nat → ClassId) : List (ClassId × FieldType) := [(cy 0, .int), (cy 1, .object "PianoRounds$Competition"), (cy 2, .array .int)]
def nestF : List Cond := [.fieldLinkNest "PianoRounds" 38 "PianoRounds$Competition" "state" "I" "PianoRounds", .fieldLinkNest "PianoRounds" 42 "PianoRounds$Competition" "works" "LPianoRounds$Works;" "PianoRounds", .fieldLinkNest "PianoRounds" 46 "PianoRounds$Works" "count" "I" "PianoRounds", .fieldLinkNest "PianoRounds" 73 "PianoRounds$Competition" "entrants" "LPianoRounds$Entrants;" "PianoRounds", .fieldLinkNest "PianoRounds" 77 "PianoRounds$Entrants" "count" "I" "PianoRounds", .fieldLinkNest "PianoRounds" 87 "PianoRounds$Competition" "jury" "LPianoRounds$Jury;" "PianoRounds", .fieldLinkNest "PianoRounds" 125 "PianoRounds$Competition" "rules" "[[I" "PianoRounds", .fieldLinkNest "PianoRounds" 135 "PianoRounds$Competition" "programs" "LPianoRounds$Programs;" "PianoRounds", .fieldLinkNest "PianoRounds" 144 "PianoRounds$Text" "found" "I" "PianoRounds", .fieldLinkNest "PianoRounds" 147 "PianoRounds$Text" "numbers" "[I" "PianoRounds", .fieldLinkNest "PianoRounds" 164 "PianoRounds$Competition" "stage" "LPianoRounds$Stage;" "PianoRounds", .fieldLinkNest "PianoRounds" 168 "PianoRounds$Stage" "seed" "J" "PianoRounds", .fieldLinkNest "PianoRounds" 177 "PianoRounds$Stage" "players" "I" "PianoRounds", .fieldLinkNest "PianoRounds" 180 "PianoRounds$Stage" "played" "I" "PianoRounds", .fieldLinkNest "PianoRounds" 235 "PianoRounds$Competition" "tie" "LPianoRounds$Tie;" "PianoRounds", .fieldLinkNest "PianoRounds" 239 "PianoRounds$Tie" "sheet" "LPianoRounds$Sheet;" "PianoRounds", .fieldLinkNest "PianoRounds" 248 "PianoRounds$Competition" "sheet" "LPianoRounds$Sheet;" "PianoRounds", .fieldLinkNest "PianoRounds" 249 "PianoRounds$Competition" "closedScores" "[[I" "PianoRounds", .fieldLinkNest "PianoRounds" 258 "PianoRounds$Competition" "cut" "LPianoRounds$Cut;" "PianoRounds", .fieldLinkNest "PianoRounds" 271 "PianoRounds$Jury" "size" "I" "PianoRounds", .fieldLinkNest "PianoRounds" 277 "PianoRounds$Text" "length" "I" "PianoRounds", .fieldLinkNest "PianoRounds" 282 "PianoRounds$Records" "count" "I" "PianoRounds", .fieldLinkNest "PianoRounds$Competition" 85 "PianoRounds" "RULE_AT_FIRST" "[I" "PianoRounds", .fieldLinkNest "PianoRounds$Competition" 128 "PianoRounds$Jury" "size" "I" "PianoRounds", .fieldLinkNest "PianoRounds$Competition" 131 "PianoRounds$Works" "count" "I" "PianoRounds", .fieldLinkNest "PianoRounds$Competition" 134 "PianoRounds$Entrants" "count" "I" "PianoRounds", .fieldLinkNest "PianoRounds$Competition" 139 "PianoRounds$Stage" "players" "I" "PianoRounds", .fieldLinkNest "PianoRounds$Competition" 142 "PianoRounds$Stage" "played" "I" "PianoRounds", .fieldLinkNest "PianoRounds$Competition" 147 "PianoRounds$Tie" "places" "I" "PianoRounds", .fieldLinkNest "PianoRounds$Competition" 150 "PianoRounds$Tie" "number" "I" "PianoRounds", .fieldLinkNest "PianoRounds$Competition" 176 "PianoRounds$Tie" "sheet" "LPianoRounds$Sheet;" "PianoRounds", .fieldLinkNest "PianoRounds$Competition" 265 "PianoRounds$Cut" "scores" "[I" "PianoRounds"]
def nestM : List Cond := [.methodLinkNest "PianoRounds" 25 ⟨"PianoRounds$Text", "<init>", "()V"⟩ "PianoRounds", .methodLinkNest "PianoRounds$Competition" 23 ⟨"PianoRounds$Works", "<init>", "()V"⟩ "PianoRounds", .methodLinkNest "PianoRounds$Competition" 30 ⟨"PianoRounds$Entrants", "<init>", "()V"⟩ "PianoRounds", .methodLinkNest "PianoRounds$Competition" 49 ⟨"PianoRounds$Jury", "<init>", "()V"⟩ "PianoRounds", .methodLinkNest "PianoRounds$Competition" 70 ⟨"PianoRounds$Tie", "<init>", "()V"⟩ "PianoRounds", .methodLinkNest "PianoRounds$Competition" 80 ⟨"PianoRounds$Cut", "<init>", "()V"⟩ "PianoRounds", .methodLinkNest "PianoRounds$Competition" 89 ⟨"PianoRounds", "copyRow", "([I[I)V"⟩ "PianoRounds", .methodLinkNest "PianoRounds$Competition" 109 ⟨"PianoRounds", "copyRows", "([[I[[I)V"⟩ "PianoRounds", .methodLinkNest "PianoRounds$Competition" 255 ⟨"PianoRounds", "isBetween", "(III)Z"⟩ "PianoRounds", .methodLinkNest "PianoRounds$Cut" 21 ⟨"PianoRounds", "isBetween", "(III)Z"⟩ "PianoRounds", .methodLinkNest "PianoRounds$Entrants" 26 ⟨"PianoRounds", "copyRow", "([I[I)V"⟩ "PianoRounds", .methodLinkNest "PianoRounds$Jury" 46 ⟨"PianoRounds", "copyRows", "([[I[[I)V"⟩ "PianoRounds", .methodLinkNest "PianoRounds$Programs" 67 ⟨"PianoRounds", "copyRow", "([I[I)V"⟩ "PianoRounds", .methodLinkNest "PianoRounds$Sheet" 25 ⟨"PianoRounds", "copyRows", "([[I[[I)V"⟩ "PianoRounds", .methodLinkNest "PianoRounds$Stage" 50 ⟨"PianoRounds", "isBetween", "(III)Z"⟩ "PianoRounds", .methodLinkNest "PianoRounds$Stage" 64 ⟨"PianoRounds", "copyRow", "([I[I)V"⟩ "PianoRounds", .methodLinkNest "PianoRounds$Text" 36 ⟨"PianoRounds", "isBetween", "(III)Z"⟩ "PianoRounds", .methodLinkNest "PianoRounds$Tie" 48 ⟨"PianoRounds", "isBetween", "(III)Z"⟩ "PianoRounds", .methodLinkNest "PianoRounds$Tie" 52 ⟨"PianoRounds", "copyRow", "([I[I)V"⟩ "PianoRounds", .methodLinkNest "PianoRounds$Works" 39 ⟨"PianoRounds", "copyRow", "([I[I)V"⟩ "PianoRounds"]
def castL : List Cond := [.castable "java/lang/IllegalArgumentException" "java/lang/IllegalArgumentException", .castable "java/lang/IllegalStateException" "java/lang/IllegalStateException", .castable "java/lang/IndexOutOfBoundsException" "java/lang/IndexOutOfBoundsException", .declares ⟨"java/lang/RuntimeException", "<init>", "()V"⟩, .declares ⟨"java/lang/Exception", "<init>", "()V"⟩, .declares ⟨"java/lang/Throwable", "<init>", "()V"⟩]
def gK (D : va_G) (cy : Nat → ClassId) (U : State) : Prop := va_K D vwCl (TY cy) U ∧ (∀ w ∈ nestF, va_Nw w U) ∧ (∀ w ∈ nestM, va_Nw w U) ∧ ∀ w ∈ castL, va_Nw w U
theorem nestF_warm {s U : State} (hW : s.WarmedH U.vm) : ∀ w ∈ nestF, va_Nw w s → va_Nw w U := by
  unfold nestF
  refine List.forall_mem_cons.mpr ⟨fun h => va_Nw.warmF hW h, ?_⟩
  refine List.forall_mem_cons.mpr ⟨fun h => va_Nw.warmF hW h, ?_⟩
  refine List.forall_mem_cons.mpr ⟨fun h => va_Nw.warmF hW h, ?_⟩
  refine List.forall_mem_cons.mpr ⟨fun h => va_Nw.warmF hW h, ?_⟩
  refine List.forall_mem_cons.mpr ⟨fun h => va_Nw.warmF hW h, ?_⟩
  refine List.forall_mem_cons.mpr ⟨fun h => va_Nw.warmF hW h, ?_⟩
  refine List.forall_mem_cons.mpr ⟨fun h => va_Nw.warmF hW h, ?_⟩
  refine List.forall_mem_cons.mpr ⟨fun h => va_Nw.warmF hW h, ?_⟩
  refine List.forall_mem_cons.mpr ⟨fun h => va_Nw.warmF hW h, ?_⟩
  refine List.forall_mem_cons.mpr ⟨fun h => va_Nw.warmF hW h, ?_⟩
  refine List.forall_mem_cons.mpr ⟨fun h => va_Nw.warmF hW h, ?_⟩
  refine List.forall_mem_cons.mpr ⟨fun h => va_Nw.warmF hW h, ?_⟩
  refine List.forall_mem_cons.mpr ⟨fun h => va_Nw.warmF hW h, ?_⟩
  refine List.forall_mem_cons.mpr ⟨fun h => va_Nw.warmF hW h, ?_⟩
  refine List.forall_mem_cons.mpr ⟨fun h => va_Nw.warmF hW h, ?_⟩
  refine List.forall_mem_cons.mpr ⟨fun h => va_Nw.warmF hW h, ?_⟩
  refine List.forall_mem_cons.mpr ⟨fun h => va_Nw.warmF hW h, ?_⟩
  refine List.forall_mem_cons.mpr ⟨fun h => va_Nw.warmF hW h, ?_⟩
  refine List.forall_mem_cons.mpr ⟨fun h => va_Nw.warmF hW h, ?_⟩
  refine List.forall_mem_cons.mpr ⟨fun h => va_Nw.warmF hW h, ?_⟩
  refine List.forall_mem_cons.mpr ⟨fun h => va_Nw.warmF hW h, ?_⟩
  refine List.forall_mem_cons.mpr ⟨fun h => va_Nw.warmF hW h, ?_⟩
  refine List.forall_mem_cons.mpr ⟨fun h => va_Nw.warmF hW h, ?_⟩
  refine List.forall_mem_cons.mpr ⟨fun h => va_Nw.warmF hW h, ?_⟩
  refine List.forall_mem_cons.mpr ⟨fun h => va_Nw.warmF hW h, ?_⟩
  refine List.forall_mem_cons.mpr ⟨fun h => va_Nw.warmF hW h, ?_⟩
  refine List.forall_mem_cons.mpr ⟨fun h => va_Nw.warmF hW h, ?_⟩
  refine List.forall_mem_cons.mpr ⟨fun h => va_Nw.warmF hW h, ?_⟩
  refine List.forall_mem_cons.mpr ⟨fun h => va_Nw.warmF hW h, ?_⟩
  refine List.forall_mem_cons.mpr ⟨fun h => va_Nw.warmF hW h, ?_⟩
  refine List.forall_mem_cons.mpr ⟨fun h => va_Nw.warmF hW h, ?_⟩
  refine List.forall_mem_cons.mpr ⟨fun h => va_Nw.warmF hW h, ?_⟩
  exact fun _ h => nomatch h
theorem nestM_warm {s U : State} (hW : s.WarmedH U.vm) : ∀ w ∈ nestM, va_Nw w s → va_Nw w U := by
  unfold nestM
  refine List.forall_mem_cons.mpr ⟨fun h => va_Nw.warmM hW h, ?_⟩
  refine List.forall_mem_cons.mpr ⟨fun h => va_Nw.warmM hW h, ?_⟩
  refine List.forall_mem_cons.mpr ⟨fun h => va_Nw.warmM hW h, ?_⟩
  refine List.forall_mem_cons.mpr ⟨fun h => va_Nw.warmM hW h, ?_⟩
  refine List.forall_mem_cons.mpr ⟨fun h => va_Nw.warmM hW h, ?_⟩
  refine List.forall_mem_cons.mpr ⟨fun h => va_Nw.warmM hW h, ?_⟩
  refine List.forall_mem_cons.mpr ⟨fun h => va_Nw.warmM hW h, ?_⟩
  refine List.forall_mem_cons.mpr ⟨fun h => va_Nw.warmM hW h, ?_⟩
  refine List.forall_mem_cons.mpr ⟨fun h => va_Nw.warmM hW h, ?_⟩
  refine List.forall_mem_cons.mpr ⟨fun h => va_Nw.warmM hW h, ?_⟩
  refine List.forall_mem_cons.mpr ⟨fun h => va_Nw.warmM hW h, ?_⟩
  refine List.forall_mem_cons.mpr ⟨fun h => va_Nw.warmM hW h, ?_⟩
  refine List.forall_mem_cons.mpr ⟨fun h => va_Nw.warmM hW h, ?_⟩
  refine List.forall_mem_cons.mpr ⟨fun h => va_Nw.warmM hW h, ?_⟩
  refine List.forall_mem_cons.mpr ⟨fun h => va_Nw.warmM hW h, ?_⟩
  refine List.forall_mem_cons.mpr ⟨fun h => va_Nw.warmM hW h, ?_⟩
  refine List.forall_mem_cons.mpr ⟨fun h => va_Nw.warmM hW h, ?_⟩
  refine List.forall_mem_cons.mpr ⟨fun h => va_Nw.warmM hW h, ?_⟩
  refine List.forall_mem_cons.mpr ⟨fun h => va_Nw.warmM hW h, ?_⟩
  refine List.forall_mem_cons.mpr ⟨fun h => va_Nw.warmM hW h, ?_⟩
  exact fun _ h => nomatch h
theorem castL_warm {s U : State} (hW : s.WarmedH U.vm) : ∀ w ∈ castL, va_Nw w s → va_Nw w U := by
  unfold castL
  refine List.forall_mem_cons.mpr ⟨fun h => va_Nw.warmC hW h, ?_⟩
  refine List.forall_mem_cons.mpr ⟨fun h => va_Nw.warmC hW h, ?_⟩
  refine List.forall_mem_cons.mpr ⟨fun h => va_Nw.warmC hW h, ?_⟩
  refine List.forall_mem_cons.mpr ⟨fun h => va_Nw.warmD hW h, ?_⟩
  refine List.forall_mem_cons.mpr ⟨fun h => va_Nw.warmD hW h, ?_⟩
  refine List.forall_mem_cons.mpr ⟨fun h => va_Nw.warmD hW h, ?_⟩
  exact fun _ h => nomatch h
theorem gK.warm {D : va_G} {cy : Nat → ClassId} {s U : State} (hW : s.WarmedH U.vm) (h : gK D cy s) : gK D cy U := ⟨va_K.moved hW.alike h.1, fun w hw => nestF_warm hW w hw (h.2.1 w hw), fun w hw => nestM_warm hW w hw (h.2.2.1 w hw), fun w hw => castL_warm hW w hw (h.2.2.2 w hw)⟩
theorem gK.call {D : va_G} {cy : Nat → ClassId} {U : State} {g : JFrame} {mk : MethodId} {a : Array Value} (h : gK D cy U) : gK D cy (U.calling g mk a) :=
  h.warm (State.WarmedH.refl U)
/-- an array of n arrays of k ints: the outer one at o, the inner ones behind it -/
def rowsW (cO cI : ClassId) (a : Nat → Nat) (o n k : Nat) (R : Nat → Nat → Int32) : va_W := (a o, .inl (cO, n, .inr (.inr (.inr (.inr (fun i => if i < n then some (a (o + 1 + i)) else none)))))) :: (List.range n).map (fun i => (a (o + 1 + i), .inl (cI, k, .inl (R i))))

theorem P_of_map {D : va_G} {cl : List vw_C} {ws wc : va_W} {H : Heap} {is : List Nat} (h : va_P D cl ws H) (hC : is.map (fun i => ws[i]?) = wc.map some) : va_P D cl wc H := by
  intro k q hq
  have h1 : (is.map (fun i => ws[i]?))[k]? = some (some q) := by rw [hC, List.getElem?_map, hq]; rfl
  rw [List.getElem?_map] at h1
  cases hi : is[k]? with
  | none => rw [hi] at h1; cases h1
  | some i => rw [hi] at h1; exact h i q (Option.some.inj h1)

section MYC
variable {p : Program} {l : Launch} {e : Env} {R : Room} {s : State} {m : MethodId} {args : Array Value} {below : List Frame} {meth : Method} {c : Code} {H : Heap} {locs : List Loc} {cells slots : Nat} {Q : State → Prop}
variable {y : MethodName} {bytes cc : ByteArray} {maxL nL n index : Nat} {ret : Option FieldType} {wsc : List Cond} {rm : Room} {Ts : List Cond} {own C : String} {b : Nat} {As rest st0 : List Value} {pc : Nat} {ls : Array Slot} {D : va_G} {cy : Nat → ClassId} {wc ws : va_W}
theorem bl1 {B : State → Prop} {av : List Value} (h : ∀ (U : State) (g : JFrame) (mk : MethodId) (a : Array Value), B U → B (U.calling g mk a)) : FrameBlind (va_Pc av B) := fun a U g mk q => ⟨q.1, h U g mk a q.2⟩
/-- a call that writes nothing, of an object's method: its answer r is known -/
theorem pcV {r : Int32} {q0 ci : Nat} {q : vw_C} {fs : List Value} (hM : Met l y wsc rm (va_Pc (.ref b :: As) (fun U => va_P D vwCl wc U.heap ∧ gK D cy U)) (vp_Si (fun z => z = r)) 0 0 (fun _ => False)) (S : CallFix p m c cc nL s args Ts own) (cw : CallW R s args own q.1 index y bytes maxL ret wsc rm 0 0 n)
    (hG : gK D cy s) (hP : va_P D vwCl wc H) (he : wc[q0]? = some (b, .inr (ci, fs))) (hc : vwCl[ci]? = some q) (hn : As.length = n) (hsize : ls.size = nL) (hst : st0 = As.reverse ++ .ref b :: rest) (hW : (rest.map fun v => v.category).sum ≤ 8) (hdg : decode cc pc = .ok (.invokevirtual index, 3)) (hf : cells ≤ R.cells ∧ slots ≤ R.slots)
    (kk : W p l e R s m args below meth c H locs cells slots Q (F0 m (pc + 3) ls (.int r :: rest))) : W p l e R s m args below meth c H locs cells slots Q (F0 m pc ls st0) :=
  vp_callSi (W.runV S hM cw ⟨bl1 fun U g mk a q => ⟨q.1, q.2.call⟩, va_recv hG.1 hP hc he, fun U hU hW => ⟨rfl, by rw [hU]; exact hP, hG.warm hW⟩⟩ rfl hn hsize hst (lv_room hW) hdg hf) (fun z hz => by rw [hz]; exact kk)
theorem pcVl {r : Int64} {q0 ci : Nat} {q : vw_C} {fs : List Value} (hM : Met l y wsc rm (va_Pc (.ref b :: As) (fun U => va_P D vwCl wc U.heap ∧ gK D cy U)) (vp_Sl (fun z => z = r)) 0 0 (fun _ => False)) (S : CallFix p m c cc nL s args Ts own) (cw : CallW R s args own q.1 index y bytes maxL ret wsc rm 0 0 n)
    (hG : gK D cy s) (hP : va_P D vwCl wc H) (he : wc[q0]? = some (b, .inr (ci, fs))) (hc : vwCl[ci]? = some q) (hn : As.length = n) (hsize : ls.size = nL) (hst : st0 = As.reverse ++ .ref b :: rest) (hW : (rest.map fun v => v.category).sum ≤ 8) (hdg : decode cc pc = .ok (.invokevirtual index, 3)) (hf : cells ≤ R.cells ∧ slots ≤ R.slots)
    (kk : W p l e R s m args below meth c H locs cells slots Q (F0 m (pc + 3) ls (.long r :: rest))) : W p l e R s m args below meth c H locs cells slots Q (F0 m pc ls st0) :=
  vp_callSl (W.runV S hM cw ⟨bl1 fun U g mk a q => ⟨q.1, q.2.call⟩, va_recv hG.1 hP hc he, fun U hU hW => ⟨rfl, by rw [hU]; exact hP, hG.warm hW⟩⟩ rfl hn hsize hst (lv_room hW) hdg hf) (fun z hz => by rw [hz]; exact kk)
/-- .. of a class's method -/
theorem pcS {r : Int32} (hM : Met l y wsc rm (va_Pc As (fun U => va_P D vwCl wc U.heap ∧ gK D cy U)) (vp_Si (fun z => z = r)) 0 0 (fun _ => False)) (S : CallFix p m c cc nL s args Ts own) (cw : CallB R s args own index y bytes maxL ret wsc rm 0 0 n ∧ (Cond.static y).before args s = true)
    (hG : gK D cy s) (hP : va_P D vwCl wc H) (hn : As.length = n) (hsize : ls.size = nL) (hst : st0 = As.reverse ++ rest) (hW : (rest.map fun v => v.category).sum ≤ 8) (hdg : decode cc pc = .ok (.invokestatic index, 3)) (hf : cells ≤ R.cells ∧ slots ≤ R.slots)
    (kk : W p l e R s m args below meth c H locs cells slots Q (F0 m (pc + 3) ls (.int r :: rest))) : W p l e R s m args below meth c H locs cells slots Q (F0 m pc ls st0) :=
  vp_callSi (W.runS S hM cw ⟨bl1 fun U g mk a q => ⟨q.1, q.2.call⟩, fun U hU hW => ⟨rfl, by rw [hU]; exact hP, hG.warm hW⟩⟩ rfl hn hsize hst (lv_room hW) hdg hf) (fun z hz => by rw [hz]; exact kk)
theorem pcSl {r : Int64} (hM : Met l y wsc rm (va_Pc As (fun U => va_P D vwCl wc U.heap ∧ gK D cy U)) (vp_Sl (fun z => z = r)) 0 0 (fun _ => False)) (S : CallFix p m c cc nL s args Ts own) (cw : CallB R s args own index y bytes maxL ret wsc rm 0 0 n ∧ (Cond.static y).before args s = true)
    (hG : gK D cy s) (hP : va_P D vwCl wc H) (hn : As.length = n) (hsize : ls.size = nL) (hst : st0 = As.reverse ++ rest) (hW : (rest.map fun v => v.category).sum ≤ 8) (hdg : decode cc pc = .ok (.invokestatic index, 3)) (hf : cells ≤ R.cells ∧ slots ≤ R.slots)
    (kk : W p l e R s m args below meth c H locs cells slots Q (F0 m (pc + 3) ls (.long r :: rest))) : W p l e R s m args below meth c H locs cells slots Q (F0 m pc ls st0) :=
  vp_callSl (W.runS S hM cw ⟨bl1 fun U g mk a q => ⟨q.1, q.2.call⟩, fun U hU hW => ⟨rfl, by rw [hU]; exact hP, hG.warm hW⟩⟩ rfl hn hsize hst (lv_room hW) hdg hf) (fun z hz => by rw [hz]; exact kk)
/-- what a method that writes starts from: its world, known -/
abbrev mP (D : va_G) (cy : Nat → ClassId) (sz : Nat) (av : List Value) (w0 : va_W) : Array Value → State → Prop := va_Pc av (fun U => U.heap.size = sz ∧ va_P D vwCl w0 U.heap ∧ gK D cy U ∧ va_D (fun _ => True) w0)
abbrev mB (D : va_G) (sz : Nat) (w0 w1 : va_W) (t : State) : Prop := va_P D vwCl w1 t.heap ∧ va_D (va_A w0 sz) w1
variable {A0 : Nat → Prop} {H0 : Heap} {wr : va_W}
/-- a call that writes the cells that it is handed: its answer and its world behind it are known -/
theorem mcVi {S : Type} {wf : S → va_W} {rs : Int32 × S} {q0 ci : Nat} {q : vw_C} {fs : List Value} (hM : Met l y wsc rm (mP D cy H.size (.ref b :: As) wc) (va_Qi (fun r (u : S) => (r, u) = rs) (fun u t => mB D H.size wc (wf u) t) (va_A wc H.size)) 0 0 (va_A wc H.size)) (S : CallFix p m c cc nL s args Ts own) (cw : CallW R s args own q.1 index y bytes maxL ret wsc rm 0 0 n)
    (hG : gK D cy s) (hP : va_P D vwCl ws H) (hD : va_D A0 ws) (hS : va_S A0 H0 H locs) (hA : ∀ q, H0.size ≤ q → A0 q) (isC isR : List Nat) (hC : isC.map (fun i => ws[i]?) = wc.map some) (hR : isR.map (fun i => ws[i]?) = wr.map some) (hnC : va_nd isC = true) (hnR : va_nd isR = true) (hdis : ∀ i ∈ isR, i ∉ isC)
    (he : wc[q0]? = some (b, .inr (ci, fs))) (hc : vwCl[ci]? = some q) (hn : As.length = n) (hsize : ls.size = nL) (hst : st0 = As.reverse ++ .ref b :: rest) (hW : (rest.map fun v => v.category).sum ≤ 8) (hdg : decode cc pc = .ok (.invokevirtual index, 3)) (hf : cells ≤ R.cells ∧ slots ≤ R.slots)
    (kk : ∀ (H1 : Heap) (locs1 : List Loc), va_P D vwCl (wr ++ wf rs.2) H1 → va_D A0 (wr ++ wf rs.2) → va_S A0 H0 H1 locs1 → W p l e R s m args below meth c H1 locs1 cells slots Q (F0 m (pc + 3) ls (.int rs.1 :: rest))) : W p l e R s m args below meth c H locs cells slots Q (F0 m pc ls st0) := by
  have hDc : va_D A0 wc := hD.sub isC hnC hC
  have hPc : va_P D vwCl wc H := P_of_map hP hC
  have hFc := va_free (wc := wc) hD hS hA isC hC
  refine va_calli (va_runV S hM cw ⟨bl1 fun U g mk a q => ⟨q.1, q.2.1, q.2.2.1.call, q.2.2.2⟩, va_recv hG.1 hPc hc he, fun U hU hW => ⟨rfl, by rw [hU], by rw [hU]; exact hPc, hG.warm hW, hDc.weaken (fun _ _ _ _ => trivial)⟩⟩ rfl hn hsize hst (lv_room hW) hdg hf) hS (fun q _ h => hFc q h) hFc (fun r u t H1 locs ht hvm hw hB hz1 hk1 hS => ?_)
  subst hw
  obtain ⟨hP1, hD1⟩ := hB
  rw [ht] at hP1
  obtain ⟨hP, hD⟩ := va_join (wr := wr) (w1 := wf u) hP hD isC isR hC hR hnR hdis hk1 hFc hP1 hD1
  exact kk H1 locs hP hD hS
theorem mcVv {S : Type} {wf : S → va_W} {rs : S} {q0 ci : Nat} {q : vw_C} {fs : List Value} (hM : Met l y wsc rm (mP D cy H.size (.ref b :: As) wc) (va_Qv (fun (u : S) => u = rs) (fun u t => mB D H.size wc (wf u) t) (va_A wc H.size)) 0 0 (va_A wc H.size)) (S : CallFix p m c cc nL s args Ts own) (cw : CallW R s args own q.1 index y bytes maxL ret wsc rm 0 0 n)
    (hG : gK D cy s) (hP : va_P D vwCl ws H) (hD : va_D A0 ws) (hS : va_S A0 H0 H locs) (hA : ∀ q, H0.size ≤ q → A0 q) (isC isR : List Nat) (hC : isC.map (fun i => ws[i]?) = wc.map some) (hR : isR.map (fun i => ws[i]?) = wr.map some) (hnC : va_nd isC = true) (hnR : va_nd isR = true) (hdis : ∀ i ∈ isR, i ∉ isC)
    (he : wc[q0]? = some (b, .inr (ci, fs))) (hc : vwCl[ci]? = some q) (hn : As.length = n) (hsize : ls.size = nL) (hst : st0 = As.reverse ++ .ref b :: rest) (hW : (rest.map fun v => v.category).sum ≤ 8) (hdg : decode cc pc = .ok (.invokevirtual index, 3)) (hf : cells ≤ R.cells ∧ slots ≤ R.slots)
    (kk : ∀ (H1 : Heap) (locs1 : List Loc), va_P D vwCl (wr ++ wf rs) H1 → va_D A0 (wr ++ wf rs) → va_S A0 H0 H1 locs1 → W p l e R s m args below meth c H1 locs1 cells slots Q (F0 m (pc + 3) ls rest)) : W p l e R s m args below meth c H locs cells slots Q (F0 m pc ls st0) := by
  have hDc : va_D A0 wc := hD.sub isC hnC hC
  have hPc : va_P D vwCl wc H := P_of_map hP hC
  have hFc := va_free (wc := wc) hD hS hA isC hC
  refine va_callv (va_runV S hM cw ⟨bl1 fun U g mk a q => ⟨q.1, q.2.1, q.2.2.1.call, q.2.2.2⟩, va_recv hG.1 hPc hc he, fun U hU hW => ⟨rfl, by rw [hU], by rw [hU]; exact hPc, hG.warm hW, hDc.weaken (fun _ _ _ _ => trivial)⟩⟩ rfl hn hsize hst (lv_room hW) hdg hf) hS (fun q _ h => hFc q h) hFc (fun u t H1 locs ht hvm hw hB hz1 hk1 hS => ?_)
  subst hw
  obtain ⟨hP1, hD1⟩ := hB
  rw [ht] at hP1
  obtain ⟨hP, hD⟩ := va_join (wr := wr) (w1 := wf u) hP hD isC isR hC hR hnR hdis hk1 hFc hP1 hD1
  exact kk H1 locs hP hD hS
end MYC
section MYR
variable {p : Program} {l : Launch} {e : Env} {R : Room} {s : State} {m : MethodId} {args : Array Value} {below : List Frame} {meth : Method} {c : Code} {H : Heap} {locs : List Loc} {cells slots : Nat} {Q : State → Prop}
variable {cc : ByteArray} {pc : Nat} {ls : Array Slot} {rest : List Value} {D : va_G} {cl : List vw_C} {A : Nat → Prop} {a : Nat} {tys : List (ClassId × FieldType)} {ws ws' : va_W} {H0 : Heap}
/-- iaload, the value by its name -/
theorem r_ald (hexec : p.tables.exec = Jvm.exec) (hb : c.code = cc) (hK : va_K D cl tys s) (hP : va_P D cl ws H) (q0 t0 : Nat) {cA : ClassId} {n : Nat} {f : Nat → Int32} {v : Int32} (ha : ws[q0]? = some (a, .inl (cA, n, .inl f))) (ht : tys[t0]? = some (cA, .int)) {i : Int32} (hin : vp_in i n) (hv : f i.toNatClampNeg = v) (hdg : decode cc pc = .ok (.iaload, 1))
    (kk : W p l e R s m args below meth c H locs cells slots Q (F0 m (pc + 1) ls (.int v :: rest))) : W p l e R s m args below meth c H locs cells slots Q (F0 m pc ls (.int i :: .ref a :: rest)) := by
  subst hv
  exact va_iald hexec hb hK hP q0 t0 ha ht hin hdg kk
/-- iastore, the world behind it by its name -/
theorem r_ast (hexec : p.tables.exec = Jvm.exec) (hb : c.code = cc) (hK : va_K D cl tys s) (hP : va_P D cl ws H) (hD : va_D A ws) (hS : va_S A H0 H locs) (q0 t0 : Nat) {cA : ClassId} {n : Nat} {f f' : Nat → Int32} (ha : ws[q0]? = some (a, .inl (cA, n, .inl f))) (ht : tys[t0]? = some (cA, .int)) {i : Int32} {x : Int32} (hin : vp_in i n) (hf : upd f i.toNatClampNeg x = f') (hw : ws.set q0 (a, .inl (cA, n, .inl f')) = ws') (hdg : decode cc pc = .ok (.iastore, 1))
    (kk : ∀ (H1 : Heap) (locs1 : List Loc), va_P D cl ws' H1 → va_D A ws' → va_S A H0 H1 locs1 → W p l e R s m args below meth c H1 locs1 cells slots Q (F0 m (pc + 1) ls rest)) : W p l e R s m args below meth c H locs cells slots Q (F0 m pc ls (.int x :: .int i :: .ref a :: rest)) := by
  subst hf
  subst hw
  exact va_iast hexec hb hK hP hD hS q0 t0 ha ht hin hdg kk
theorem updc {f : Nat → Int32} {i : Int32} {k : Nat} {x : Int32} (h : i.toNatClampNeg = k) : upd f i.toNatClampNeg x = upd f k x := by rw [h]
end MYR
