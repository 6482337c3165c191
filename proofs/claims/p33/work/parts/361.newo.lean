def RW (i : Nat) (f g : Nat → Int32) : Nat → Nat → Int32 := fun r => if r < i then f else g
/-- the competition while its rules are laid: i rows of the rules, j of the closed scores -/
def cI (i j : Nat) : SX0 := (0, 0, 1, 50, ((0, (fun _ => 0), (fun _ => 0), fun _ => 0) : SX10), ((0, fun _ => 0) : SX2), RW i tab4 (fun _ => 0), ((fun _ => -1) : SX4), ((5, fun _ _ => 0) : SX3), ((0, 0, 0, (fun _ => 0), fun _ => -1) : SX7), sh0, ti0, RW j (fun _ => -1) (fun _ => 0), ((0, 0, 0, 0, 0, fun _ => 0) : SX1))
/-- one cell taken out of a world; one cell of a world written -/
theorem pmE : ∀ {ws : va_W} {x : Nat × va_E} (k : Nat), ws[k]? = some x → ws.Perm ([x] ++ ws.eraseIdx k)
  | [], _, k, h => by simp at h
  | y :: ws, x, 0, h => by
    have h1 : some y = some x := h
    cases h1
    exact List.Perm.refl _
  | y :: ws, x, k + 1, h => by
    have h1 : ws[k]? = some x := h
    exact (List.Perm.cons y (pmE k h1)).trans (List.Perm.swap x y _)
theorem pmS : ∀ {ws : va_W} {x y : Nat × va_E} (k : Nat), ws[k]? = some x → (ws.set k y).Perm ([y] ++ ws.eraseIdx k)
  | [], _, _, k, h => by simp at h
  | z :: ws, x, y, 0, h => List.Perm.refl _
  | z :: ws, x, y, k + 1, h => by
    have h1 : ws[k]? = some x := h
    exact (List.Perm.cons z (pmS k h1)).trans (List.Perm.swap y z _)
theorem rows_cg {cO cI : ClassId} {a : Nat → Nat} {o n k : Nat} {R R' : Nat → Nat → Int32} (h : ∀ i : Nat, i < n → R i = R' i) : rowsW cO cI a o n k R = rowsW cO cI a o n k R' := by
  unfold rowsW
  congr 1
  exact List.map_congr_left fun i hi => by rw [h i (List.mem_range.mp hi)]
section RS
variable {ws ws' X Rest : va_W} {x y : Nat × va_E}
theorem pmRow (i : Nat) (h : X[i]? = some x) (hp : ws.Perm (X ++ Rest)) : ws.Perm ([x] ++ (X.eraseIdx i ++ Rest)) := hp.trans ((pmE i h).append_right Rest)
theorem pmRow' {X' : va_W} (i : Nat) (h : (X[i]?, X') = (some x, X.set i y)) (hp : ws'.Perm (X' ++ Rest)) : ws'.Perm ([y] ++ (X.eraseIdx i ++ Rest)) := by
  have h1 : X[i]? = some x := congrArg Prod.fst h
  have h2 : X' = X.set i y := congrArg Prod.snd h
  rw [h2] at hp
  exact hp.trans ((pmS i h1).append_right Rest)
theorem pmMid (A B C : va_W) : ((A ++ B) ++ C).Perm (B ++ (A ++ C)) := by
  have h := (List.perm_append_comm (l₁ := A) (l₂ := B)).append_right C
  rw [List.append_assoc B A C] at h
  exact h
variable {cy : Nat → ClassId} {u : Nat → Nat} {o : Nat}
theorem sp0 (i j : Nat) : (wX0 cy u o (cI i j)).Perm (hX0 u o (cI i j) ++ (wX10 cy u (o + 1) (gX0_works (cI i j)) ++ wX2 cy u (o + 5) (gX0_entrants (cI i j)) ++ rowsW (cy 2) (cy 0) u (o + 7) 4 6 (gX0_rules (cI i j)) ++ wX4 cy u (o + 12) (gX0_programs (cI i j)) ++ wX3 cy u (o + 14) (gX0_jury (cI i j)) ++ wX7 cy u (o + 23) (gX0_stage (cI i j)) ++ wX6 cy u (o + 26) (gX0_sheet (cI i j)) ++ wX9 cy u (o + 35) (gX0_tie (cI i j)) ++ rowsW (cy 2) (cy 0) u (o + 46) 4 12 (gX0_closedScores (cI i j)) ++ wX1 cy u (o + 51) (gX0_cut (cI i j)))) := List.Perm.of_eq (by unfold wX0; simp only [List.append_assoc])
theorem cI_eq (i j : Nat) : wX0 cy u o (cI i j) = [(u o, .inr (0, [.int 0, .int 0, .int 1, .int 50, .ref (u (o + 1)), .ref (u (o + 5)), .ref (u (o + 7)), .ref (u (o + 12)), .ref (u (o + 14)), .ref (u (o + 23)), .ref (u (o + 26)), .ref (u (o + 35)), .ref (u (o + 46)), .ref (u (o + 51))]))] ++ wX10 cy u (o + 1) ((0, (fun _ => 0), (fun _ => 0), fun _ => 0) : SX10) ++ wX2 cy u (o + 5) ((0, fun _ => 0) : SX2) ++ rowsW (cy 2) (cy 0) u (o + 7) 4 6 (RW i tab4 (fun _ => 0)) ++ wX4 cy u (o + 12) ((fun _ => -1) : SX4) ++ wX3 cy u (o + 14) ((5, fun _ _ => 0) : SX3) ++ wX7 cy u (o + 23) ((0, 0, 0, (fun _ => 0), fun _ => -1) : SX7) ++ wX6 cy u (o + 26) sh0 ++ wX9 cy u (o + 35) ti0 ++ rowsW (cy 2) (cy 0) u (o + 46) 4 12 (RW j (fun _ => -1) (fun _ => 0)) ++ wX1 cy u (o + 51) ((0, 0, 0, 0, 0, fun _ => 0) : SX1) := rfl
theorem sp1 (i j : Nat) : (wX0 cy u o (cI i j)).Perm (rowsW (cy 2) (cy 0) u (o + 7) 4 6 (RW i tab4 (fun _ => 0)) ++ (([(u o, .inr (0, [.int 0, .int 0, .int 1, .int 50, .ref (u (o + 1)), .ref (u (o + 5)), .ref (u (o + 7)), .ref (u (o + 12)), .ref (u (o + 14)), .ref (u (o + 23)), .ref (u (o + 26)), .ref (u (o + 35)), .ref (u (o + 46)), .ref (u (o + 51))]))] ++ wX10 cy u (o + 1) ((0, (fun _ => 0), (fun _ => 0), fun _ => 0) : SX10) ++ wX2 cy u (o + 5) ((0, fun _ => 0) : SX2)) ++ (wX4 cy u (o + 12) ((fun _ => -1) : SX4) ++ wX3 cy u (o + 14) ((5, fun _ _ => 0) : SX3) ++ wX7 cy u (o + 23) ((0, 0, 0, (fun _ => 0), fun _ => -1) : SX7) ++ wX6 cy u (o + 26) sh0 ++ wX9 cy u (o + 35) ti0 ++ rowsW (cy 2) (cy 0) u (o + 46) 4 12 (RW j (fun _ => -1) (fun _ => 0)) ++ wX1 cy u (o + 51) ((0, 0, 0, 0, 0, fun _ => 0) : SX1)))) := by
  have e : wX0 cy u o (cI i j) = (([(u o, .inr (0, [.int 0, .int 0, .int 1, .int 50, .ref (u (o + 1)), .ref (u (o + 5)), .ref (u (o + 7)), .ref (u (o + 12)), .ref (u (o + 14)), .ref (u (o + 23)), .ref (u (o + 26)), .ref (u (o + 35)), .ref (u (o + 46)), .ref (u (o + 51))]))] ++ wX10 cy u (o + 1) ((0, (fun _ => 0), (fun _ => 0), fun _ => 0) : SX10) ++ wX2 cy u (o + 5) ((0, fun _ => 0) : SX2)) ++ rowsW (cy 2) (cy 0) u (o + 7) 4 6 (RW i tab4 (fun _ => 0))) ++ (wX4 cy u (o + 12) ((fun _ => -1) : SX4) ++ wX3 cy u (o + 14) ((5, fun _ _ => 0) : SX3) ++ wX7 cy u (o + 23) ((0, 0, 0, (fun _ => 0), fun _ => -1) : SX7) ++ wX6 cy u (o + 26) sh0 ++ wX9 cy u (o + 35) ti0 ++ rowsW (cy 2) (cy 0) u (o + 46) 4 12 (RW j (fun _ => -1) (fun _ => 0)) ++ wX1 cy u (o + 51) ((0, 0, 0, 0, 0, fun _ => 0) : SX1)) := by rw [cI_eq]; simp only [List.append_assoc]
  rw [e]
  exact pmMid _ _ _
theorem sp2 (i j : Nat) : (wX0 cy u o (cI i j)).Perm (rowsW (cy 2) (cy 0) u (o + 46) 4 12 (RW j (fun _ => -1) (fun _ => 0)) ++ (([(u o, .inr (0, [.int 0, .int 0, .int 1, .int 50, .ref (u (o + 1)), .ref (u (o + 5)), .ref (u (o + 7)), .ref (u (o + 12)), .ref (u (o + 14)), .ref (u (o + 23)), .ref (u (o + 26)), .ref (u (o + 35)), .ref (u (o + 46)), .ref (u (o + 51))]))] ++ wX10 cy u (o + 1) ((0, (fun _ => 0), (fun _ => 0), fun _ => 0) : SX10) ++ wX2 cy u (o + 5) ((0, fun _ => 0) : SX2) ++ rowsW (cy 2) (cy 0) u (o + 7) 4 6 (RW i tab4 (fun _ => 0)) ++ wX4 cy u (o + 12) ((fun _ => -1) : SX4) ++ wX3 cy u (o + 14) ((5, fun _ _ => 0) : SX3) ++ wX7 cy u (o + 23) ((0, 0, 0, (fun _ => 0), fun _ => -1) : SX7) ++ wX6 cy u (o + 26) sh0 ++ wX9 cy u (o + 35) ti0) ++ (wX1 cy u (o + 51) ((0, 0, 0, 0, 0, fun _ => 0) : SX1)))) := by
  have e : wX0 cy u o (cI i j) = (([(u o, .inr (0, [.int 0, .int 0, .int 1, .int 50, .ref (u (o + 1)), .ref (u (o + 5)), .ref (u (o + 7)), .ref (u (o + 12)), .ref (u (o + 14)), .ref (u (o + 23)), .ref (u (o + 26)), .ref (u (o + 35)), .ref (u (o + 46)), .ref (u (o + 51))]))] ++ wX10 cy u (o + 1) ((0, (fun _ => 0), (fun _ => 0), fun _ => 0) : SX10) ++ wX2 cy u (o + 5) ((0, fun _ => 0) : SX2) ++ rowsW (cy 2) (cy 0) u (o + 7) 4 6 (RW i tab4 (fun _ => 0)) ++ wX4 cy u (o + 12) ((fun _ => -1) : SX4) ++ wX3 cy u (o + 14) ((5, fun _ _ => 0) : SX3) ++ wX7 cy u (o + 23) ((0, 0, 0, (fun _ => 0), fun _ => -1) : SX7) ++ wX6 cy u (o + 26) sh0 ++ wX9 cy u (o + 35) ti0) ++ rowsW (cy 2) (cy 0) u (o + 46) 4 12 (RW j (fun _ => -1) (fun _ => 0))) ++ (wX1 cy u (o + 51) ((0, 0, 0, 0, 0, fun _ => 0) : SX1)) := by rw [cI_eq]
  rw [e]
  exact pmMid _ _ _
end RS
theorem cI44 {cy : Nat → ClassId} {u : Nat → Nat} {o : Nat} : wX0 cy u o (cI 4 4) = wX0 cy u o co0 := by
  unfold wX0
  rw [show rowsW (cy 2) (cy 0) u (o + 7) 4 6 (gX0_rules (cI 4 4)) = rowsW (cy 2) (cy 0) u (o + 7) 4 6 (gX0_rules co0) from rows_cg fun i hi => if_pos hi, show rowsW (cy 2) (cy 0) u (o + 46) 4 12 (gX0_closedScores (cI 4 4)) = rowsW (cy 2) (cy 0) u (o + 46) 4 12 (gX0_closedScores co0) from rows_cg fun i hi => if_pos hi]
  rfl
section SC
variable {p : Program} {l : Launch} {e : Env} {R : Room} {s : State} {m : MethodId} {args : Array Value} {below : List Frame} {meth : Method} {c : Code} {H H0 : Heap} {locs : List Loc} {cells slots : Nat} {Q : State → Prop}
variable {rest st0 As : List Value} {pc : Nat} {ls : Array Slot} {D : va_G} {cy : Nat → ClassId} {A0 : Nat → Prop} {ws ws' Re : va_W}
/-- a void call that writes one cell, handed in alone -/
theorem smC1 {b : Nat} {e0 e1 : va_E} (run : PreS s H (mP D cy H.size As [(b, e0)]) As → va_Run p l e R s m args below meth c H locs cells slots 0 0 (F0 m pc ls st0) rest (va_Qv (fun (_ : Unit) => True) (fun _ t => mB D H.size [(b, e0)] [(b, e1)] t) (va_A [(b, e0)] H.size) As.toArray) (va_A [(b, e0)] H.size))
    (hG : gK D cy s) (hP : va_P D vwCl ws H) (hD : va_D A0 ws) (hS : va_S A0 H0 H locs) (hA : ∀ q, H0.size ≤ q → A0 q) (hp : ws.Perm ([(b, e0)] ++ Re)) (hp' : ws'.Perm ([(b, e1)] ++ Re))
    (kk : ∀ (H1 : Heap) (locs1 : List Loc), va_P D vwCl ws' H1 → va_D A0 ws' → va_S A0 H0 H1 locs1 → W p l e R s m args below meth c H1 locs1 cells slots Q (F0 m (pc + 3) ls rest)) : W p l e R s m args below meth c H locs cells slots Q (F0 m pc ls st0) := by
  have hDc := cutD hD hp
  have hPc := cutP hP hp
  have hFc := cutF hD hp hS hA
  refine va_callv (run ⟨bl1 fun U g mk a q => ⟨q.1, q.2.1, q.2.2.1.call, q.2.2.2⟩, fun U hU hW => ⟨rfl, by rw [hU], by rw [hU]; exact hPc, hG.warm hW, hDc.weaken (fun _ _ _ _ => trivial)⟩⟩) hS (fun q _ h => hFc q h) hFc (fun u t H1 locs ht hvm hw hB1 hz1 hk1 hS => ?_)
  obtain ⟨hP1, hD1⟩ := hB1
  rw [ht] at hP1
  obtain ⟨hP, hD⟩ := cutJ hP hD hp hp' hk1 hFc hP1 hD1
  exact kk H1 locs hP hD hS
end SC
