section CG
variable {cy : Nat → ClassId} {a a' : Nat → Nat} {o : Nat}
theorem aW_eq {n : Nat} {f : Nat → Int32} (h : a o = a' o) : aW cy a o n f = aW cy a' o n f := by
  unfold aW
  rw [h]
theorem wX10_eq {S : SX10} (h : ∀ k : Nat, o ≤ k → k < o + 4 → a k = a' k) : wX10 cy a o S = wX10 cy a' o S := by
  unfold wX10 hX10
  rw [h o (by omega) (by omega), h (o + 1) (by omega) (by omega), h (o + 2) (by omega) (by omega), h (o + 3) (by omega) (by omega), aW_eq (o := o + 1) (h (o + 1) (by omega) (by omega)), aW_eq (o := o + 2) (h (o + 2) (by omega) (by omega)), aW_eq (o := o + 3) (h (o + 3) (by omega) (by omega))]
theorem wX2_eq {S : SX2} (h : ∀ k : Nat, o ≤ k → k < o + 2 → a k = a' k) : wX2 cy a o S = wX2 cy a' o S := by
  unfold wX2 hX2
  rw [h o (by omega) (by omega), h (o + 1) (by omega) (by omega), aW_eq (o := o + 1) (h (o + 1) (by omega) (by omega))]
theorem wX4_eq {S : SX4} (h : ∀ k : Nat, o ≤ k → k < o + 2 → a k = a' k) : wX4 cy a o S = wX4 cy a' o S := by
  unfold wX4 hX4
  rw [h o (by omega) (by omega), h (o + 1) (by omega) (by omega), aW_eq (o := o + 1) (h (o + 1) (by omega) (by omega))]
theorem wX1_eq {S : SX1} (h : ∀ k : Nat, o ≤ k → k < o + 2 → a k = a' k) : wX1 cy a o S = wX1 cy a' o S := by
  unfold wX1 hX1
  rw [h o (by omega) (by omega), h (o + 1) (by omega) (by omega), aW_eq (o := o + 1) (h (o + 1) (by omega) (by omega))]
theorem wX7_eq {S : SX7} (h : ∀ k : Nat, o ≤ k → k < o + 3 → a k = a' k) : wX7 cy a o S = wX7 cy a' o S := by
  unfold wX7 hX7
  rw [h o (by omega) (by omega), h (o + 1) (by omega) (by omega), h (o + 2) (by omega) (by omega), aW_eq (o := o + 1) (h (o + 1) (by omega) (by omega)), aW_eq (o := o + 2) (h (o + 2) (by omega) (by omega))]
theorem wX8_eq {S : SX8} (h : ∀ k : Nat, o ≤ k → k < o + 4 → a k = a' k) : wX8 cy a o S = wX8 cy a' o S := by
  unfold wX8 hX8
  rw [h o (by omega) (by omega), h (o + 1) (by omega) (by omega), h (o + 2) (by omega) (by omega), h (o + 3) (by omega) (by omega), aW_eq (o := o + 1) (h (o + 1) (by omega) (by omega)), aW_eq (o := o + 2) (h (o + 2) (by omega) (by omega)), aW_eq (o := o + 3) (h (o + 3) (by omega) (by omega))]
theorem rowsW_eq {n k : Nat} {R : Nat → Nat → Int32} (h : ∀ j : Nat, o ≤ j → j < o + 1 + n → a j = a' j) : rowsW (cy 2) (cy 0) a o n k R = rowsW (cy 2) (cy 0) a' o n k R := rows_eq (h o (by omega) (by omega)) fun i hi => h (o + 1 + i) (by omega) (by omega)
theorem wX3_eq {S : SX3} (h : ∀ k : Nat, o ≤ k → k < o + 9 → a k = a' k) : wX3 cy a o S = wX3 cy a' o S := by
  unfold wX3 hX3
  rw [h o (by omega) (by omega), h (o + 1) (by omega) (by omega), rowsW_eq (o := o + 1) (fun k h1 h2 => h k (by omega) (by omega))]
theorem wX9_eq {S : SX9} (h : ∀ k : Nat, o ≤ k → k < o + 11 → a k = a' k) : wX9 cy a o S = wX9 cy a' o S := by
  unfold wX9 hX9
  rw [h o (by omega) (by omega), h (o + 1) (by omega) (by omega), h (o + 2) (by omega) (by omega), aW_eq (o := o + 1) (h (o + 1) (by omega) (by omega)), wX6_eq (o := o + 2) (fun k h1 h2 => h k (by omega) (by omega))]
theorem wX0_eq {S : SX0} (h : ∀ k : Nat, o ≤ k → k < o + 53 → a k = a' k) : wX0 cy a o S = wX0 cy a' o S := by
  unfold wX0 hX0
  rw [h o (by omega) (by omega), h (o + 1) (by omega) (by omega), h (o + 5) (by omega) (by omega), h (o + 7) (by omega) (by omega), h (o + 12) (by omega) (by omega), h (o + 14) (by omega) (by omega), h (o + 23) (by omega) (by omega), h (o + 26) (by omega) (by omega), h (o + 35) (by omega) (by omega), h (o + 46) (by omega) (by omega), h (o + 51) (by omega) (by omega),
    wX10_eq (o := o + 1) (fun k h1 h2 => h k (by omega) (by omega)), wX2_eq (o := o + 5) (fun k h1 h2 => h k (by omega) (by omega)), rowsW_eq (o := o + 7) (fun k h1 h2 => h k (by omega) (by omega)), wX4_eq (o := o + 12) (fun k h1 h2 => h k (by omega) (by omega)), wX3_eq (o := o + 14) (fun k h1 h2 => h k (by omega) (by omega)), wX7_eq (o := o + 23) (fun k h1 h2 => h k (by omega) (by omega)), wX6_eq (o := o + 26) (fun k h1 h2 => h k (by omega) (by omega)), wX9_eq (o := o + 35) (fun k h1 h2 => h k (by omega) (by omega)), rowsW_eq (o := o + 46) (fun k h1 h2 => h k (by omega) (by omega)), wX1_eq (o := o + 51) (fun k h1 h2 => h k (by omega) (by omega))]
end CG
section SM
variable {p : Program} {l : Launch} {e : Env} {R : Room} {s : State} {m : MethodId} {args : Array Value} {below : List Frame} {meth : Method} {c : Code} {H H0 : Heap} {locs : List Loc} {cells slots : Nat} {Q : State → Prop}
variable {rest st0 : List Value} {pc : Nat} {ls : Array Slot} {D : va_G} {cy : Nat → ClassId} {A0 : Nat → Prop} {ws : va_W} {mc ms : Nat}
/-- the same, of a constructor that asks nothing of arrays of references -/
theorem smM {wf : (Nat → Nat) → va_W} {q oc ci : Nat} {fs : List Value} (run : PreS s H (mP D cy H.size [.ref q] [(q, .inr (ci, fs))]) [.ref q] → va_Run p l e R s m args below meth c H locs cells slots mc ms (F0 m pc ls st0) rest (va_Qv (fun (u : Nat → Nat) => u oc = q) (fun u t => mB D H.size [(q, .inr (ci, fs))] (wf u) t) (va_A [(q, .inr (ci, fs))] H.size) ([.ref q] : List Value).toArray) (va_A [(q, .inr (ci, fs))] H.size))
    (hG : gK D cy s) (hP : va_P D vwCl (ws ++ [(q, .inr (ci, fs))]) H) (hD : va_D A0 (ws ++ [(q, .inr (ci, fs))])) (hS : va_S A0 H0 H locs) (hA : ∀ q, H0.size ≤ q → A0 q)
    (kk : ∀ (u : Nat → Nat) (H1 : Heap) (locs1 : List Loc), u oc = q → va_P D vwCl (ws ++ wf u) H1 → va_D A0 (ws ++ wf u) → va_S A0 H0 H1 locs1 → W p l e R s m args below meth c H1 locs1 (cells + mc) (slots + ms) Q (F0 m (pc + 3) ls rest)) : W p l e R s m args below meth c H locs cells slots Q (F0 m pc ls st0) := by
  have hp : (ws ++ [(q, (.inr (ci, fs) : va_E))]).Perm ([(q, .inr (ci, fs))] ++ ws) := List.perm_append_comm
  have hDc := cutD hD hp
  have hPc := cutP hP hp
  have hFc := cutF hD hp hS hA
  refine va_callv (run ⟨bl1 fun U g mk a q => ⟨q.1, q.2.1, q.2.2.1.call, q.2.2.2⟩, fun U hU hW => ⟨rfl, by rw [hU], by rw [hU]; exact hPc, hG.warm hW, hDc.weaken (fun _ _ _ _ => trivial)⟩⟩) hS (fun q _ h => hFc q h) hFc (fun u t H1 locs ht hvm hw hB1 hz1 hk1 hS => ?_)
  obtain ⟨hP1, hD1⟩ := hB1
  rw [ht] at hP1
  obtain ⟨hP, hD⟩ := cutJ hP hD hp (List.perm_append_comm (l₁ := ws) (l₂ := wf u)) hk1 hFc hP1 hD1
  exact kk u H1 locs hw hP hD hS
end SM
