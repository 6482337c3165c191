section RT
variable {p : Program} {l : Launch} {e : Env} {R : Room} {s : State} {m : MethodId} {args : Array Value} {below : List Frame} {meth : Method} {c : Code} {H : Heap} {locs : List Loc} {cells slots : Nat} {Q : State → Prop}
variable {rest st0 : List Value} {pc : Nat} {ls : Array Slot} {D : va_G} {cy : Nat → ClassId} {A0 : Nat → Prop} {ws ws' Re : va_W}
/-- a call of copyRow out of a static array -/
theorem smRT {t b N : Nat} {f g : Nat → Int32} (run : PreS s H (va_Pc [.ref t, .ref b] (fun U => U.heap.size = H.size ∧ va_P D vwCl [(b, .inl (cy 0, N, .inl g))] U.heap ∧ gK D cy U ∧ va_D (fun _ => True) [(b, .inl (cy 0, N, .inl g))] ∧ va_T .int t N (fun j => .int (f j)) (va_A [(b, .inl (cy 0, N, .inl g))] H.size) U U.heap)) [.ref t, .ref b] → va_Run p l e R s m args below meth c H locs cells slots 0 0 (F0 m pc ls st0) rest (va_Qv (fun (_ : Unit) => True) (fun _ t => mB D H.size [(b, .inl (cy 0, N, .inl g))] [(b, .inl (cy 0, N, .inl f))] t) (va_A [(b, .inl (cy 0, N, .inl g))] H.size) ([.ref t, .ref b] : List Value).toArray) (va_A [(b, .inl (cy 0, N, .inl g))] H.size))
    (hG : gK D cy s) (hT : va_T .int t N (fun j => .int (f j)) A0 s s.heap) (hP : va_P D vwCl ws H) (hD : va_D A0 ws) (hS : va_S A0 s.heap H locs) (hA : ∀ q, s.heap.size ≤ q → A0 q) (hp : ws.Perm ([(b, .inl (cy 0, N, .inl g))] ++ Re)) (hp' : ws'.Perm ([(b, .inl (cy 0, N, .inl f))] ++ Re))
    (kk : ∀ (H1 : Heap) (locs1 : List Loc), va_P D vwCl ws' H1 → va_D A0 ws' → va_S A0 s.heap H1 locs1 → W p l e R s m args below meth c H1 locs1 cells slots Q (F0 m (pc + 3) ls rest)) : W p l e R s m args below meth c H locs cells slots Q (F0 m pc ls st0) := by
  have hDc := cutD hD hp
  have hPc := cutP hP hp
  have hFc := cutF hD hp hS hA
  refine va_callv (run ⟨bl1 fun U g mk a q => ⟨q.1, q.2.1, q.2.2.1.call, q.2.2.2.1, q.2.2.2.2.moved (u := U) (U := U.calling g mk a) (Vm.Alike.refl U.vm)⟩, fun U hU hW => ⟨rfl, by rw [hU], by rw [hU]; exact hPc, hG.warm hW, hDc.weaken (fun _ _ _ _ => trivial), by rw [hU]; exact ((hT.kept hS.2.1).moved hW.alike).narrow hFc⟩⟩) hS (fun q _ h => hFc q h) hFc (fun u t H1 locs ht hvm hw hB1 hz1 hk1 hS => ?_)
  obtain ⟨hP1, hD1⟩ := hB1
  rw [ht] at hP1
  obtain ⟨hP, hD⟩ := cutJ hP hD hp hp' hk1 hFc hP1 hD1
  exact kk H1 locs hP hD hS
end RT
