/-- where setProgram throws: the text has been read, or not -/
abbrev xS (D : va_G) (sz : Nat) (cy : Nat → ClassId) (a : Nat → Nat) (o : Nat) (S : SX11) (rs : Nat ⊕ (Int32 × SX11)) : String → State → State → Prop := vx_X (fun (z : Nat × SX11) => Sum.inl z.1 = rs ∧ (z.1 = 1 → z.2 = S)) (fun E z t => E = exN z.1 ∧ mB D sz (wX11 cy a o S) (wX11 cy a o z.2) t) (va_A (wX11 cy a o S) sz)
theorem xThrowS {rs : Nat ⊕ (Int32 × SX11)} {k : Nat} {E : String} {D : va_G} {cy : Nat → ClassId} {a : Nat → Nat} {o : Nat} {S S5 : SX11} {s t : State} {H : Heap} {locs : List Loc} (hE : E = exN k) (h : Sum.inl k = rs) (h5 : k = 1 → S5 = S) (hP : va_P D vwCl (wX11 cy a o S5) H) (hD : va_D (va_A (wX11 cy a o S) s.heap.size) (wX11 cy a o S5)) (hS : va_S (va_A (wX11 cy a o S) s.heap.size) s.heap H locs) (hz : H.size ≤ t.heap.size) (hk : ∀ q : Nat, q < H.size → t.heap[q]? = H[q]?) : xS D s.heap.size cy a o S rs E s t :=
  ⟨(k, S5), ⟨h, h5⟩, ⟨hE, hP.kept (fun i q hq => hk q.1 (hP i q hq).lt), hD⟩, Nat.le_trans hS.1 hz, fun q h1 h2 => (hk q (Nat.lt_of_lt_of_le h1 hS.1)).trans (hS.2.1 q h1 h2)⟩
theorem reqA_2 {v : Int32} {k : Nat} (h : DX11_requireArgument v = some (Sum.inl k)) : k = 2 := by
  unfold DX11_requireArgument at h
  split at h
  · cases h; rfl
  · cases h
