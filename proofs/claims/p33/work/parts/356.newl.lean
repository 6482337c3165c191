section CT
variable {p : Program} {l : Launch} {e : Env} {R : Room} {s : State} {m : MethodId} {args : Array Value} {below : List Frame} {meth : Method} {c : Code} {H : Heap} {locs : List Loc} {cells slots : Nat} {Q : State → Prop}
variable {cc : ByteArray} {pc : Nat} {ls : Array Slot} {D : va_G} {cy : Nat → ClassId} {A : Nat → Prop}
/-- the whole of a static array of ints into an array of the world -/
theorem va_copyt {t b N : Nat} {f g : Nat → Int32} (hexec : p.tables.exec = Jvm.exec) (hb : c.code = cc) (hml : c.maxLocals = ls.size) {own : String} {index : Nat} (hown : s.vm.findClass own = some m.cls) (hlink : (Cond.methodLink own index arraycopyName).before args s = true) (hnat : (Cond.native arraycopyName).before args s = true) (hstat : (Cond.static arraycopyName).before args s = true) (hini : (Cond.initialized "java/lang/System").before args s = true)
    (hK : va_K D vwCl (TY cy) s) (hP : va_P D vwCl [(b, .inl (cy 0, N, .inl g))] H) (hD : va_D A [(b, .inl (cy 0, N, .inl g))]) (hS : va_S A s.heap H locs) (hT : va_T .int t N (fun j => .int (f j)) A s s.heap) (hN : N < 2 ^ 31)
    (hframes : 1 ≤ R.frames) (hlocals : nativeFrameWords "java/lang/System" "arraycopy" 5 + 11 ≤ R.locals) (hdg : decode cc pc = .ok (.invokestatic index, 3))
    (kk : ∀ (H1 : Heap) (locs1 : List Loc), va_P D vwCl [(b, .inl (cy 0, N, .inl f))] H1 → va_D A [(b, .inl (cy 0, N, .inl f))] → va_S A s.heap H1 locs1 → W p l e R s m args below meth c H1 locs1 cells slots Q (F0 m (pc + 3) ls [])) : W p l e R s m args below meth c H locs cells slots Q (F0 m pc ls [.int (nI N), .int (nI 0), .ref b, .int (nI 0), .ref t]) := by
  have h0 : (nI 0).toNatClampNeg = 0 := nI_clamp (by decide)
  have hn := nI_clamp hN
  have z0 : (nI 0).toInt = 0 := by decide
  have zn : (nI N).toInt = (N : Int) := by
    have h1 : (0 : Int) ≤ (nI N).toInt := by
      have := Int32.not_lt.mp (nI_pos hN)
      simpa using Int32.le_iff_toInt_le.mp this
    have h2 : (nI N).toInt.toNat = N := hn
    omega
  intro T hT0 X
  obtain ⟨scr, s1, ⟨s2, k0, hk0, cm0, hkk0⟩, s3, s4, s5, s6, s7⟩ := hT
  have hlt : t < s.heap.size := (Array.getElem?_eq_some_iff.mp s1).1
  have hc0 : T.heap[t]? = some scr := by rw [hT0, hS.2.1 t hlt s7]; exact s1
  have hcb : H[b]? = some (vp_cell (cy 0) (N, .inl g)) := hP 0 _ rfl
  obtain ⟨-, k1, hk1, cm1, hkk1⟩ := (hK.2 0 _ rfl).1 N (fun j => .int (g j))
  have rd : ∀ i : Nat, i < N → scr.slots.getD i .null = .int (f i) := fun i hi => by
    rw [Array.getD_eq_getD_getElem?, s6 i hi]
    rfl
  obtain ⟨vm', X', step⟩ := X.arraycopy hexec hown hlink hnat hstat hini (src := t) (dst := b) (cs := scr) (cd := vp_cell (cy 0) (N, .inl g)) (srcPos := nI 0) (destPos := nI 0) (n := nI N) hc0 (by rw [hT0]; exact hcb)
    s2 (fun _ h => by cases h) s3 (fun h => by cases h) hk0 hk1 hkk0 hkk1 (by simp [refKind]) (by decide) (by decide) (nI_pos hN)
    (by rw [z0, zn]; omega)
    (by rw [z0, zn]; show ¬ _ > ((arrV (cy 0) N (fun j => .int (g j))).slots.size : Int); rw [arrV_size]; omega)
    (fun vm₁ _ i hi => by
      rw [hn] at hi
      rw [h0, Nat.zero_add, rd i hi]
      exact ⟨rfl, trivial⟩)
    (g := F0 m pc ls [.int (nI N), .int (nI 0), .ref b, .int (nI 0), .ref t]) rfl (by rw [hml]) (rest := []) rfl (by rw [hb]; exact hdg) hframes (by show 2 * 0 + 0 + _ ≤ _; omega)
  have e1 : copied scr (vp_cell (cy 0) (N, .inl g)) (nI 0) (nI 0) (nI N) = vp_cell (cy 0) (N, .inl (va_cpy f g (nI 0).toNatClampNeg (nI 0).toNatClampNeg (nI N).toNatClampNeg)) := va_copiedX (fun z => .int z) scr (cy 0) f g s6 (by rw [h0, hn]; omega)
  have e2 : vp_cell (cy 0) (N, .inl (va_cpy f g (nI 0).toNatClampNeg (nI 0).toNatClampNeg (nI N).toNatClampNeg)) = vp_cell (cy 0) (N, .inl f) := by
    rw [h0, hn]
    exact (cell_eq (f := f) (g := va_cpy f g 0 0 N) (fun k hk => by rw [pk_cpy_in (Nat.zero_le _) (by omega)]; simp)).symm
  rw [e1, e2] at X' step
  have hl : b < H.size := (Array.getElem?_eq_some_iff.mp hcb).1
  have oq : ∀ q : Nat, q ≠ b → (H.setIfInBounds b (vp_cell (cy 0) (N, .inl f)))[q]? = H[q]? := fun q hq => by simp [Array.getElem?_setIfInBounds, Ne.symm hq]
  have hA0 : A b := hD.2 0 _ rfl
  obtain ⟨t2, a1, b1⟩ := kk (H.setIfInBounds b (vp_cell (cy 0) (N, .inl f))) _ (fun k q hq => by
      match k, hq with
      | 0, hq =>
        cases hq
        show (H.setIfInBounds b (vp_cell (cy 0) (N, .inl f)))[b]? = some (vp_cell (cy 0) (N, .inl f))
        simp [Array.getElem?_setIfInBounds, hl]) (D_addr hD rfl) ⟨by simp; exact hS.1, fun q g1 g2 => by
      rw [oq q (fun h => g2 (by rw [h]; exact hA0))]
      exact hS.2.1 q g1 g2, fun q hq => by
      rcases List.mem_append.mp hq with h | h
      · exact hS.2.2 q h
      · obtain ⟨z, -, hz⟩ := List.mem_map.mp h
        rw [← hz]
        exact hA0⟩ _ (by rw [← hT0]; rfl) X'
  exact ⟨t2, step t2 a1, b1⟩
end CT
