set_option maxHeartbeats 4000000 in
set_option maxRecDepth 100000 in
theorem qL_low (l : Launch) (D : va_G) (cy : Nat → ClassId)   (p0 : Int32) (p1 : Int32) (rs : Int32) (h : DL_low p0 p1 = some rs) : Met l yL_low wsL_low ({ frames := 0, cells := 0, slots := 0, locals := 0 } : Room) (va_Pc [.int p0, .int p1] (fun U => va_P D vwCl ([] : va_W) U.heap ∧ gK D cy U)) (vp_Si (fun z => z = rs)) 0 0 (fun _ => False) := by
  refine Met.ofW (cc := cL_low) (maxL := 2) (ret := (some .int)) (by decide) rfl ?_
  intro p e s m args below meth c s₁ B hml hv
  obtain ⟨rfl, hP, hG⟩ := hv
  have hx := B.exec
  have hb := B.bytes
  have hr := B.returns
  have hts := atoms_spec (ws := wsL_low) B.pre
  have hown : s.vm.findClass RL = some m.cls := findClass_of_methodNamed B.named
  have hlocks := B.notSynchronized
  have hK := hG.1
  have hl := lv_entry ([.int p0, .int p1]) (n := 2) (Nat.le_of_ble_eq_true rfl)
  rw [lg_entry_eq]
  generalize (lg_sl ([.int p0, .int p1]) ++ List.replicate (2 - (lg_sl ([.int p0, .int p1])).length) Slot.unset).toArray = ls at hl ⊢
  have hl : lv_has ls 2 [(0, .int p0), (1, .int p1)] := hl
  rw [DL_low] at h
  refine lv_iload_n hx hb dL_low_0 rfl (lv_at hl 0 rfl) ?_
  refine lv_ldc (v := (2147483647 : Int32)) hx hb hown (hts (.constant RL 8 (2147483647 : Int32)) (by decide +kernel)) dL_low_1 ?_
  refine lv_iand hx hb dL_low_3 ?_
  refine lv_iload_n hx hb dL_low_4 rfl (lv_at hl 1 rfl) ?_
  obtain ⟨g1, h⟩ := gz_some h
  refine lv_irem hx hb dL_low_5 g1 ?_
  exact W.iret (v := ((p0 &&& (2147483647 : Int32)) - (p0 &&& (2147483647 : Int32)) / p1 * p1)) hx hb hr (fun t ht hW => ⟨((p0 &&& (2147483647 : Int32)) - (p0 &&& (2147483647 : Int32)) / p1 * p1), rfl, some_in h, ht⟩) (fun q hq => nomatch hq) dL_low_6

theorem qL_cl (l : Launch) (b L : Nat) (xs : Nat → Int32) (hL : L < 2147483648) (c9 : Int32 → Int32) (hc9 : c9 = ceF L xs) (k : Int32) (hk : (0 : Int32) ≤ k) : Met l yL_cell wsL_cell ({ frames := 0, cells := 0, slots := 0, locals := 0 } : Room) (va_Pc [.ref b, .int k] (fun U => va_X b L xs U U.heap)) (vp_Si (fun z => z = c9 k)) 0 0 (fun _ => False) := by
  rw [hc9]
  exact qL_cell l b L xs hL k hk
