set_option maxHeartbeats 4000000 in
set_option maxRecDepth 100000 in
/-- YOUR PART: from the entry, for every script of at most 2048 ints, the law comes to its end with true ('hflags': the launch's flags, for a law that throws: no stack traces) -/
theorem whole_start {p : Program} {e : Env} {s : State} {m : MethodId} {below : List Frame} {meth : Method} {c : Code} (l : Launch) (hflags : l.flags = flags0) {b L : Nat} {xs : Nat → Int32} (hL : L ≤ 2048) (C0 : lw_At p s m meth c b L xs) : W p l e room_1 s m #[Value.ref b] below meth c s.heap [] 0 0 (lw_Z below #[Value.ref b] s) (entryFrame m ([Value.ref b] : List Value).toArray 7) := by
  obtain ⟨hx, hb, hr, hml, hown, hts, hX, hbl, hlocks, hgv⟩ := id C0
  have hb : c.code = cL_law := hb
  have hown : s.vm.findClass RL = some m.cls := hown
  have hA : ∀ q : Nat, s.heap.size ≤ q → (fun q : Nat => s.heap.size ≤ q) q := fun _ h => h
  have hgf := flat_of_before _ hgv
  obtain ⟨D, cy, hG⟩ := k_K hts
  obtain ⟨tt, hGX⟩ := k_gX hts hgf
  have hN := k_gN hgf
  have hO := k_gO hts
  have hT := hGX.2.2.2.2.2.2
  have htw : ∀ w ∈ wsL_law, w.before #[Value.ref b] s = true := fun w h => hts w (wsL_law_in w h)
  have hl9 : l.stackTraces = false := by
    show (!l.flags.contains noTraceFlag) = false
    rw [hflags]
    decide +kernel
  have hC : lX p l s m c b L xs D cy tt := ⟨hx, hb, hml, hown, htw, hX, hbl, hl9, hG, hGX, hN⟩
  have hK := hG.1
  have hS : va_S (fun q : Nat => s.heap.size ≤ q) s.heap s.heap [] := va_S.rf
  have hP : va_P D vwCl [] s.heap := fun k q h => by simp at h
  have hD : va_D (fun q : Nat => s.heap.size ≤ q) [] := ⟨fun i j p q h => by simp at h, fun k q h => by simp at h⟩
  have hl := lv_entry ([.ref b]) (n := 7) (Nat.le_of_ble_eq_true rfl)
  rw [lg_entry_eq]
  generalize (lg_sl ([.ref b]) ++ List.replicate (7 - (lg_sl ([.ref b])).length) Slot.unset).toArray = ls at hl ⊢
  have hl : lv_has ls 7 [(0, .ref b)] := hl
  obtain ⟨rs, hrs, hGG⟩ := start_GG
  refine va_new (ci := 11) (fs := [.null, .null, .null]) (C := RX11) (T := TX11) (N := 3) hx hb htw inlX11 tyX11 tyX11_ok hown (hts _ tc_11) (hts _ tn_11) (hts _ ti_P) hK hP hD hS hA rfl (fun j hj => by rcases (show j = 0 ∨ j = 1 ∨ j = 2 by omega) with rfl | rfl | rfl <;> rfl) (Nat.le_of_ble_eq_true rfl) (Nat.le_of_ble_eq_true rfl) dL_law_0 (fun q0 H hP hD hS => ?_)
  refine lv_dup hx hb dL_law_3 rfl ?_
  refine smR (oc := 0) (wf := fun u => wX11 cy u 0 to0) (mc := 271) (ms := 3734) (fun hp => va_runI (As := []) (rest := [.ref q0]) ⟨hx, hb, hml, hown, htw⟩ (qX11_init l D cy tt 0 q0 H.size) (cwI 0 htw gL_law_X11_init rfl rfl rfl (hts _ ti_P) (hts _ tm_11) (hts _ to_11) rfl (by decide +kernel) ⟨Nat.le_of_ble_eq_true rfl, Nat.le_of_ble_eq_true rfl⟩) hp rfl rfl hl.1 rfl (lv_room (Nat.le_of_ble_eq_true rfl)) dL_law_4 ⟨Nat.le_of_ble_eq_true rfl, Nat.le_of_ble_eq_true rfl⟩) hG hO hT hP hD hS hA (fun a H locs ea hP hD hS => ?_)
  rw [← ea]
  refine lv_astore_n (lv' := [(1, .ref (a 0)), (0, .ref b)]) hx hb dL_law_7 rfl hl (by decide) rfl (fun ls hl => ?_)
  refine va_new (ci := 12) (fs := [.null, .null, .int 0, .null, .int 0, .int 0, .null, .null, .null, .int 0, .int 0, .long 0]) (C := RX12) (T := TX12) (N := 12) hx hb htw inlX12 tyX12 tyX12_ok hown (hts _ tc_12) (hts _ tn_12) (hts _ ti_M) hK hP hD hS hA rfl (fun j hj => by rcases (show j = 0 ∨ j = 1 ∨ j = 2 ∨ j = 3 ∨ j = 4 ∨ j = 5 ∨ j = 6 ∨ j = 7 ∨ j = 8 ∨ j = 9 ∨ j = 10 ∨ j = 11 by omega) with rfl | rfl | rfl | rfl | rfl | rfl | rfl | rfl | rfl | rfl | rfl | rfl <;> rfl) (Nat.le_of_ble_eq_true rfl) (Nat.le_of_ble_eq_true rfl) dL_law_8 (fun q1 H hP hD hS => ?_)
  refine lv_dup hx hb dL_law_11 rfl ?_
  refine smM (oc := 0) (wf := fun u => wX12 cy u 0 rs) (mc := 6) (ms := 3629) (fun hp => va_runI (As := []) (rest := [.ref q1]) ⟨hx, hb, hml, hown, htw⟩ (qX12_init l D cy 0 q1 H.size rs hrs) (cwI 0 htw gL_law_X12_init rfl rfl rfl (hts _ ti_M) (hts _ tm_12) (hts _ to_12) rfl (by decide +kernel) ⟨Nat.le_of_ble_eq_true rfl, Nat.le_of_ble_eq_true rfl⟩) hp rfl rfl hl.1 rfl (lv_room (Nat.le_of_ble_eq_true rfl)) dL_law_12 ⟨Nat.le_of_ble_eq_true rfl, Nat.le_of_ble_eq_true rfl⟩) hG hP hD hS hA (fun a' H locs ea hP hD hS => ?_)
  rw [← ea]
  refine lv_astore_n (lv' := [(2, .ref (a' 0)), (1, .ref (a 0)), (0, .ref b)]) hx hb dL_law_15 rfl hl (by decide) rfl (fun ls hl => ?_)
  refine lv_iconst (v := (1 : Int32)) hx hb dL_law_16 (by decide) ?_
  refine va_newa (atype := .long) (ty := .long) (a0 := (1, .inr (.inl (fun _ => 0)))) (N' := 1) hx hb (hts _ ta_long) rfl hK hP hD hS hA (fun cA => rfl) (by decide) (by decide) (by decide) (Nat.le_of_ble_eq_true rfl) (Nat.le_of_ble_eq_true rfl) dL_law_17 (fun bo cA H hK1 hP hD hS => ?_)
  have h0 : s.vm.findClass ("[" ++ FieldType.long.toString) = some (cy 3) := (hK.2 3 _ rfl).2
  have h1 : s.vm.findClass ("[" ++ FieldType.long.toString) = some cA := (hK1.2 4 _ rfl).2
  have e1 : cA = cy 3 := Option.some.inj (h1.symm.trans h0)
  subst e1
  refine lv_astore_n (lv' := [(3, .ref bo), (2, .ref (a' 0)), (1, .ref (a 0)), (0, .ref b)]) hx hb dL_law_19 rfl hl (by decide) rfl (fun ls hl => ?_)
  refine lv_iconst (v := nI (4 * 0)) hx hb dL_law_20 (by decide) ?_
  refine lv_istore (lv' := [(4, .int (nI (4 * 0))), (3, .ref bo), (2, .ref (a' 0)), (1, .ref (a 0)), (0, .ref b)]) hx hb dL_law_21 hl (by decide) rfl (fun ls hl => ?_)
  have hp : ((([] ++ wX11 cy a 0 to0) ++ wX12 cy a' 0 rs) ++ [(bo, (.inl (cy 3, (1, .inr (.inl (fun _ => 0)))) : va_E))]).Perm (oC cy bo (fun _ => 0) :: (wX11 cy a 0 to0 ++ wX12 cy a' 0 rs)) := List.perm_append_comm (l₁ := wX11 cy a 0 to0 ++ wX12 cy a' 0 rs) (l₂ := [oC cy bo (fun _ => 0)])
  have hP2 := P_mem hP (fun q hq => hp.mem_iff.mpr hq)
  have hD2 := D_perm hD hp
  refine W.widen (k := 400 + 5 * 0) (n := 8000 + 30 * 0) (Nat.le_of_ble_eq_true rfl) (Nat.le_of_ble_eq_true rfl) ?_
  exact law_loop hC hL hr hlocks 513 0 (by omega) (by omega) to0 rs (fun _ => 0) H locs ls hGG hP2 hD2 hS (lv_sub hl [0, 4, 3, 2, 1] rfl)
