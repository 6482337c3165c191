set_option maxHeartbeats 4000000 in
set_option maxRecDepth 100000 in
/-- YOUR PART: from the entry, for every script of at most 260 ints, the law comes to its end with true ('hflags': the launch's flags, for a law that throws: no stack traces) -/
theorem whole_start {p : Program} {e : Env} {s : State} {m : MethodId} {below : List Frame} {meth : Method} {c : Code} (l : Launch) (hflags : l.flags = flags0) {b L : Nat} {xs : Nat → Int32} (hL : L ≤ 260) (C0 : lw_At p s m meth c b L xs) : W p l e room_1 s m #[Value.ref b] below meth c s.heap [] 0 0 (lw_Z below #[Value.ref b] s) (entryFrame m ([Value.ref b] : List Value).toArray 17) := by
  obtain ⟨hx, hb, hr, hml, hown, hts, hX, hbl, hlocks, hgv⟩ := id C0
  have hb : c.code = cL_law := hb
  have hown : s.vm.findClass RL = some m.cls := hown
  have hA : ∀ q : Nat, s.heap.size ≤ q → (fun q : Nat => s.heap.size ≤ q) q := fun _ h => h
  have hgf := flat_of_before _ hgv
  obtain ⟨D, cy, hG⟩ := k_K hts
  obtain ⟨tt, hGX⟩ := k_gX hts hgf
  have hN := k_gN hgf
  have hO := k_gO hts
  have hT := hGX.2.2.2.2.2.2
  have htw : ∀ w ∈ wsL_law, w.before #[Value.ref b] s = true := fun w h => hts w (wsL_law_in w h)
  have hl9 : l.stackTraces = false := by
    show (!l.flags.contains noTraceFlag) = false
    rw [hflags]
    decide +kernel
  have hC : lX p l s m c b L xs D cy tt := ⟨hx, hb, hml, hown, htw, hX, hbl, hl9, hG, hGX, hN⟩
  have hK := hG.1
  have hS : va_S (fun q : Nat => s.heap.size ≤ q) s.heap s.heap [] := va_S.rf
  have hP : va_P D vwCl [] s.heap := fun k q h => by simp at h
  have hD : va_D (fun q : Nat => s.heap.size ≤ q) [] := ⟨fun i j p q h => by simp at h, fun k q h => by simp at h⟩
  have hl := lv_entry ([.ref b]) (n := 17) (Nat.le_of_ble_eq_true rfl)
  rw [lg_entry_eq]
  generalize (lg_sl ([.ref b]) ++ List.replicate (17 - (lg_sl ([.ref b])).length) Slot.unset).toArray = ls at hl ⊢
  have hl : lv_has ls 17 [(0, .ref b)] := hl
  refine va_new (ci := 11) (fs := [.null, .null, .null]) (C := RX11) (T := TX11) (N := 3) hx hb htw inlX11 tyX11 tyX11_ok hown (hts _ tc_11) (hts _ tn_11) (hts _ ti_P) hK hP hD hS hA rfl (fun j hj => by rcases (show j = 0 ∨ j = 1 ∨ j = 2 by omega) with rfl | rfl | rfl <;> rfl) (Nat.le_of_ble_eq_true rfl) (Nat.le_of_ble_eq_true rfl) dL_law_0 (fun q0 H hP hD hS => ?_)
  refine lv_dup hx hb dL_law_3 rfl ?_
  refine smR (oc := 0) (wf := fun u => wX11 cy u 0 to0) (mc := 271) (ms := 3734) (fun hp => va_runI (As := []) (rest := [.ref q0]) ⟨hx, hb, hml, hown, htw⟩ (qX11_init l D cy tt 0 q0 H.size) (cwI 0 htw gL_law_X11_init rfl rfl rfl (hts _ ti_P) (hts _ tm_11) (hts _ to_11) rfl (by decide +kernel) ⟨Nat.le_of_ble_eq_true rfl, Nat.le_of_ble_eq_true rfl⟩) hp rfl rfl hl.1 rfl (lv_room (Nat.le_of_ble_eq_true rfl)) dL_law_4 ⟨Nat.le_of_ble_eq_true rfl, Nat.le_of_ble_eq_true rfl⟩) hG hO hT hP hD hS hA (fun a H locs ea hP hD hS => ?_)
  rw [← ea]
  refine lv_astore_n (lv' := [(1, .ref (a 0)), (0, .ref b)]) hx hb dL_law_7 rfl hl (by decide) rfl (fun ls hl => ?_)
  refine law_body hC hr hlocks to0 (ceF L xs) rfl (by omega) (iI 1) rfl law_start H locs ls hP hD hS hl _ _ ⟨?_, ?_⟩
  · decide
  · decide
