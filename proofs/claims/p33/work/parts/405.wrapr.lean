/-! the law's wrappers -/
def egv (n : Nat) : Int32 := if n = 1 then -903 else if n = 2 then -901 else -902
theorem eg_i {xs : List Nat} {n : Nat} {r : Int32} (h : eg xs n = some r) : ∃ i : Nat, xs[i]? = some n ∧ r = egv n := by
  unfold eg at h
  by_cases q : n ∈ xs
  · rw [if_pos q] at h
    obtain ⟨i, hi⟩ := List.mem_iff_getElem?.mp q
    refine ⟨i, hi, ?_⟩
    unfold egv
    by_cases q1 : n = 1
    · rw [if_pos q1] at h ⊢
      exact (Option.some.inj h).symm
    · rw [if_neg q1] at h ⊢
      by_cases q2 : n = 2
      · rw [if_pos q2] at h ⊢
        exact (Option.some.inj h).symm
      · rw [if_neg q2] at h ⊢
        by_cases q3 : n = 3
        · rw [if_pos q3] at h
          exact (Option.some.inj h).symm
        · rw [if_neg q3] at h
          cases h
  · rw [if_neg q] at h
    cases h
theorem wxR_o {xs : List Nat} {x : Option (Nat ⊕ Int32)} {r : Int32} (h : wxR xs x = some r) : (∃ v, x = some (Sum.inr v) ∧ r = v) ∨ ∃ (i n : Nat), x = some (Sum.inl n) ∧ xs[i]? = some n ∧ r = egv n := by
  match x, h with
  | some (Sum.inr v), h => exact Or.inl ⟨v, rfl, (Option.some.inj h).symm⟩
  | some (Sum.inl n), h =>
    obtain ⟨i, h1, h2⟩ := eg_i h
    exact Or.inr ⟨i, n, rfl, h1, h2⟩
theorem eg_m {xs : List Nat} {n : Nat} {S : SX11} {r : Int32 × SX11} (h : (eg xs n).map (fun v => (v, S)) = some r) : ∃ i : Nat, xs[i]? = some n ∧ r = (egv n, S) := by
  obtain ⟨v, h1, h2⟩ := Option.map_eq_some_iff.mp h
  obtain ⟨i, h3, h4⟩ := eg_i h1
  exact ⟨i, h3, by rw [← h2, h4]⟩
theorem wxW_o {xs : List Nat} {S : SX11} {x : Option (Nat ⊕ (Int32 × SX11))} {r : Int32 × SX11} (h : wxW xs S x = some r) : (∃ v T, x = some (Sum.inr (v, T)) ∧ r = (v, T)) ∨ ∃ (i n : Nat), x = some (Sum.inl n) ∧ xs[i]? = some n ∧ r = (egv n, S) := by
  match x, h with
  | some (Sum.inr (v, T)), h => exact Or.inl ⟨v, T, rfl, (Option.some.inj h).symm⟩
  | some (Sum.inl n), h =>
    obtain ⟨i, h1, h2⟩ := eg_m h
    exact Or.inr ⟨i, n, rfl, h1, h2⟩
theorem wxB_o {xs : List Nat} {S : SX11} {x : Option (Nat ⊕ (Int32 × SX11))} {r : Int32 × SX11} (h : wxB xs S x = some r) : (∃ v T, x = some (Sum.inr (v, T)) ∧ r = (if v = 0 then (0 : Int32) else 1, T)) ∨ ∃ (i n : Nat), x = some (Sum.inl n) ∧ xs[i]? = some n ∧ r = (egv n, S) := by
  match x, h with
  | some (Sum.inr (v, T)), h => exact Or.inl ⟨v, T, rfl, (Option.some.inj h).symm⟩
  | some (Sum.inl n), h =>
    obtain ⟨i, h1, h2⟩ := eg_m h
    exact Or.inr ⟨i, n, rfl, h1, h2⟩
theorem wxN_o {xs : List Nat} {S : SX11} {x : Option (Nat ⊕ (Int32 × SX0))} {r : Int32 × SX11} (h : wxN xs S x = some r) : (∃ v T, x = some (Sum.inr (v, T)) ∧ r = (v, uX11_now S T)) ∨ ∃ (i n : Nat), x = some (Sum.inl n) ∧ xs[i]? = some n ∧ r = (egv n, S) := by
  match x, h with
  | some (Sum.inr (v, T)), h => exact Or.inl ⟨v, T, rfl, (Option.some.inj h).symm⟩
  | some (Sum.inl n), h =>
    obtain ⟨i, h1, h2⟩ := eg_m h
    exact Or.inr ⟨i, n, rfl, h1, h2⟩
section MYT
variable {p : Program} {l : Launch} {e : Env} {R : Room} {s : State} {m : MethodId} {args : Array Value} {below : List Frame} {meth : Method} {c : Code} {H : Heap} {locs : List Loc} {cells slots : Nat} {Q : State → Prop}
variable {rest st0 av : List Value} {pc : Nat} {ls : Array Slot} {D : va_G} {cy : Nat → ClassId} {tt : Nat → Nat} {A0 : Nat → Prop} {mc ms : Nat} {a : Nat → Nat} {o : Nat} {S : SX11}
/-- setProgram throws that there is no such entrant or round -/
theorem tcTS {Qa : State → Outcome → State → Prop} (hno : ∀ st v t, Qa st (.returned v) t → False) (hG : gK D cy s) (hX : gX tt A0 s s.heap) (hP : va_P D vwCl (wX11 cy a o S) H) (hD : va_D A0 (wX11 cy a o S)) (hS : va_S A0 s.heap H locs) (hA : ∀ q, s.heap.size ≤ q → A0 q)
    (run : FrameBlind (xP D cy tt H.size av (wX11 cy a o S)) → (∀ U : State, U.heap = H → s.WarmedH U.vm → xP D cy tt H.size av (wX11 cy a o S) av.toArray U) → vx_Run p l e R s m args below meth c H locs cells slots mc ms (F0 m pc ls st0) rest Qa (xS D H.size cy a o S (Sum.inl 1)) (va_A (wX11 cy a o S) H.size))
    (kx : ∀ (ce : Cell) (q9 : Addr) (H1 : Heap) (locs1 : List Loc), va_P D vwCl (wX11 cy a o S) H1 → va_S A0 s.heap H1 locs1 → H1[q9]? = some ce → ce.vm = .none → s.vm.findClass (exN 1) = some ce.cls → vx_W p l e R s m args below meth c H1 locs1 (cells + mc) (slots + ms) Q (F0 m pc ls rest) q9) : W p l e R s m args below meth c H locs cells slots Q (F0 m pc ls st0) := by
  have hp := pmA [] (wX11 cy a o S)
  have hFc := cutF hD hp hS hA
  have hr := run xBl (xPre hG hX hP hD hS hA hp)
  intro T hT X
  rcases hr T hT X with ⟨v, st₀, t, T', L, h0, X', hL, e1, e2, hq, st⟩ | ⟨q, st₀, t, T', L, E, ce, h0, X', hL, e1, e2, ⟨u, ⟨hu, h5⟩, ⟨hE, hP1, hD1⟩, hF⟩, hce, hcv, hcl, st⟩
  · exact (hno _ _ _ hq).elim
  · have hu' : u.1 = 1 := Sum.inl.inj hu
    rw [hu'] at hE
    subst hE
    rw [h5 hu'] at hP1 hD1
    obtain ⟨k1, k2, k3⟩ := vx_keep h0 e1 hS (fun q _ h => hFc q h) hFc hL hF
    rw [← e1] at hP1 hce
    obtain ⟨hP2, hD2⟩ := cutJ hP hD hp (pmA [] (wX11 cy a o S)) k2 hFc hP1 hD1
    obtain ⟨t2, a1, b1⟩ := kx ce q T'.heap (locs ++ L) hP2 k3 hce hcv hcl T' rfl X'
    exact ⟨t2, st.trans a1, b1⟩
/-- .. or returns -/
theorem tcMS {x0 : Int32 × SX11} {c2 s2 : Nat} (hG : gK D cy s) (hX : gX tt A0 s s.heap) (hP : va_P D vwCl (wX11 cy a o S) H) (hD : va_D A0 (wX11 cy a o S)) (hS : va_S A0 s.heap H locs) (hA : ∀ q, s.heap.size ≤ q → A0 q) {ar : Array Value}
    (run : FrameBlind (xP D cy tt H.size av (wX11 cy a o S)) → (∀ U : State, U.heap = H → s.WarmedH U.vm → xP D cy tt H.size av (wX11 cy a o S) av.toArray U) → vx_Run p l e R s m args below meth c H locs cells slots mc ms (F0 m pc ls st0) rest (va_Qi (fun r (u : SX11) => Sum.inr (r, u) = (Sum.inr x0 : Nat ⊕ (Int32 × SX11))) (fun u t => mB D H.size (wX11 cy a o S) (wX11 cy a o u) t) (va_A (wX11 cy a o S) H.size) ar) (xS D H.size cy a o S (Sum.inr x0)) (va_A (wX11 cy a o S) H.size)) (hc2 : cells + mc = c2) (hs2 : slots + ms = s2)
    (kk : ∀ (H1 : Heap) (locs1 : List Loc), va_P D vwCl (wX11 cy a o x0.2) H1 → va_D A0 (wX11 cy a o x0.2) → va_S A0 s.heap H1 locs1 → W p l e R s m args below meth c H1 locs1 c2 s2 Q (F0 m (pc + 3) ls (.int x0.1 :: rest))) : W p l e R s m args below meth c H locs cells slots Q (F0 m pc ls st0) := by
  subst hc2
  subst hs2
  have hp := pmA [] (wX11 cy a o S)
  have hFc := cutF hD hp hS hA
  have hr := run xBl (xPre hG hX hP hD hS hA hp)
  intro T hT X
  rcases hr T hT X with ⟨v, st₀, t, T', L, h0, X', hL, e1, e2, ⟨⟨r, u, hv, hu, hP1, hD1⟩, hF⟩, st⟩ | ⟨q, st₀, t, T', L, E, ce, h0, X', hL, e1, e2, ⟨u, ⟨hu, -⟩, -, -⟩, -⟩
  · cases hv
    cases hu
    obtain ⟨k1, k2, k3⟩ := vx_keep h0 e1 hS (fun q _ h => hFc q h) hFc hL hF
    rw [← e1] at hP1
    obtain ⟨hP2, hD2⟩ := cutJ hP hD hp (pmA [] (wX11 cy a o u)) k2 hFc hP1 hD1
    obtain ⟨t2, a1, b1⟩ := kk T'.heap (locs ++ L) hP2 hD2 k3 T' rfl X'
    exact ⟨t2, st t2 a1, b1⟩
  · cases hu
end MYT
theorem qL_work (l : Launch) (hl9 : l.stackTraces = false) (D : va_G) (cy : Nat → ClassId) (tt : Nat → Nat) (a : Nat → Nat) (o : Nat) (S : SX11) (p1 : Int32) (p2 : Int32) (sz : Nat) (res : Int32) (h : DL_work S p1 p2 = some res) : vx_Met l yL_work wsL_work ({ frames := 8, cells := 1, slots := 6, locals := 142 } : Room) (lP D cy tt sz [.ref (a o), .int p1, .int p2] (wX11 cy a o S)) (va_Qi (fun r (u : SX11) => (r, u) = (res, S)) (fun u t => mB D sz (wX11 cy a o S) (wX11 cy a o u) t) (va_A (wX11 cy a o S) sz)) (fun _ _ _ => False) 1 6 (va_A (wX11 cy a o S) sz) := by
  refine vx_ofWH (cc := cL_work) (maxL := 4) (ret := (some .int)) (by decide) rfl ?_
  intro p e s m args below meth c s₁ B hml hv
  obtain ⟨rfl, hsz, hP, hG, hD0, hX, hN⟩ := hv
  have hx := B.exec
  have hb := B.bytes
  have hr := B.returns
  have hts := atoms_spec (ws := wsL_work) B.pre
  have hown : s.vm.findClass RL = some m.cls := findClass_of_methodNamed B.named
  have hlocks := B.notSynchronized
  have htab := vx_table (x := yL_work) B (hts _ List.mem_cons_self)
  have hK := hG.1
  subst hsz
  have hD := hD0.self (sz := s.heap.size)
  have hA : ∀ q : Nat, s.heap.size ≤ q → (va_A (wX11 cy a o S) s.heap.size) q := fun q h => Or.inr h
  have hS : va_S (va_A (wX11 cy a o S) s.heap.size) s.heap s.heap [] := va_S.rf
  have hl := lv_entry ([.ref (a o), .int p1, .int p2]) (n := 4) (Nat.le_of_ble_eq_true rfl)
  rw [lg_entry_eq]
  generalize (lg_sl ([.ref (a o), .int p1, .int p2]) ++ List.replicate (4 - (lg_sl ([.ref (a o), .int p1, .int p2])).length) Slot.unset).toArray = ls at hl ⊢
  have hl : lv_has ls 4 [(0, .ref (a o)), (1, .int p1), (2, .int p2)] := hl
  rw [DL_work] at h
  refine lv_aload_n hx hb dL_work_0 rfl (lv_at hl 0 rfl) ?_
  refine lv_iload_n hx hb dL_work_1 rfl (lv_at hl 1 rfl) ?_
  refine lv_iload_n hx hb dL_work_2 rfl (lv_at hl 2 rfl) ?_
  rcases wxR_o h with ⟨v, e1, rfl⟩ | ⟨i, n, e1, e2, rfl⟩
  · refine tcNi (x0 := res) hG hX hP hD hS hA (pmN1 cy a o S) (fun h1 h2 => vx_runV (As := [.int p1, .int p2]) (rest := []) ⟨hx, hb, hml, hown, hts⟩ (qX11_work l hl9 D cy tt a o (gX11_now S) p1 p2 (s.heap).size (Sum.inr res) e1) (cwV 2 hts gL_work_X11_work rfl rfl rfl (by decide +kernel) ⟨Nat.le_of_ble_eq_true rfl, Nat.le_of_ble_eq_true rfl⟩) ⟨h1, va_recv hK hP (ci := 11) (q0 := 0) rfl rfl, h2⟩ rfl rfl hl.1 rfl (lv_room (Nat.le_of_ble_eq_true rfl)) dL_work_3 ⟨Nat.le_of_ble_eq_true rfl, Nat.le_of_ble_eq_true rfl⟩) (c2 := 0) (s2 := 0) rfl rfl (fun H locs hP hS => ?_)
    refine vx_ret (W.widen (k := 1) (n := 6) (by decide) (by decide) ?_)
    exact W.iret (v := res) hx hb hr (fun t ht hW => ⟨⟨res, S, rfl, rfl, by rw [ht]; exact hP, hD⟩, hS.F ht⟩) hS.2.2 dL_work_6
  · refine tcT (R0 := Int32) (fun st v t q => by obtain ⟨⟨r, u, -, hu, -⟩, -⟩ := q; cases hu) hG hX hP hD hS hA (pmN1 cy a o S) (fun h1 h2 => vx_runV (As := [.int p1, .int p2]) (rest := []) ⟨hx, hb, hml, hown, hts⟩ (qX11_work l hl9 D cy tt a o (gX11_now S) p1 p2 (s.heap).size (Sum.inl n) e1) (cwV 2 hts gL_work_X11_work rfl rfl rfl (by decide +kernel) ⟨Nat.le_of_ble_eq_true rfl, Nat.le_of_ble_eq_true rfl⟩) ⟨h1, va_recv hK hP (ci := 11) (q0 := 0) rfl rfl, h2⟩ rfl rfl hl.1 rfl (lv_room (Nat.le_of_ble_eq_true rfl)) dL_work_3 ⟨Nat.le_of_ble_eq_true rfl, Nat.le_of_ble_eq_true rfl⟩) (fun ce q9 H locs hP hS hce hcv hcl => ?_)
    match i, e2 with
    | 0, e2 =>
      cases Option.some.inj e2
      refine vx_catch hown [] ⟨0, 6, 7, 23⟩ [⟨0, 6, 12, 15⟩] (htab.trans rfl) (fun z hz => nomatch hz) rfl (by decide) (hts (.classLink RL 23 "java/lang/IndexOutOfBoundsException") (by decide +kernel)) (cast_w hG).2.2 hce hcv hcl ?_
      refine lv_astore_n (lv' := [(3, .ref q9), (0, .ref (a o)), (1, .int p1), (2, .int p2)]) hx hb dL_work_7 rfl hl (by decide) rfl (fun ls hl => ?_)
      refine lv_sipush (v := (-903 : Int32)) hx hb dL_work_8 (by decide) ?_
      refine vx_ret (W.widen (k := 1) (n := 6) (by decide) (by decide) ?_)
      exact W.iret (v := (-903 : Int32)) hx hb hr (fun t ht hW => ⟨⟨(-903 : Int32), S, rfl, rfl, by rw [ht]; exact hP, hD⟩, hS.F ht⟩) hS.2.2 dL_work_11
    | 1, e2 =>
      cases Option.some.inj e2
      refine vx_catch hown [⟨0, 6, 7, 23⟩] ⟨0, 6, 12, 15⟩ [] (htab.trans rfl) (fun z hz => by cases List.mem_singleton.mp hz; exact Or.inr ⟨by decide, "java/lang/IndexOutOfBoundsException", hts (.classLink RL 23 "java/lang/IndexOutOfBoundsException") (by decide +kernel), hN.1⟩) rfl (by decide) (hts (.classLink RL 15 "java/lang/IllegalArgumentException") (by decide +kernel)) (cast_w hG).1 hce hcv hcl ?_
      refine lv_astore_n (lv' := [(3, .ref q9), (0, .ref (a o)), (1, .int p1), (2, .int p2)]) hx hb dL_work_12 rfl hl (by decide) rfl (fun ls hl => ?_)
      refine lv_sipush (v := (-901 : Int32)) hx hb dL_work_13 (by decide) ?_
      refine vx_ret (W.widen (k := 1) (n := 6) (by decide) (by decide) ?_)
      exact W.iret (v := (-901 : Int32)) hx hb hr (fun t ht hW => ⟨⟨(-901 : Int32), S, rfl, rfl, by rw [ht]; exact hP, hD⟩, hS.F ht⟩) hS.2.2 dL_work_16
    | i + 2, e2 => cases e2
theorem qL_rule (l : Launch) (hl9 : l.stackTraces = false) (D : va_G) (cy : Nat → ClassId) (tt : Nat → Nat) (a : Nat → Nat) (o : Nat) (S : SX11) (p1 : Int32) (p2 : Int32) (sz : Nat) (res : Int32) (h : DL_rule S p1 p2 = some res) : vx_Met l yL_rule wsL_rule ({ frames := 9, cells := 1, slots := 6, locals := 162 } : Room) (lP D cy tt sz [.ref (a o), .int p1, .int p2] (wX11 cy a o S)) (va_Qi (fun r (u : SX11) => (r, u) = (res, S)) (fun u t => mB D sz (wX11 cy a o S) (wX11 cy a o u) t) (va_A (wX11 cy a o S) sz)) (fun _ _ _ => False) 1 6 (va_A (wX11 cy a o S) sz) := by
  refine vx_ofWH (cc := cL_rule) (maxL := 4) (ret := (some .int)) (by decide) rfl ?_
  intro p e s m args below meth c s₁ B hml hv
  obtain ⟨rfl, hsz, hP, hG, hD0, hX, hN⟩ := hv
  have hx := B.exec
  have hb := B.bytes
  have hr := B.returns
  have hts := atoms_spec (ws := wsL_rule) B.pre
  have hown : s.vm.findClass RL = some m.cls := findClass_of_methodNamed B.named
  have hlocks := B.notSynchronized
  have htab := vx_table (x := yL_rule) B (hts _ List.mem_cons_self)
  have hK := hG.1
  subst hsz
  have hD := hD0.self (sz := s.heap.size)
  have hA : ∀ q : Nat, s.heap.size ≤ q → (va_A (wX11 cy a o S) s.heap.size) q := fun q h => Or.inr h
  have hS : va_S (va_A (wX11 cy a o S) s.heap.size) s.heap s.heap [] := va_S.rf
  have hl := lv_entry ([.ref (a o), .int p1, .int p2]) (n := 4) (Nat.le_of_ble_eq_true rfl)
  rw [lg_entry_eq]
  generalize (lg_sl ([.ref (a o), .int p1, .int p2]) ++ List.replicate (4 - (lg_sl ([.ref (a o), .int p1, .int p2])).length) Slot.unset).toArray = ls at hl ⊢
  have hl : lv_has ls 4 [(0, .ref (a o)), (1, .int p1), (2, .int p2)] := hl
  rw [DL_rule] at h
  refine lv_aload_n hx hb dL_rule_0 rfl (lv_at hl 0 rfl) ?_
  refine lv_iload_n hx hb dL_rule_1 rfl (lv_at hl 1 rfl) ?_
  refine lv_iload_n hx hb dL_rule_2 rfl (lv_at hl 2 rfl) ?_
  rcases wxR_o h with ⟨v, e1, rfl⟩ | ⟨i, n, e1, e2, rfl⟩
  · refine tcNi (x0 := res) hG hX hP hD hS hA (pmN1 cy a o S) (fun h1 h2 => vx_runV (As := [.int p1, .int p2]) (rest := []) ⟨hx, hb, hml, hown, hts⟩ (qX11_rule l hl9 D cy tt a o (gX11_now S) p1 p2 (s.heap).size (Sum.inr res) e1) (cwV 2 hts gL_rule_X11_rule rfl rfl rfl (by decide +kernel) ⟨Nat.le_of_ble_eq_true rfl, Nat.le_of_ble_eq_true rfl⟩) ⟨h1, va_recv hK hP (ci := 11) (q0 := 0) rfl rfl, h2⟩ rfl rfl hl.1 rfl (lv_room (Nat.le_of_ble_eq_true rfl)) dL_rule_3 ⟨Nat.le_of_ble_eq_true rfl, Nat.le_of_ble_eq_true rfl⟩) (c2 := 0) (s2 := 0) rfl rfl (fun H locs hP hS => ?_)
    refine vx_ret (W.widen (k := 1) (n := 6) (by decide) (by decide) ?_)
    exact W.iret (v := res) hx hb hr (fun t ht hW => ⟨⟨res, S, rfl, rfl, by rw [ht]; exact hP, hD⟩, hS.F ht⟩) hS.2.2 dL_rule_6
  · refine tcT (R0 := Int32) (fun st v t q => by obtain ⟨⟨r, u, -, hu, -⟩, -⟩ := q; cases hu) hG hX hP hD hS hA (pmN1 cy a o S) (fun h1 h2 => vx_runV (As := [.int p1, .int p2]) (rest := []) ⟨hx, hb, hml, hown, hts⟩ (qX11_rule l hl9 D cy tt a o (gX11_now S) p1 p2 (s.heap).size (Sum.inl n) e1) (cwV 2 hts gL_rule_X11_rule rfl rfl rfl (by decide +kernel) ⟨Nat.le_of_ble_eq_true rfl, Nat.le_of_ble_eq_true rfl⟩) ⟨h1, va_recv hK hP (ci := 11) (q0 := 0) rfl rfl, h2⟩ rfl rfl hl.1 rfl (lv_room (Nat.le_of_ble_eq_true rfl)) dL_rule_3 ⟨Nat.le_of_ble_eq_true rfl, Nat.le_of_ble_eq_true rfl⟩) (fun ce q9 H locs hP hS hce hcv hcl => ?_)
    match i, e2 with
    | 0, e2 =>
      cases Option.some.inj e2
      refine vx_catch hown [] ⟨0, 6, 7, 23⟩ [⟨0, 6, 12, 15⟩] (htab.trans rfl) (fun z hz => nomatch hz) rfl (by decide) (hts (.classLink RL 23 "java/lang/IndexOutOfBoundsException") (by decide +kernel)) (cast_w hG).2.2 hce hcv hcl ?_
      refine lv_astore_n (lv' := [(3, .ref q9), (0, .ref (a o)), (1, .int p1), (2, .int p2)]) hx hb dL_rule_7 rfl hl (by decide) rfl (fun ls hl => ?_)
      refine lv_sipush (v := (-903 : Int32)) hx hb dL_rule_8 (by decide) ?_
      refine vx_ret (W.widen (k := 1) (n := 6) (by decide) (by decide) ?_)
      exact W.iret (v := (-903 : Int32)) hx hb hr (fun t ht hW => ⟨⟨(-903 : Int32), S, rfl, rfl, by rw [ht]; exact hP, hD⟩, hS.F ht⟩) hS.2.2 dL_rule_11
    | 1, e2 =>
      cases Option.some.inj e2
      refine vx_catch hown [⟨0, 6, 7, 23⟩] ⟨0, 6, 12, 15⟩ [] (htab.trans rfl) (fun z hz => by cases List.mem_singleton.mp hz; exact Or.inr ⟨by decide, "java/lang/IndexOutOfBoundsException", hts (.classLink RL 23 "java/lang/IndexOutOfBoundsException") (by decide +kernel), hN.1⟩) rfl (by decide) (hts (.classLink RL 15 "java/lang/IllegalArgumentException") (by decide +kernel)) (cast_w hG).1 hce hcv hcl ?_
      refine lv_astore_n (lv' := [(3, .ref q9), (0, .ref (a o)), (1, .int p1), (2, .int p2)]) hx hb dL_rule_12 rfl hl (by decide) rfl (fun ls hl => ?_)
      refine lv_sipush (v := (-901 : Int32)) hx hb dL_rule_13 (by decide) ?_
      refine vx_ret (W.widen (k := 1) (n := 6) (by decide) (by decide) ?_)
      exact W.iret (v := (-901 : Int32)) hx hb hr (fun t ht hW => ⟨⟨(-901 : Int32), S, rfl, rfl, by rw [ht]; exact hP, hD⟩, hS.F ht⟩) hS.2.2 dL_rule_16
    | i + 2, e2 => cases e2
theorem qL_program (l : Launch) (hl9 : l.stackTraces = false) (D : va_G) (cy : Nat → ClassId) (tt : Nat → Nat) (a : Nat → Nat) (o : Nat) (S : SX11) (p1 : Int32) (p2 : Int32) (p3 : Int32) (sz : Nat) (res : Int32) (h : DL_program S p1 p2 p3 = some res) : vx_Met l yL_program wsL_program ({ frames := 10, cells := 1, slots := 6, locals := 186 } : Room) (lP D cy tt sz [.ref (a o), .int p1, .int p2, .int p3] (wX11 cy a o S)) (va_Qi (fun r (u : SX11) => (r, u) = (res, S)) (fun u t => mB D sz (wX11 cy a o S) (wX11 cy a o u) t) (va_A (wX11 cy a o S) sz)) (fun _ _ _ => False) 1 6 (va_A (wX11 cy a o S) sz) := by
  refine vx_ofWH (cc := cL_program) (maxL := 5) (ret := (some .int)) (by decide) rfl ?_
  intro p e s m args below meth c s₁ B hml hv
  obtain ⟨rfl, hsz, hP, hG, hD0, hX, hN⟩ := hv
  have hx := B.exec
  have hb := B.bytes
  have hr := B.returns
  have hts := atoms_spec (ws := wsL_program) B.pre
  have hown : s.vm.findClass RL = some m.cls := findClass_of_methodNamed B.named
  have hlocks := B.notSynchronized
  have htab := vx_table (x := yL_program) B (hts _ List.mem_cons_self)
  have hK := hG.1
  subst hsz
  have hD := hD0.self (sz := s.heap.size)
  have hA : ∀ q : Nat, s.heap.size ≤ q → (va_A (wX11 cy a o S) s.heap.size) q := fun q h => Or.inr h
  have hS : va_S (va_A (wX11 cy a o S) s.heap.size) s.heap s.heap [] := va_S.rf
  have hl := lv_entry ([.ref (a o), .int p1, .int p2, .int p3]) (n := 5) (Nat.le_of_ble_eq_true rfl)
  rw [lg_entry_eq]
  generalize (lg_sl ([.ref (a o), .int p1, .int p2, .int p3]) ++ List.replicate (5 - (lg_sl ([.ref (a o), .int p1, .int p2, .int p3])).length) Slot.unset).toArray = ls at hl ⊢
  have hl : lv_has ls 5 [(0, .ref (a o)), (1, .int p1), (2, .int p2), (3, .int p3)] := hl
  rw [DL_program] at h
  refine lv_aload_n hx hb dL_program_0 rfl (lv_at hl 0 rfl) ?_
  refine lv_iload_n hx hb dL_program_1 rfl (lv_at hl 1 rfl) ?_
  refine lv_iload_n hx hb dL_program_2 rfl (lv_at hl 2 rfl) ?_
  refine lv_iload_n hx hb dL_program_3 rfl (lv_at hl 3 rfl) ?_
  rcases wxR_o h with ⟨v, e1, rfl⟩ | ⟨i, n, e1, e2, rfl⟩
  · refine tcNi (x0 := res) hG hX hP hD hS hA (pmN1 cy a o S) (fun h1 h2 => vx_runV (As := [.int p1, .int p2, .int p3]) (rest := []) ⟨hx, hb, hml, hown, hts⟩ (qX11_program l hl9 D cy tt a o (gX11_now S) p1 p2 p3 (s.heap).size (Sum.inr res) e1) (cwV 3 hts gL_program_X11_program rfl rfl rfl (by decide +kernel) ⟨Nat.le_of_ble_eq_true rfl, Nat.le_of_ble_eq_true rfl⟩) ⟨h1, va_recv hK hP (ci := 11) (q0 := 0) rfl rfl, h2⟩ rfl rfl hl.1 rfl (lv_room (Nat.le_of_ble_eq_true rfl)) dL_program_4 ⟨Nat.le_of_ble_eq_true rfl, Nat.le_of_ble_eq_true rfl⟩) (c2 := 0) (s2 := 0) rfl rfl (fun H locs hP hS => ?_)
    refine vx_ret (W.widen (k := 1) (n := 6) (by decide) (by decide) ?_)
    exact W.iret (v := res) hx hb hr (fun t ht hW => ⟨⟨res, S, rfl, rfl, by rw [ht]; exact hP, hD⟩, hS.F ht⟩) hS.2.2 dL_program_7
  · refine tcT (R0 := Int32) (fun st v t q => by obtain ⟨⟨r, u, -, hu, -⟩, -⟩ := q; cases hu) hG hX hP hD hS hA (pmN1 cy a o S) (fun h1 h2 => vx_runV (As := [.int p1, .int p2, .int p3]) (rest := []) ⟨hx, hb, hml, hown, hts⟩ (qX11_program l hl9 D cy tt a o (gX11_now S) p1 p2 p3 (s.heap).size (Sum.inl n) e1) (cwV 3 hts gL_program_X11_program rfl rfl rfl (by decide +kernel) ⟨Nat.le_of_ble_eq_true rfl, Nat.le_of_ble_eq_true rfl⟩) ⟨h1, va_recv hK hP (ci := 11) (q0 := 0) rfl rfl, h2⟩ rfl rfl hl.1 rfl (lv_room (Nat.le_of_ble_eq_true rfl)) dL_program_4 ⟨Nat.le_of_ble_eq_true rfl, Nat.le_of_ble_eq_true rfl⟩) (fun ce q9 H locs hP hS hce hcv hcl => ?_)
    match i, e2 with
    | 0, e2 =>
      cases Option.some.inj e2
      refine vx_catch hown [] ⟨0, 7, 8, 23⟩ [] (htab.trans rfl) (fun z hz => nomatch hz) rfl (by decide) (hts (.classLink RL 23 "java/lang/IndexOutOfBoundsException") (by decide +kernel)) (cast_w hG).2.2 hce hcv hcl ?_
      refine lv_astore (lv' := [(4, .ref q9), (0, .ref (a o)), (1, .int p1), (2, .int p2), (3, .int p3)]) hx hb dL_program_8 hl (by decide) rfl (fun ls hl => ?_)
      refine lv_sipush (v := (-903 : Int32)) hx hb dL_program_10 (by decide) ?_
      refine vx_ret (W.widen (k := 1) (n := 6) (by decide) (by decide) ?_)
      exact W.iret (v := (-903 : Int32)) hx hb hr (fun t ht hW => ⟨⟨(-903 : Int32), S, rfl, rfl, by rw [ht]; exact hP, hD⟩, hS.F ht⟩) hS.2.2 dL_program_13
    | i + 1, e2 => cases e2
theorem qL_flaw (l : Launch) (hl9 : l.stackTraces = false) (D : va_G) (cy : Nat → ClassId) (tt : Nat → Nat) (a : Nat → Nat) (o : Nat) (S : SX11) (p1 : Int32) (p2 : Int32) (sz : Nat) (res : Int32) (h : DL_flaw S p1 p2 = some res) : vx_Met l yL_flaw wsL_flaw ({ frames := 10, cells := 1, slots := 6, locals := 185 } : Room) (lP D cy tt sz [.ref (a o), .int p1, .int p2] (wX11 cy a o S)) (va_Qi (fun r (u : SX11) => (r, u) = (res, S)) (fun u t => mB D sz (wX11 cy a o S) (wX11 cy a o u) t) (va_A (wX11 cy a o S) sz)) (fun _ _ _ => False) 1 6 (va_A (wX11 cy a o S) sz) := by
  refine vx_ofWH (cc := cL_flaw) (maxL := 4) (ret := (some .int)) (by decide) rfl ?_
  intro p e s m args below meth c s₁ B hml hv
  obtain ⟨rfl, hsz, hP, hG, hD0, hX, hN⟩ := hv
  have hx := B.exec
  have hb := B.bytes
  have hr := B.returns
  have hts := atoms_spec (ws := wsL_flaw) B.pre
  have hown : s.vm.findClass RL = some m.cls := findClass_of_methodNamed B.named
  have hlocks := B.notSynchronized
  have htab := vx_table (x := yL_flaw) B (hts _ List.mem_cons_self)
  have hK := hG.1
  subst hsz
  have hD := hD0.self (sz := s.heap.size)
  have hA : ∀ q : Nat, s.heap.size ≤ q → (va_A (wX11 cy a o S) s.heap.size) q := fun q h => Or.inr h
  have hS : va_S (va_A (wX11 cy a o S) s.heap.size) s.heap s.heap [] := va_S.rf
  have hl := lv_entry ([.ref (a o), .int p1, .int p2]) (n := 4) (Nat.le_of_ble_eq_true rfl)
  rw [lg_entry_eq]
  generalize (lg_sl ([.ref (a o), .int p1, .int p2]) ++ List.replicate (4 - (lg_sl ([.ref (a o), .int p1, .int p2])).length) Slot.unset).toArray = ls at hl ⊢
  have hl : lv_has ls 4 [(0, .ref (a o)), (1, .int p1), (2, .int p2)] := hl
  rw [DL_flaw] at h
  refine lv_aload_n hx hb dL_flaw_0 rfl (lv_at hl 0 rfl) ?_
  refine lv_iload_n hx hb dL_flaw_1 rfl (lv_at hl 1 rfl) ?_
  refine lv_iload_n hx hb dL_flaw_2 rfl (lv_at hl 2 rfl) ?_
  rcases wxR_o h with ⟨v, e1, rfl⟩ | ⟨i, n, e1, e2, rfl⟩
  · refine tcNi (x0 := res) hG hX hP hD hS hA (pmN1 cy a o S) (fun h1 h2 => vx_runV (As := [.int p1, .int p2]) (rest := []) ⟨hx, hb, hml, hown, hts⟩ (qX11_flaw l hl9 D cy tt a o (gX11_now S) p1 p2 (s.heap).size (Sum.inr res) e1) (cwV 2 hts gL_flaw_X11_flaw rfl rfl rfl (by decide +kernel) ⟨Nat.le_of_ble_eq_true rfl, Nat.le_of_ble_eq_true rfl⟩) ⟨h1, va_recv hK hP (ci := 11) (q0 := 0) rfl rfl, h2⟩ rfl rfl hl.1 rfl (lv_room (Nat.le_of_ble_eq_true rfl)) dL_flaw_3 ⟨Nat.le_of_ble_eq_true rfl, Nat.le_of_ble_eq_true rfl⟩) (c2 := 0) (s2 := 0) rfl rfl (fun H locs hP hS => ?_)
    refine vx_ret (W.widen (k := 1) (n := 6) (by decide) (by decide) ?_)
    exact W.iret (v := res) hx hb hr (fun t ht hW => ⟨⟨res, S, rfl, rfl, by rw [ht]; exact hP, hD⟩, hS.F ht⟩) hS.2.2 dL_flaw_6
  · refine tcT (R0 := Int32) (fun st v t q => by obtain ⟨⟨r, u, -, hu, -⟩, -⟩ := q; cases hu) hG hX hP hD hS hA (pmN1 cy a o S) (fun h1 h2 => vx_runV (As := [.int p1, .int p2]) (rest := []) ⟨hx, hb, hml, hown, hts⟩ (qX11_flaw l hl9 D cy tt a o (gX11_now S) p1 p2 (s.heap).size (Sum.inl n) e1) (cwV 2 hts gL_flaw_X11_flaw rfl rfl rfl (by decide +kernel) ⟨Nat.le_of_ble_eq_true rfl, Nat.le_of_ble_eq_true rfl⟩) ⟨h1, va_recv hK hP (ci := 11) (q0 := 0) rfl rfl, h2⟩ rfl rfl hl.1 rfl (lv_room (Nat.le_of_ble_eq_true rfl)) dL_flaw_3 ⟨Nat.le_of_ble_eq_true rfl, Nat.le_of_ble_eq_true rfl⟩) (fun ce q9 H locs hP hS hce hcv hcl => ?_)
    match i, e2 with
    | 0, e2 =>
      cases Option.some.inj e2
      refine vx_catch hown [] ⟨0, 6, 7, 23⟩ [] (htab.trans rfl) (fun z hz => nomatch hz) rfl (by decide) (hts (.classLink RL 23 "java/lang/IndexOutOfBoundsException") (by decide +kernel)) (cast_w hG).2.2 hce hcv hcl ?_
      refine lv_astore_n (lv' := [(3, .ref q9), (0, .ref (a o)), (1, .int p1), (2, .int p2)]) hx hb dL_flaw_7 rfl hl (by decide) rfl (fun ls hl => ?_)
      refine lv_sipush (v := (-903 : Int32)) hx hb dL_flaw_8 (by decide) ?_
      refine vx_ret (W.widen (k := 1) (n := 6) (by decide) (by decide) ?_)
      exact W.iret (v := (-903 : Int32)) hx hb hr (fun t ht hW => ⟨⟨(-903 : Int32), S, rfl, rfl, by rw [ht]; exact hP, hD⟩, hS.F ht⟩) hS.2.2 dL_flaw_11
    | i + 1, e2 => cases e2
theorem qL_info (l : Launch) (hl9 : l.stackTraces = false) (D : va_G) (cy : Nat → ClassId) (tt : Nat → Nat) (a : Nat → Nat) (o : Nat) (S : SX11) (p1 : Int32) (sz : Nat) (res : Int32) (h : DL_info S p1 = some res) : vx_Met l yL_info wsL_info ({ frames := 8, cells := 1, slots := 6, locals := 141 } : Room) (lP D cy tt sz [.ref (a o), .int p1] (wX11 cy a o S)) (va_Qi (fun r (u : SX11) => (r, u) = (res, S)) (fun u t => mB D sz (wX11 cy a o S) (wX11 cy a o u) t) (va_A (wX11 cy a o S) sz)) (fun _ _ _ => False) 1 6 (va_A (wX11 cy a o S) sz) := by
  refine vx_ofWH (cc := cL_info) (maxL := 3) (ret := (some .int)) (by decide) rfl ?_
  intro p e s m args below meth c s₁ B hml hv
  obtain ⟨rfl, hsz, hP, hG, hD0, hX, hN⟩ := hv
  have hx := B.exec
  have hb := B.bytes
  have hr := B.returns
  have hts := atoms_spec (ws := wsL_info) B.pre
  have hown : s.vm.findClass RL = some m.cls := findClass_of_methodNamed B.named
  have hlocks := B.notSynchronized
  have htab := vx_table (x := yL_info) B (hts _ List.mem_cons_self)
  have hK := hG.1
  subst hsz
  have hD := hD0.self (sz := s.heap.size)
  have hA : ∀ q : Nat, s.heap.size ≤ q → (va_A (wX11 cy a o S) s.heap.size) q := fun q h => Or.inr h
  have hS : va_S (va_A (wX11 cy a o S) s.heap.size) s.heap s.heap [] := va_S.rf
  have hl := lv_entry ([.ref (a o), .int p1]) (n := 3) (Nat.le_of_ble_eq_true rfl)
  rw [lg_entry_eq]
  generalize (lg_sl ([.ref (a o), .int p1]) ++ List.replicate (3 - (lg_sl ([.ref (a o), .int p1])).length) Slot.unset).toArray = ls at hl ⊢
  have hl : lv_has ls 3 [(0, .ref (a o)), (1, .int p1)] := hl
  rw [DL_info] at h
  refine lv_aload_n hx hb dL_info_0 rfl (lv_at hl 0 rfl) ?_
  refine lv_iload_n hx hb dL_info_1 rfl (lv_at hl 1 rfl) ?_
  rcases wxR_o h with ⟨v, e1, rfl⟩ | ⟨i, n, e1, e2, rfl⟩
  · refine tcNi (x0 := res) hG hX hP hD hS hA (pmN1 cy a o S) (fun h1 h2 => vx_runV (As := [.int p1]) (rest := []) ⟨hx, hb, hml, hown, hts⟩ (qX11_info l hl9 D cy tt a o (gX11_now S) p1 (s.heap).size (Sum.inr res) e1) (cwV 1 hts gL_info_X11_info rfl rfl rfl (by decide +kernel) ⟨Nat.le_of_ble_eq_true rfl, Nat.le_of_ble_eq_true rfl⟩) ⟨h1, va_recv hK hP (ci := 11) (q0 := 0) rfl rfl, h2⟩ rfl rfl hl.1 rfl (lv_room (Nat.le_of_ble_eq_true rfl)) dL_info_2 ⟨Nat.le_of_ble_eq_true rfl, Nat.le_of_ble_eq_true rfl⟩) (c2 := 0) (s2 := 0) rfl rfl (fun H locs hP hS => ?_)
    refine vx_ret (W.widen (k := 1) (n := 6) (by decide) (by decide) ?_)
    exact W.iret (v := res) hx hb hr (fun t ht hW => ⟨⟨res, S, rfl, rfl, by rw [ht]; exact hP, hD⟩, hS.F ht⟩) hS.2.2 dL_info_5
  · refine tcT (R0 := Int32) (fun st v t q => by obtain ⟨⟨r, u, -, hu, -⟩, -⟩ := q; cases hu) hG hX hP hD hS hA (pmN1 cy a o S) (fun h1 h2 => vx_runV (As := [.int p1]) (rest := []) ⟨hx, hb, hml, hown, hts⟩ (qX11_info l hl9 D cy tt a o (gX11_now S) p1 (s.heap).size (Sum.inl n) e1) (cwV 1 hts gL_info_X11_info rfl rfl rfl (by decide +kernel) ⟨Nat.le_of_ble_eq_true rfl, Nat.le_of_ble_eq_true rfl⟩) ⟨h1, va_recv hK hP (ci := 11) (q0 := 0) rfl rfl, h2⟩ rfl rfl hl.1 rfl (lv_room (Nat.le_of_ble_eq_true rfl)) dL_info_2 ⟨Nat.le_of_ble_eq_true rfl, Nat.le_of_ble_eq_true rfl⟩) (fun ce q9 H locs hP hS hce hcv hcl => ?_)
    match i, e2 with
    | 0, e2 =>
      cases Option.some.inj e2
      refine vx_catch hown [] ⟨0, 5, 6, 15⟩ [] (htab.trans rfl) (fun z hz => nomatch hz) rfl (by decide) (hts (.classLink RL 15 "java/lang/IllegalArgumentException") (by decide +kernel)) (cast_w hG).1 hce hcv hcl ?_
      refine lv_astore_n (lv' := [(2, .ref q9), (0, .ref (a o)), (1, .int p1)]) hx hb dL_info_6 rfl hl (by decide) rfl (fun ls hl => ?_)
      refine lv_sipush (v := (-901 : Int32)) hx hb dL_info_7 (by decide) ?_
      refine vx_ret (W.widen (k := 1) (n := 6) (by decide) (by decide) ?_)
      exact W.iret (v := (-901 : Int32)) hx hb hr (fun t ht hW => ⟨⟨(-901 : Int32), S, rfl, rfl, by rw [ht]; exact hP, hD⟩, hS.F ht⟩) hS.2.2 dL_info_10
    | i + 1, e2 => cases e2
theorem qL_entrant (l : Launch) (hl9 : l.stackTraces = false) (D : va_G) (cy : Nat → ClassId) (tt : Nat → Nat) (a : Nat → Nat) (o : Nat) (S : SX11) (p1 : Int32) (p2 : Int32) (sz : Nat) (res : Int32) (h : DL_entrant S p1 p2 = some res) : vx_Met l yL_entrant wsL_entrant ({ frames := 9, cells := 1, slots := 6, locals := 163 } : Room) (lP D cy tt sz [.ref (a o), .int p1, .int p2] (wX11 cy a o S)) (va_Qi (fun r (u : SX11) => (r, u) = (res, S)) (fun u t => mB D sz (wX11 cy a o S) (wX11 cy a o u) t) (va_A (wX11 cy a o S) sz)) (fun _ _ _ => False) 1 6 (va_A (wX11 cy a o S) sz) := by
  refine vx_ofWH (cc := cL_entrant) (maxL := 4) (ret := (some .int)) (by decide) rfl ?_
  intro p e s m args below meth c s₁ B hml hv
  obtain ⟨rfl, hsz, hP, hG, hD0, hX, hN⟩ := hv
  have hx := B.exec
  have hb := B.bytes
  have hr := B.returns
  have hts := atoms_spec (ws := wsL_entrant) B.pre
  have hown : s.vm.findClass RL = some m.cls := findClass_of_methodNamed B.named
  have hlocks := B.notSynchronized
  have htab := vx_table (x := yL_entrant) B (hts _ List.mem_cons_self)
  have hK := hG.1
  subst hsz
  have hD := hD0.self (sz := s.heap.size)
  have hA : ∀ q : Nat, s.heap.size ≤ q → (va_A (wX11 cy a o S) s.heap.size) q := fun q h => Or.inr h
  have hS : va_S (va_A (wX11 cy a o S) s.heap.size) s.heap s.heap [] := va_S.rf
  have hl := lv_entry ([.ref (a o), .int p1, .int p2]) (n := 4) (Nat.le_of_ble_eq_true rfl)
  rw [lg_entry_eq]
  generalize (lg_sl ([.ref (a o), .int p1, .int p2]) ++ List.replicate (4 - (lg_sl ([.ref (a o), .int p1, .int p2])).length) Slot.unset).toArray = ls at hl ⊢
  have hl : lv_has ls 4 [(0, .ref (a o)), (1, .int p1), (2, .int p2)] := hl
  rw [DL_entrant] at h
  refine lv_aload_n hx hb dL_entrant_0 rfl (lv_at hl 0 rfl) ?_
  refine lv_iload_n hx hb dL_entrant_1 rfl (lv_at hl 1 rfl) ?_
  refine lv_iload_n hx hb dL_entrant_2 rfl (lv_at hl 2 rfl) ?_
  rcases wxR_o h with ⟨v, e1, rfl⟩ | ⟨i, n, e1, e2, rfl⟩
  · refine tcNi (x0 := res) hG hX hP hD hS hA (pmN1 cy a o S) (fun h1 h2 => vx_runV (As := [.int p1, .int p2]) (rest := []) ⟨hx, hb, hml, hown, hts⟩ (qX11_entrant l hl9 D cy tt a o (gX11_now S) p1 p2 (s.heap).size (Sum.inr res) e1) (cwV 2 hts gL_entrant_X11_entrant rfl rfl rfl (by decide +kernel) ⟨Nat.le_of_ble_eq_true rfl, Nat.le_of_ble_eq_true rfl⟩) ⟨h1, va_recv hK hP (ci := 11) (q0 := 0) rfl rfl, h2⟩ rfl rfl hl.1 rfl (lv_room (Nat.le_of_ble_eq_true rfl)) dL_entrant_3 ⟨Nat.le_of_ble_eq_true rfl, Nat.le_of_ble_eq_true rfl⟩) (c2 := 0) (s2 := 0) rfl rfl (fun H locs hP hS => ?_)
    refine vx_ret (W.widen (k := 1) (n := 6) (by decide) (by decide) ?_)
    exact W.iret (v := res) hx hb hr (fun t ht hW => ⟨⟨res, S, rfl, rfl, by rw [ht]; exact hP, hD⟩, hS.F ht⟩) hS.2.2 dL_entrant_6
  · refine tcT (R0 := Int32) (fun st v t q => by obtain ⟨⟨r, u, -, hu, -⟩, -⟩ := q; cases hu) hG hX hP hD hS hA (pmN1 cy a o S) (fun h1 h2 => vx_runV (As := [.int p1, .int p2]) (rest := []) ⟨hx, hb, hml, hown, hts⟩ (qX11_entrant l hl9 D cy tt a o (gX11_now S) p1 p2 (s.heap).size (Sum.inl n) e1) (cwV 2 hts gL_entrant_X11_entrant rfl rfl rfl (by decide +kernel) ⟨Nat.le_of_ble_eq_true rfl, Nat.le_of_ble_eq_true rfl⟩) ⟨h1, va_recv hK hP (ci := 11) (q0 := 0) rfl rfl, h2⟩ rfl rfl hl.1 rfl (lv_room (Nat.le_of_ble_eq_true rfl)) dL_entrant_3 ⟨Nat.le_of_ble_eq_true rfl, Nat.le_of_ble_eq_true rfl⟩) (fun ce q9 H locs hP hS hce hcv hcl => ?_)
    match i, e2 with
    | 0, e2 =>
      cases Option.some.inj e2
      refine vx_catch hown [] ⟨0, 6, 7, 23⟩ [⟨0, 6, 12, 15⟩] (htab.trans rfl) (fun z hz => nomatch hz) rfl (by decide) (hts (.classLink RL 23 "java/lang/IndexOutOfBoundsException") (by decide +kernel)) (cast_w hG).2.2 hce hcv hcl ?_
      refine lv_astore_n (lv' := [(3, .ref q9), (0, .ref (a o)), (1, .int p1), (2, .int p2)]) hx hb dL_entrant_7 rfl hl (by decide) rfl (fun ls hl => ?_)
      refine lv_sipush (v := (-903 : Int32)) hx hb dL_entrant_8 (by decide) ?_
      refine vx_ret (W.widen (k := 1) (n := 6) (by decide) (by decide) ?_)
      exact W.iret (v := (-903 : Int32)) hx hb hr (fun t ht hW => ⟨⟨(-903 : Int32), S, rfl, rfl, by rw [ht]; exact hP, hD⟩, hS.F ht⟩) hS.2.2 dL_entrant_11
    | 1, e2 =>
      cases Option.some.inj e2
      refine vx_catch hown [⟨0, 6, 7, 23⟩] ⟨0, 6, 12, 15⟩ [] (htab.trans rfl) (fun z hz => by cases List.mem_singleton.mp hz; exact Or.inr ⟨by decide, "java/lang/IndexOutOfBoundsException", hts (.classLink RL 23 "java/lang/IndexOutOfBoundsException") (by decide +kernel), hN.1⟩) rfl (by decide) (hts (.classLink RL 15 "java/lang/IllegalArgumentException") (by decide +kernel)) (cast_w hG).1 hce hcv hcl ?_
      refine lv_astore_n (lv' := [(3, .ref q9), (0, .ref (a o)), (1, .int p1), (2, .int p2)]) hx hb dL_entrant_12 rfl hl (by decide) rfl (fun ls hl => ?_)
      refine lv_sipush (v := (-901 : Int32)) hx hb dL_entrant_13 (by decide) ?_
      refine vx_ret (W.widen (k := 1) (n := 6) (by decide) (by decide) ?_)
      exact W.iret (v := (-901 : Int32)) hx hb hr (fun t ht hW => ⟨⟨(-901 : Int32), S, rfl, rfl, by rw [ht]; exact hP, hD⟩, hS.F ht⟩) hS.2.2 dL_entrant_16
    | i + 2, e2 => cases e2
theorem qL_marked (l : Launch) (hl9 : l.stackTraces = false) (D : va_G) (cy : Nat → ClassId) (tt : Nat → Nat) (a : Nat → Nat) (o : Nat) (S : SX11) (p1 : Int32) (p2 : Int32) (p3 : Int32) (sz : Nat) (res : Int32) (h : DL_marked S p1 p2 p3 = some res) : vx_Met l yL_marked wsL_marked ({ frames := 10, cells := 1, slots := 6, locals := 186 } : Room) (lP D cy tt sz [.ref (a o), .int p1, .int p2, .int p3] (wX11 cy a o S)) (va_Qi (fun r (u : SX11) => (r, u) = (res, S)) (fun u t => mB D sz (wX11 cy a o S) (wX11 cy a o u) t) (va_A (wX11 cy a o S) sz)) (fun _ _ _ => False) 1 6 (va_A (wX11 cy a o S) sz) := by
  refine vx_ofWH (cc := cL_marked) (maxL := 5) (ret := (some .int)) (by decide) rfl ?_
  intro p e s m args below meth c s₁ B hml hv
  obtain ⟨rfl, hsz, hP, hG, hD0, hX, hN⟩ := hv
  have hx := B.exec
  have hb := B.bytes
  have hr := B.returns
  have hts := atoms_spec (ws := wsL_marked) B.pre
  have hown : s.vm.findClass RL = some m.cls := findClass_of_methodNamed B.named
  have hlocks := B.notSynchronized
  have htab := vx_table (x := yL_marked) B (hts _ List.mem_cons_self)
  have hK := hG.1
  subst hsz
  have hD := hD0.self (sz := s.heap.size)
  have hA : ∀ q : Nat, s.heap.size ≤ q → (va_A (wX11 cy a o S) s.heap.size) q := fun q h => Or.inr h
  have hS : va_S (va_A (wX11 cy a o S) s.heap.size) s.heap s.heap [] := va_S.rf
  have hl := lv_entry ([.ref (a o), .int p1, .int p2, .int p3]) (n := 5) (Nat.le_of_ble_eq_true rfl)
  rw [lg_entry_eq]
  generalize (lg_sl ([.ref (a o), .int p1, .int p2, .int p3]) ++ List.replicate (5 - (lg_sl ([.ref (a o), .int p1, .int p2, .int p3])).length) Slot.unset).toArray = ls at hl ⊢
  have hl : lv_has ls 5 [(0, .ref (a o)), (1, .int p1), (2, .int p2), (3, .int p3)] := hl
  rw [DL_marked] at h
  refine lv_aload_n hx hb dL_marked_0 rfl (lv_at hl 0 rfl) ?_
  refine lv_iload_n hx hb dL_marked_1 rfl (lv_at hl 1 rfl) ?_
  refine lv_iload_n hx hb dL_marked_2 rfl (lv_at hl 2 rfl) ?_
  refine lv_iload_n hx hb dL_marked_3 rfl (lv_at hl 3 rfl) ?_
  rcases wxR_o h with ⟨v, e1, rfl⟩ | ⟨i, n, e1, e2, rfl⟩
  · refine tcNi (x0 := res) hG hX hP hD hS hA (pmN1 cy a o S) (fun h1 h2 => vx_runV (As := [.int p1, .int p2, .int p3]) (rest := []) ⟨hx, hb, hml, hown, hts⟩ (qX11_marked l hl9 D cy tt a o (gX11_now S) p1 p2 p3 (s.heap).size (Sum.inr res) e1) (cwV 3 hts gL_marked_X11_marked rfl rfl rfl (by decide +kernel) ⟨Nat.le_of_ble_eq_true rfl, Nat.le_of_ble_eq_true rfl⟩) ⟨h1, va_recv hK hP (ci := 11) (q0 := 0) rfl rfl, h2⟩ rfl rfl hl.1 rfl (lv_room (Nat.le_of_ble_eq_true rfl)) dL_marked_4 ⟨Nat.le_of_ble_eq_true rfl, Nat.le_of_ble_eq_true rfl⟩) (c2 := 0) (s2 := 0) rfl rfl (fun H locs hP hS => ?_)
    refine vx_ret (W.widen (k := 1) (n := 6) (by decide) (by decide) ?_)
    exact W.iret (v := res) hx hb hr (fun t ht hW => ⟨⟨res, S, rfl, rfl, by rw [ht]; exact hP, hD⟩, hS.F ht⟩) hS.2.2 dL_marked_7
  · refine tcT (R0 := Int32) (fun st v t q => by obtain ⟨⟨r, u, -, hu, -⟩, -⟩ := q; cases hu) hG hX hP hD hS hA (pmN1 cy a o S) (fun h1 h2 => vx_runV (As := [.int p1, .int p2, .int p3]) (rest := []) ⟨hx, hb, hml, hown, hts⟩ (qX11_marked l hl9 D cy tt a o (gX11_now S) p1 p2 p3 (s.heap).size (Sum.inl n) e1) (cwV 3 hts gL_marked_X11_marked rfl rfl rfl (by decide +kernel) ⟨Nat.le_of_ble_eq_true rfl, Nat.le_of_ble_eq_true rfl⟩) ⟨h1, va_recv hK hP (ci := 11) (q0 := 0) rfl rfl, h2⟩ rfl rfl hl.1 rfl (lv_room (Nat.le_of_ble_eq_true rfl)) dL_marked_4 ⟨Nat.le_of_ble_eq_true rfl, Nat.le_of_ble_eq_true rfl⟩) (fun ce q9 H locs hP hS hce hcv hcl => ?_)
    match i, e2 with
    | 0, e2 =>
      cases Option.some.inj e2
      refine vx_catch hown [] ⟨0, 7, 8, 23⟩ [] (htab.trans rfl) (fun z hz => nomatch hz) rfl (by decide) (hts (.classLink RL 23 "java/lang/IndexOutOfBoundsException") (by decide +kernel)) (cast_w hG).2.2 hce hcv hcl ?_
      refine lv_astore (lv' := [(4, .ref q9), (0, .ref (a o)), (1, .int p1), (2, .int p2), (3, .int p3)]) hx hb dL_marked_8 hl (by decide) rfl (fun ls hl => ?_)
      refine lv_sipush (v := (-903 : Int32)) hx hb dL_marked_10 (by decide) ?_
      refine vx_ret (W.widen (k := 1) (n := 6) (by decide) (by decide) ?_)
      exact W.iret (v := (-903 : Int32)) hx hb hr (fun t ht hW => ⟨⟨(-903 : Int32), S, rfl, rfl, by rw [ht]; exact hP, hD⟩, hS.F ht⟩) hS.2.2 dL_marked_13
    | i + 1, e2 => cases e2
theorem qL_history (l : Launch) (hl9 : l.stackTraces = false) (D : va_G) (cy : Nat → ClassId) (tt : Nat → Nat) (a : Nat → Nat) (o : Nat) (S : SX11) (p1 : Int32) (p2 : Int32) (sz : Nat) (res : Int32) (h : DL_history S p1 p2 = some res) : vx_Met l yL_history wsL_history ({ frames := 10, cells := 1, slots := 6, locals := 185 } : Room) (lP D cy tt sz [.ref (a o), .int p1, .int p2] (wX11 cy a o S)) (va_Qi (fun r (u : SX11) => (r, u) = (res, S)) (fun u t => mB D sz (wX11 cy a o S) (wX11 cy a o u) t) (va_A (wX11 cy a o S) sz)) (fun _ _ _ => False) 1 6 (va_A (wX11 cy a o S) sz) := by
  refine vx_ofWH (cc := cL_history) (maxL := 4) (ret := (some .int)) (by decide) rfl ?_
  intro p e s m args below meth c s₁ B hml hv
  obtain ⟨rfl, hsz, hP, hG, hD0, hX, hN⟩ := hv
  have hx := B.exec
  have hb := B.bytes
  have hr := B.returns
  have hts := atoms_spec (ws := wsL_history) B.pre
  have hown : s.vm.findClass RL = some m.cls := findClass_of_methodNamed B.named
  have hlocks := B.notSynchronized
  have htab := vx_table (x := yL_history) B (hts _ List.mem_cons_self)
  have hK := hG.1
  subst hsz
  have hD := hD0.self (sz := s.heap.size)
  have hA : ∀ q : Nat, s.heap.size ≤ q → (va_A (wX11 cy a o S) s.heap.size) q := fun q h => Or.inr h
  have hS : va_S (va_A (wX11 cy a o S) s.heap.size) s.heap s.heap [] := va_S.rf
  have hl := lv_entry ([.ref (a o), .int p1, .int p2]) (n := 4) (Nat.le_of_ble_eq_true rfl)
  rw [lg_entry_eq]
  generalize (lg_sl ([.ref (a o), .int p1, .int p2]) ++ List.replicate (4 - (lg_sl ([.ref (a o), .int p1, .int p2])).length) Slot.unset).toArray = ls at hl ⊢
  have hl : lv_has ls 4 [(0, .ref (a o)), (1, .int p1), (2, .int p2)] := hl
  rw [DL_history] at h
  refine lv_aload_n hx hb dL_history_0 rfl (lv_at hl 0 rfl) ?_
  refine lv_iload_n hx hb dL_history_1 rfl (lv_at hl 1 rfl) ?_
  refine lv_iload_n hx hb dL_history_2 rfl (lv_at hl 2 rfl) ?_
  rcases wxR_o h with ⟨v, e1, rfl⟩ | ⟨i, n, e1, e2, rfl⟩
  · refine tcNi (x0 := res) hG hX hP hD hS hA (pmN1 cy a o S) (fun h1 h2 => vx_runV (As := [.int p1, .int p2]) (rest := []) ⟨hx, hb, hml, hown, hts⟩ (qX11_history l hl9 D cy tt a o (gX11_now S) p1 p2 (s.heap).size (Sum.inr res) e1) (cwV 2 hts gL_history_X11_history rfl rfl rfl (by decide +kernel) ⟨Nat.le_of_ble_eq_true rfl, Nat.le_of_ble_eq_true rfl⟩) ⟨h1, va_recv hK hP (ci := 11) (q0 := 0) rfl rfl, h2⟩ rfl rfl hl.1 rfl (lv_room (Nat.le_of_ble_eq_true rfl)) dL_history_3 ⟨Nat.le_of_ble_eq_true rfl, Nat.le_of_ble_eq_true rfl⟩) (c2 := 0) (s2 := 0) rfl rfl (fun H locs hP hS => ?_)
    refine vx_ret (W.widen (k := 1) (n := 6) (by decide) (by decide) ?_)
    exact W.iret (v := res) hx hb hr (fun t ht hW => ⟨⟨res, S, rfl, rfl, by rw [ht]; exact hP, hD⟩, hS.F ht⟩) hS.2.2 dL_history_6
  · refine tcT (R0 := Int32) (fun st v t q => by obtain ⟨⟨r, u, -, hu, -⟩, -⟩ := q; cases hu) hG hX hP hD hS hA (pmN1 cy a o S) (fun h1 h2 => vx_runV (As := [.int p1, .int p2]) (rest := []) ⟨hx, hb, hml, hown, hts⟩ (qX11_history l hl9 D cy tt a o (gX11_now S) p1 p2 (s.heap).size (Sum.inl n) e1) (cwV 2 hts gL_history_X11_history rfl rfl rfl (by decide +kernel) ⟨Nat.le_of_ble_eq_true rfl, Nat.le_of_ble_eq_true rfl⟩) ⟨h1, va_recv hK hP (ci := 11) (q0 := 0) rfl rfl, h2⟩ rfl rfl hl.1 rfl (lv_room (Nat.le_of_ble_eq_true rfl)) dL_history_3 ⟨Nat.le_of_ble_eq_true rfl, Nat.le_of_ble_eq_true rfl⟩) (fun ce q9 H locs hP hS hce hcv hcl => ?_)
    match i, e2 with
    | 0, e2 =>
      cases Option.some.inj e2
      refine vx_catch hown [] ⟨0, 6, 7, 23⟩ [] (htab.trans rfl) (fun z hz => nomatch hz) rfl (by decide) (hts (.classLink RL 23 "java/lang/IndexOutOfBoundsException") (by decide +kernel)) (cast_w hG).2.2 hce hcv hcl ?_
      refine lv_astore_n (lv' := [(3, .ref q9), (0, .ref (a o)), (1, .int p1), (2, .int p2)]) hx hb dL_history_7 rfl hl (by decide) rfl (fun ls hl => ?_)
      refine lv_sipush (v := (-903 : Int32)) hx hb dL_history_8 (by decide) ?_
      refine vx_ret (W.widen (k := 1) (n := 6) (by decide) (by decide) ?_)
      exact W.iret (v := (-903 : Int32)) hx hb hr (fun t ht hW => ⟨⟨(-903 : Int32), S, rfl, rfl, by rw [ht]; exact hP, hD⟩, hS.F ht⟩) hS.2.2 dL_history_11
    | i + 1, e2 => cases e2
theorem qL_neededMark (l : Launch) (hl9 : l.stackTraces = false) (D : va_G) (cy : Nat → ClassId) (tt : Nat → Nat) (a : Nat → Nat) (o : Nat) (S : SX11) (p1 : Int32) (p2 : Int32) (p3 : Int32) (sz : Nat) (res : Int32) (h : DL_neededMark S p1 p2 p3 = some res) : vx_Met l yL_neededMark wsL_neededMark ({ frames := 10, cells := 1, slots := 6, locals := 187 } : Room) (lP D cy tt sz [.ref (a o), .int p1, .int p2, .int p3] (wX11 cy a o S)) (va_Qi (fun r (u : SX11) => (r, u) = (res, S)) (fun u t => mB D sz (wX11 cy a o S) (wX11 cy a o u) t) (va_A (wX11 cy a o S) sz)) (fun _ _ _ => False) 1 6 (va_A (wX11 cy a o S) sz) := by
  refine vx_ofWH (cc := cL_neededMark) (maxL := 5) (ret := (some .int)) (by decide) rfl ?_
  intro p e s m args below meth c s₁ B hml hv
  obtain ⟨rfl, hsz, hP, hG, hD0, hX, hN⟩ := hv
  have hx := B.exec
  have hb := B.bytes
  have hr := B.returns
  have hts := atoms_spec (ws := wsL_neededMark) B.pre
  have hown : s.vm.findClass RL = some m.cls := findClass_of_methodNamed B.named
  have hlocks := B.notSynchronized
  have htab := vx_table (x := yL_neededMark) B (hts _ List.mem_cons_self)
  have hK := hG.1
  subst hsz
  have hD := hD0.self (sz := s.heap.size)
  have hA : ∀ q : Nat, s.heap.size ≤ q → (va_A (wX11 cy a o S) s.heap.size) q := fun q h => Or.inr h
  have hS : va_S (va_A (wX11 cy a o S) s.heap.size) s.heap s.heap [] := va_S.rf
  have hl := lv_entry ([.ref (a o), .int p1, .int p2, .int p3]) (n := 5) (Nat.le_of_ble_eq_true rfl)
  rw [lg_entry_eq]
  generalize (lg_sl ([.ref (a o), .int p1, .int p2, .int p3]) ++ List.replicate (5 - (lg_sl ([.ref (a o), .int p1, .int p2, .int p3])).length) Slot.unset).toArray = ls at hl ⊢
  have hl : lv_has ls 5 [(0, .ref (a o)), (1, .int p1), (2, .int p2), (3, .int p3)] := hl
  rw [DL_neededMark] at h
  refine lv_aload_n hx hb dL_neededMark_0 rfl (lv_at hl 0 rfl) ?_
  refine lv_iload_n hx hb dL_neededMark_1 rfl (lv_at hl 1 rfl) ?_
  refine lv_iload_n hx hb dL_neededMark_2 rfl (lv_at hl 2 rfl) ?_
  refine lv_iload_n hx hb dL_neededMark_3 rfl (lv_at hl 3 rfl) ?_
  rcases wxR_o h with ⟨v, e1, rfl⟩ | ⟨i, n, e1, e2, rfl⟩
  · refine tcNi (x0 := res) hG hX hP hD hS hA (pmN1 cy a o S) (fun h1 h2 => vx_runV (As := [.int p1, .int p2, .int p3]) (rest := []) ⟨hx, hb, hml, hown, hts⟩ (qX11_neededMark l hl9 D cy tt a o (gX11_now S) p1 p2 p3 (s.heap).size (Sum.inr res) e1) (cwV 3 hts gL_neededMark_X11_neededMark rfl rfl rfl (by decide +kernel) ⟨Nat.le_of_ble_eq_true rfl, Nat.le_of_ble_eq_true rfl⟩) ⟨h1, va_recv hK hP (ci := 11) (q0 := 0) rfl rfl, h2⟩ rfl rfl hl.1 rfl (lv_room (Nat.le_of_ble_eq_true rfl)) dL_neededMark_4 ⟨Nat.le_of_ble_eq_true rfl, Nat.le_of_ble_eq_true rfl⟩) (c2 := 0) (s2 := 0) rfl rfl (fun H locs hP hS => ?_)
    refine vx_ret (W.widen (k := 1) (n := 6) (by decide) (by decide) ?_)
    exact W.iret (v := res) hx hb hr (fun t ht hW => ⟨⟨res, S, rfl, rfl, by rw [ht]; exact hP, hD⟩, hS.F ht⟩) hS.2.2 dL_neededMark_7
  · refine tcT (R0 := Int32) (fun st v t q => by obtain ⟨⟨r, u, -, hu, -⟩, -⟩ := q; cases hu) hG hX hP hD hS hA (pmN1 cy a o S) (fun h1 h2 => vx_runV (As := [.int p1, .int p2, .int p3]) (rest := []) ⟨hx, hb, hml, hown, hts⟩ (qX11_neededMark l hl9 D cy tt a o (gX11_now S) p1 p2 p3 (s.heap).size (Sum.inl n) e1) (cwV 3 hts gL_neededMark_X11_neededMark rfl rfl rfl (by decide +kernel) ⟨Nat.le_of_ble_eq_true rfl, Nat.le_of_ble_eq_true rfl⟩) ⟨h1, va_recv hK hP (ci := 11) (q0 := 0) rfl rfl, h2⟩ rfl rfl hl.1 rfl (lv_room (Nat.le_of_ble_eq_true rfl)) dL_neededMark_4 ⟨Nat.le_of_ble_eq_true rfl, Nat.le_of_ble_eq_true rfl⟩) (fun ce q9 H locs hP hS hce hcv hcl => ?_)
    match i, e2 with
    | 0, e2 =>
      cases Option.some.inj e2
      refine vx_catch hown [] ⟨0, 7, 8, 23⟩ [⟨0, 7, 14, 15⟩, ⟨0, 7, 20, 17⟩] (htab.trans rfl) (fun z hz => nomatch hz) rfl (by decide) (hts (.classLink RL 23 "java/lang/IndexOutOfBoundsException") (by decide +kernel)) (cast_w hG).2.2 hce hcv hcl ?_
      refine lv_astore (lv' := [(4, .ref q9), (0, .ref (a o)), (1, .int p1), (2, .int p2), (3, .int p3)]) hx hb dL_neededMark_8 hl (by decide) rfl (fun ls hl => ?_)
      refine lv_sipush (v := (-903 : Int32)) hx hb dL_neededMark_10 (by decide) ?_
      refine vx_ret (W.widen (k := 1) (n := 6) (by decide) (by decide) ?_)
      exact W.iret (v := (-903 : Int32)) hx hb hr (fun t ht hW => ⟨⟨(-903 : Int32), S, rfl, rfl, by rw [ht]; exact hP, hD⟩, hS.F ht⟩) hS.2.2 dL_neededMark_13
    | 1, e2 =>
      cases Option.some.inj e2
      refine vx_catch hown [⟨0, 7, 8, 23⟩] ⟨0, 7, 14, 15⟩ [⟨0, 7, 20, 17⟩] (htab.trans rfl) (fun z hz => by cases List.mem_singleton.mp hz; exact Or.inr ⟨by decide, "java/lang/IndexOutOfBoundsException", hts (.classLink RL 23 "java/lang/IndexOutOfBoundsException") (by decide +kernel), hN.1⟩) rfl (by decide) (hts (.classLink RL 15 "java/lang/IllegalArgumentException") (by decide +kernel)) (cast_w hG).1 hce hcv hcl ?_
      refine lv_astore (lv' := [(4, .ref q9), (0, .ref (a o)), (1, .int p1), (2, .int p2), (3, .int p3)]) hx hb dL_neededMark_14 hl (by decide) rfl (fun ls hl => ?_)
      refine lv_sipush (v := (-901 : Int32)) hx hb dL_neededMark_16 (by decide) ?_
      refine vx_ret (W.widen (k := 1) (n := 6) (by decide) (by decide) ?_)
      exact W.iret (v := (-901 : Int32)) hx hb hr (fun t ht hW => ⟨⟨(-901 : Int32), S, rfl, rfl, by rw [ht]; exact hP, hD⟩, hS.F ht⟩) hS.2.2 dL_neededMark_19
    | 2, e2 =>
      cases Option.some.inj e2
      refine vx_catch hown [⟨0, 7, 8, 23⟩, ⟨0, 7, 14, 15⟩] ⟨0, 7, 20, 17⟩ [] (htab.trans rfl) (fun z hz => by
        rcases List.mem_cons.mp hz with hz | hz
        · cases hz; exact Or.inr ⟨by decide, "java/lang/IndexOutOfBoundsException", hts (.classLink RL 23 "java/lang/IndexOutOfBoundsException") (by decide +kernel), hN.2.1⟩
        · cases List.mem_singleton.mp hz; exact Or.inr ⟨by decide, "java/lang/IllegalArgumentException", hts (.classLink RL 15 "java/lang/IllegalArgumentException") (by decide +kernel), hN.2.2⟩) rfl (by decide) (hts (.classLink RL 17 "java/lang/IllegalStateException") (by decide +kernel)) (cast_w hG).2.1 hce hcv hcl ?_
      refine lv_astore (lv' := [(4, .ref q9), (0, .ref (a o)), (1, .int p1), (2, .int p2), (3, .int p3)]) hx hb dL_neededMark_20 hl (by decide) rfl (fun ls hl => ?_)
      refine lv_sipush (v := (-902 : Int32)) hx hb dL_neededMark_22 (by decide) ?_
      refine vx_ret (W.widen (k := 1) (n := 6) (by decide) (by decide) ?_)
      exact W.iret (v := (-902 : Int32)) hx hb hr (fun t ht hW => ⟨⟨(-902 : Int32), S, rfl, rfl, by rw [ht]; exact hP, hD⟩, hS.F ht⟩) hS.2.2 dL_neededMark_25
    | i + 3, e2 => cases e2
