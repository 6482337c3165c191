set_option maxHeartbeats 4000000 in
set_option maxRecDepth 100000 in
theorem qX5_dropOldest (l : Launch) (D : va_G) (cy : Nat → ClassId) (a : Nat → Nat) (o : Nat) (S : SX5)  (sz : Nat) (rs : SX5) (h : DX5_dropOldest S = some rs) : Met l yX5_dropOldest wsX5_dropOldest ({ frames := 0, cells := 0, slots := 0, locals := 0 } : Room) (mP D cy sz [.ref (a o)] (wX5 cy a o S)) (va_Qv (fun (u : SX5) => u = rs) (fun u t => mB D sz (wX5 cy a o S) (wX5 cy a o u) t) (va_A (wX5 cy a o S) sz)) 0 0 (va_A (wX5 cy a o S) sz) := by
  refine Met.ofW (cc := cX5_dropOldest) (maxL := 3) (ret := none) (by decide) rfl ?_
  intro p e s m args below meth c s₁ B hml hv
  obtain ⟨rfl, hsz, hP, hG, hD0⟩ := hv
  have hx := B.exec
  have hb := B.bytes
  have hr := B.returns
  have hts := atoms_spec (ws := wsX5_dropOldest) B.pre
  have hown : s.vm.findClass RX5 = some m.cls := findClass_of_methodNamed B.named
  have hlocks := B.notSynchronized
  have hK := hG.1
  subst hsz
  have hD := hD0.self (sz := s.heap.size)
  have hA : ∀ q : Nat, s.heap.size ≤ q → (va_A (wX5 cy a o S) s.heap.size) q := fun q h => Or.inr h
  have hS : va_S (va_A (wX5 cy a o S) s.heap.size) s.heap s.heap [] := va_S.rf
  have hinX5 := (by decide +kernel : ∀ w ∈ wsX50, w ∈ wsX5_dropOldest)
  have hf11 := hts (.fieldLink RX5 11 "PianoRounds$Records" "kept" "[LPianoRounds$Competition;") (by decide +kernel)
  have hf18 := hts (.fieldLink RX5 18 "PianoRounds$Records" "count" "I") (by decide +kernel)
  have hl := lv_entry ([.ref (a o)]) (n := 3) (Nat.le_of_ble_eq_true rfl)
  rw [lg_entry_eq]
  generalize (lg_sl ([.ref (a o)]) ++ List.replicate (3 - (lg_sl ([.ref (a o)])).length) Slot.unset).toArray = ls at hl ⊢
  have hl : lv_has ls 3 [(0, .ref (a o))] := hl
  rw [DX5_dropOldest] at h
  refine lv_aload_n hx hb dX5_dropOldest_0 rfl (lv_at hl 0 rfl) ?_
  refine va_get (D := D) (ci := 5) (v := .ref (a (o + 1))) (C := RX5) (T := TX5) (N := 2) hx hb hts hinX5 hown hK hP 0 rfl rfl 1 (by decide) hf11 (fun _ h9 => h9) rfl dX5_dropOldest_1 ?_
  refine lv_iconst (v := (0 : Int32)) hx hb dX5_dropOldest_4 (by decide) ?_
  obtain ⟨g1, h⟩ := gd_some h
  have g1 := of_decide_eq_true g1
  refine r_aldK (o := o + 1) (ad := a) (rho := ((gX5_kept S)).2) (j := 0) hx hb hK hP 1 1 rfl rfl (vp_in_nI (n := 0) (N := 4) (by decide) (by decide)) (nI_clamp (n := 0) (by decide)) dX5_dropOldest_5 ?_
  refine lv_astore_n (lv' := [(1, .ref (a (o + 1 + 1 + 53 * (((gX5_kept S)).2 0)))), (0, .ref (a o))]) hx hb dX5_dropOldest_6 rfl hl (by decide) rfl (fun ls hl => ?_)
  refine lv_iconst (v := (1 : Int32)) hx hb dX5_dropOldest_7 (by decide) ?_
  refine lv_istore_n (lv' := [(2, .int (1 : Int32)), (1, .ref (a (o + 1 + 1 + 53 * (((gX5_kept S)).2 0)))), (0, .ref (a o))]) hx hb dX5_dropOldest_8 rfl hl (by decide) rfl (fun ls hl => ?_)
  have L16 : ∀ (k3 : SX5 → Option (SX5)) (hk3 : ∀ (S4 : SX5) (H : Heap) (locs : List Loc) (ls : Array Slot), k3 S4 = some rs → va_P D vwCl (wX5 cy a o S4) H → va_D (va_A (wX5 cy a o S) s.heap.size) (wX5 cy a o S4) → va_S (va_A (wX5 cy a o S) s.heap.size) s.heap H locs → lv_has ls 3 [(0, .ref (a o)), (1, .ref (a (o + 1 + 1 + 53 * (((gX5_kept S)).2 0))))] → W p l e (headSpec wsX5_dropOldest ({ frames := 0, cells := 0, slots := 0, locals := 0 } : Room)).room s m ([.ref (a o)] : List Value).toArray below meth c H locs 0 0 (MQ below (va_Qv (fun (u : SX5) => u = rs) (fun u t => mB D s.heap.size (wX5 cy a o S) (wX5 cy a o u) t) (va_A (wX5 cy a o S) s.heap.size)) ([.ref (a o)] : List Value).toArray s 0 0 (va_A (wX5 cy a o S) s.heap.size)) (F0 m 34 ls [])) (f : Nat) (v2_10 : Int32) (S2 : SX5) (H : Heap) (locs : List Loc) (ls : Array Slot), DX5_dropOldest_L9 k3 f v2_10 S2 = some rs → va_P D vwCl (wX5 cy a o S2) H → va_D (va_A (wX5 cy a o S) s.heap.size) (wX5 cy a o S2) → va_S (va_A (wX5 cy a o S) s.heap.size) s.heap H locs → lv_has ls 3 [(0, .ref (a o)), (1, .ref (a (o + 1 + 1 + 53 * (((gX5_kept S)).2 0)))), (2, .int v2_10)] → W p l e (headSpec wsX5_dropOldest ({ frames := 0, cells := 0, slots := 0, locals := 0 } : Room)).room s m ([.ref (a o)] : List Value).toArray below meth c H locs 0 0 (MQ below (va_Qv (fun (u : SX5) => u = rs) (fun u t => mB D s.heap.size (wX5 cy a o S) (wX5 cy a o u) t) (va_A (wX5 cy a o S) s.heap.size)) ([.ref (a o)] : List Value).toArray s 0 0 (va_A (wX5 cy a o S) s.heap.size)) (F0 m 9 ls []) := by
    intro k3 hk3 f
    induction f with
    | zero =>
      intro v2_10 S2 H locs ls h hP hD hS hl
      rw [DX5_dropOldest_L9] at h
      cases h
    | succ f ih =>
      intro v2_10 S2 H locs ls h hP hD hS hl
      rw [DX5_dropOldest_L9] at h
      refine lv_iload_n hx hb dX5_dropOldest_9 rfl (lv_at hl 2 rfl) ?_
      refine lv_iconst (v := (4 : Int32)) hx hb dX5_dropOldest_10 (by decide) ?_
      refine lv_icmp_ge (tgt := 34) hx hb dX5_dropOldest_11 (by decide) (fun cc => ?_) (fun cc => ?_)
      · have h := ite_p cc h
        exact hk3 S2 H locs ls h hP hD hS (lv_sub hl [0, 1] rfl)
      · have h := ite_n cc h
        refine lv_aload_n hx hb dX5_dropOldest_14 rfl (lv_at hl 0 rfl) ?_
        refine va_get (D := D) (ci := 5) (v := .ref (a (o + 1))) (C := RX5) (T := TX5) (N := 2) hx hb hts hinX5 hown hK hP 0 rfl rfl 1 (by decide) hf11 (fun _ h9 => h9) rfl dX5_dropOldest_15 ?_
        refine lv_iload_n hx hb dX5_dropOldest_18 rfl (lv_at hl 2 rfl) ?_
        refine lv_iconst (v := (1 : Int32)) hx hb dX5_dropOldest_19 (by decide) ?_
        refine lv_isub hx hb dX5_dropOldest_20 ?_
        refine lv_aload_n hx hb dX5_dropOldest_21 rfl (lv_at hl 0 rfl) ?_
        refine va_get (D := D) (ci := 5) (v := .ref (a (o + 1))) (C := RX5) (T := TX5) (N := 2) hx hb hts hinX5 hown hK hP 0 rfl rfl 1 (by decide) hf11 (fun _ h9 => h9) rfl dX5_dropOldest_22 ?_
        refine lv_iload_n hx hb dX5_dropOldest_25 rfl (lv_at hl 2 rfl) ?_
        obtain ⟨g11, h⟩ := gd_some h
        obtain ⟨g12, h⟩ := gd_some h
        have g12 := of_decide_eq_true g12
        refine r_aldK (o := o + 1) (ad := a) (rho := ((gX5_kept S2)).2) (j := (v2_10).toNatClampNeg) hx hb hK hP 1 1 rfl rfl (gIn_in g11) rfl dX5_dropOldest_26 ?_
        obtain ⟨g13, h⟩ := gd_some h
        refine r_astK (o := o + 1) (ad := a) (rho := ((gX5_kept S2)).2) (r := (((gX5_kept S2)).2 ((v2_10).toNatClampNeg))) (j := ((v2_10 - (1 : Int32))).toNatClampNeg) (ws' := (wX5 cy a o (uX5_kept S2 (((gX5_kept S2)).1, updN ((gX5_kept S2)).2 (((v2_10 - (1 : Int32))).toNatClampNeg) (((gX5_kept S2)).2 ((v2_10).toNatClampNeg)))))) hx hb hK hP hD hS 1 1 rfl rfl (all4 (P := fun b => ∃ (qk : Nat) (vs : List Value), (wX5 cy a o S2)[qk]? = some (a (o + 1 + 1 + 53 * b), .inr (0, vs))) ⟨2, _, rfl⟩ ⟨55, _, rfl⟩ ⟨108, _, rfl⟩ ⟨161, _, rfl⟩ _ g12) (gIn_in g13) rfl (gIn_lt g13) rfl dX5_dropOldest_27 (fun H locs hP hD hS => ?_)
        obtain ⟨S14, eS15, h⟩ := lt_elim h
        have hP : va_P D vwCl (wX5 cy a o S14) H := by rw [eS15]; exact hP
        have hD : va_D (va_A (wX5 cy a o S) s.heap.size) (wX5 cy a o S14) := by rw [eS15]; exact hD
        refine lv_iinc (v := (v2_10 + (1 : Int32))) (lv' := [(2, .int (v2_10 + (1 : Int32))), (0, .ref (a o)), (1, .ref (a (o + 1 + 1 + 53 * (((gX5_kept S)).2 0))))]) hx hb dX5_dropOldest_28 hl (k := 2) rfl (by rfl) (by decide) rfl (fun ls hl => ?_)
        refine lv_goto (tgt := 9) hx hb dX5_dropOldest_31 (by decide) ?_
        exact ih (v2_10 + (1 : Int32)) S14 H locs ls h hP hD hS (lv_sub hl [1, 2, 0] rfl)
  refine L16  _ ?_ fu (1 : Int32) S s.heap [] ls h hP hD hS (lv_sub hl [2, 1, 0] rfl)
  intro S5 H locs ls h hP hD hS hl
  refine lv_aload_n hx hb dX5_dropOldest_34 rfl (lv_at hl 0 rfl) ?_
  refine va_get (D := D) (ci := 5) (v := .ref (a (o + 1))) (C := RX5) (T := TX5) (N := 2) hx hb hts hinX5 hown hK hP 0 rfl rfl 1 (by decide) hf11 (fun _ h9 => h9) rfl dX5_dropOldest_35 ?_
  refine lv_iconst (v := (3 : Int32)) hx hb dX5_dropOldest_38 (by decide) ?_
  refine lv_aload_n hx hb dX5_dropOldest_39 rfl (lv_at hl 1 rfl) ?_
  refine r_astK (o := o + 1) (ad := a) (rho := ((gX5_kept S5)).2) (r := (((gX5_kept S)).2 0)) (j := 3) (ws' := (wX5 cy a o (uX5_kept S5 (((gX5_kept S5)).1, updN ((gX5_kept S5)).2 3 (((gX5_kept S)).2 0))))) hx hb hK hP hD hS 1 1 rfl rfl (all4 (P := fun b => ∃ (qk : Nat) (vs : List Value), (wX5 cy a o S5)[qk]? = some (a (o + 1 + 1 + 53 * b), .inr (0, vs))) ⟨2, _, rfl⟩ ⟨55, _, rfl⟩ ⟨108, _, rfl⟩ ⟨161, _, rfl⟩ _ g1) (vp_in_nI (n := 3) (N := 4) (by decide) (by decide)) (nI_clamp (n := 3) (by decide)) (by decide) rfl dX5_dropOldest_40 (fun H locs hP hD hS => ?_)
  obtain ⟨S6, eS7, h⟩ := lt_elim h
  have hP : va_P D vwCl (wX5 cy a o S6) H := by rw [eS7]; exact hP
  have hD : va_D (va_A (wX5 cy a o S) s.heap.size) (wX5 cy a o S6) := by rw [eS7]; exact hD
  refine lv_aload_n hx hb dX5_dropOldest_41 rfl (lv_at hl 0 rfl) ?_
  refine lv_dup hx hb dX5_dropOldest_42 rfl ?_
  refine va_get (D := D) (ci := 5) (v := .int (gX5_count S6)) (C := RX5) (T := TX5) (N := 2) hx hb hts hinX5 hown hK hP 0 rfl rfl 0 (by decide) hf18 (fun _ h9 => h9) rfl dX5_dropOldest_43 ?_
  refine lv_iconst (v := (1 : Int32)) hx hb dX5_dropOldest_46 (by decide) ?_
  refine lv_isub hx hb dX5_dropOldest_47 ?_
  refine va_put (D := D) (ci := 5) (v := .int ((gX5_count S6) - (1 : Int32))) (ty := .int) (C := RX5) (T := TX5) (N := 2) hx hb hts hinX5 tyX5 tyX5_ok nmX5 hown hK hP hD hS 0 rfl rfl 0 (by decide) hf18 (fun _ h9 => h9) rfl (by decide +kernel) rfl rfl (Nat.le_of_ble_eq_true rfl) dX5_dropOldest_48 (fun H locs hP hD hS => ?_)
  have hP : va_P D vwCl (wX5 cy a o (uX5_count S6 ((gX5_count S6) - (1 : Int32)))) H := hP
  have hD : va_D (va_A (wX5 cy a o S) s.heap.size) (wX5 cy a o (uX5_count S6 ((gX5_count S6) - (1 : Int32)))) := hD
  obtain ⟨S8, eS9, h⟩ := lt_elim h
  have hP : va_P D vwCl (wX5 cy a o S8) H := by rw [eS9]; exact hP
  have hD : va_D (va_A (wX5 cy a o S) s.heap.size) (wX5 cy a o S8) := by rw [eS9]; exact hD
  exact W.vret hx hb hr (fun t ht hW => ⟨⟨S8, rfl, some_in h, by rw [ht]; exact hP, hD⟩, hS.F ht⟩) hS.2.2 dX5_dropOldest_51
set_option maxHeartbeats 4000000 in
set_option maxRecDepth 100000 in
theorem qX5_keep (l : Launch) (D : va_G) (cy : Nat → ClassId) (a : Nat → Nat) (o : Nat) (b1 : Nat → Nat) (z1 : Nat) (S : SX5) (T1 : SX0)  (sz : Nat) (rs : SX5) (h : DX5_keep S T1 = some rs) : Met l yX5_keep wsX5_keep ({ frames := 5, cells := 0, slots := 0, locals := 185 } : Room) (mP D cy sz [.ref (a o), .ref (b1 z1)] ((wX5 cy a o S) ++ (wX0 cy b1 z1 T1))) (va_Qv (fun (u : SX5) => u = rs) (fun u t => mB D sz ((wX5 cy a o S) ++ (wX0 cy b1 z1 T1)) ((wX5 cy a o u) ++ (wX0 cy b1 z1 T1)) t) (va_A ((wX5 cy a o S) ++ (wX0 cy b1 z1 T1)) sz)) 0 0 (va_A ((wX5 cy a o S) ++ (wX0 cy b1 z1 T1)) sz) := by
  refine Met.ofW (cc := cX5_keep) (maxL := 2) (ret := none) (by decide) rfl ?_
  intro p e s m args below meth c s₁ B hml hv
  obtain ⟨rfl, hsz, hP, hG, hD0⟩ := hv
  have hx := B.exec
  have hb := B.bytes
  have hr := B.returns
  have hts := atoms_spec (ws := wsX5_keep) B.pre
  have hown : s.vm.findClass RX5 = some m.cls := findClass_of_methodNamed B.named
  have hlocks := B.notSynchronized
  have hK := hG.1
  subst hsz
  have hD := hD0.self (sz := s.heap.size)
  have hA : ∀ q : Nat, s.heap.size ≤ q → (va_A ((wX5 cy a o S) ++ (wX0 cy b1 z1 T1)) s.heap.size) q := fun q h => Or.inr h
  have hS : va_S (va_A ((wX5 cy a o S) ++ (wX0 cy b1 z1 T1)) s.heap.size) s.heap s.heap [] := va_S.rf
  have hinX5 := (by decide +kernel : ∀ w ∈ wsX50, w ∈ wsX5_keep)
  have hf18 := hts (.fieldLink RX5 18 "PianoRounds$Records" "count" "I") (by decide +kernel)
  have hf11 := hts (.fieldLink RX5 11 "PianoRounds$Records" "kept" "[LPianoRounds$Competition;") (by decide +kernel)
  have hl := lv_entry ([.ref (a o), .ref (b1 z1)]) (n := 2) (Nat.le_of_ble_eq_true rfl)
  rw [lg_entry_eq]
  generalize (lg_sl ([.ref (a o), .ref (b1 z1)]) ++ List.replicate (2 - (lg_sl ([.ref (a o), .ref (b1 z1)])).length) Slot.unset).toArray = ls at hl ⊢
  have hl : lv_has ls 2 [(0, .ref (a o)), (1, .ref (b1 z1))] := hl
  rw [DX5_keep] at h
  refine lv_aload_n hx hb dX5_keep_0 rfl (lv_at hl 0 rfl) ?_
  refine va_get (D := D) (ci := 5) (v := .int (gX5_count S)) (C := RX5) (T := TX5) (N := 2) hx hb hts hinX5 hown hK hP 0 rfl rfl 0 (by decide) hf18 (fun _ h9 => h9) rfl dX5_keep_1 ?_
  refine lv_iconst (v := (4 : Int32)) hx hb dX5_keep_4 (by decide) ?_
  obtain ⟨j2, hj2, h⟩ := jn_elim h
  have Jj2 : ∀ (S1 : SX5) (H : Heap) (locs : List Loc) (ls : Array Slot), j2 S1 = some rs → va_P D vwCl ((wX5 cy a o S1) ++ (wX0 cy b1 z1 T1)) H → va_D (va_A ((wX5 cy a o S) ++ (wX0 cy b1 z1 T1)) s.heap.size) ((wX5 cy a o S1) ++ (wX0 cy b1 z1 T1)) → va_S (va_A ((wX5 cy a o S) ++ (wX0 cy b1 z1 T1)) s.heap.size) s.heap H locs → lv_has ls 2 [(0, .ref (a o)), (1, .ref (b1 z1))] → W p l e (headSpec wsX5_keep ({ frames := 5, cells := 0, slots := 0, locals := 185 } : Room)).room s m ([.ref (a o), .ref (b1 z1)] : List Value).toArray below meth c H locs 0 0 (MQ below (va_Qv (fun (u : SX5) => u = rs) (fun u t => mB D s.heap.size ((wX5 cy a o S) ++ (wX0 cy b1 z1 T1)) ((wX5 cy a o u) ++ (wX0 cy b1 z1 T1)) t) (va_A ((wX5 cy a o S) ++ (wX0 cy b1 z1 T1)) s.heap.size)) ([.ref (a o), .ref (b1 z1)] : List Value).toArray s 0 0 (va_A ((wX5 cy a o S) ++ (wX0 cy b1 z1 T1)) s.heap.size)) (F0 m 12 ls []) := by
    intro S1 H locs ls h hP hD hS hl
    rw [hj2] at h
    refine lv_aload_n hx hb dX5_keep_12 rfl (lv_at hl 0 rfl) ?_
    refine va_get (D := D) (ci := 5) (v := .ref (a (o + 1))) (C := RX5) (T := TX5) (N := 2) hx hb hts hinX5 hown hK hP 0 rfl rfl 1 (by decide) hf11 (fun _ h9 => h9) rfl dX5_keep_13 ?_
    refine lv_aload_n hx hb dX5_keep_16 rfl (lv_at hl 0 rfl) ?_
    refine va_get (D := D) (ci := 5) (v := .int (gX5_count S1)) (C := RX5) (T := TX5) (N := 2) hx hb hts hinX5 hown hK hP 0 rfl rfl 0 (by decide) hf18 (fun _ h9 => h9) rfl dX5_keep_17 ?_
    obtain ⟨g3, h⟩ := gd_some h
    obtain ⟨g4, h⟩ := gd_some h
    have g4 := of_decide_eq_true g4
    refine r_aldK (o := o + 1) (ad := a) (rho := ((gX5_kept S1)).2) (j := ((gX5_count S1)).toNatClampNeg) hx hb hK hP 1 1 rfl rfl (gIn_in g3) rfl dX5_keep_20 ?_
    refine lv_aload_n hx hb dX5_keep_21 rfl (lv_at hl 1 rfl) ?_
    obtain ⟨x5, e6, h⟩ := bd_some h
    have K9 : ∀ (H : Heap) (locs : List Loc), va_P D vwCl ((wX5 cy a o (uX5_kept S1 (updT ((gX5_kept S1)).1 (((gX5_kept S1)).2 (((gX5_count S1)).toNatClampNeg)) x5, ((gX5_kept S1)).2))) ++ (wX0 cy b1 z1 T1)) H → va_D (va_A ((wX5 cy a o S) ++ (wX0 cy b1 z1 T1)) s.heap.size) ((wX5 cy a o (uX5_kept S1 (updT ((gX5_kept S1)).1 (((gX5_kept S1)).2 (((gX5_count S1)).toNatClampNeg)) x5, ((gX5_kept S1)).2))) ++ (wX0 cy b1 z1 T1)) → va_S (va_A ((wX5 cy a o S) ++ (wX0 cy b1 z1 T1)) s.heap.size) s.heap H locs → W p l e (headSpec wsX5_keep ({ frames := 5, cells := 0, slots := 0, locals := 185 } : Room)).room s m ([.ref (a o), .ref (b1 z1)] : List Value).toArray below meth c H locs 0 0 (MQ below (va_Qv (fun (u : SX5) => u = rs) (fun u t => mB D s.heap.size ((wX5 cy a o S) ++ (wX0 cy b1 z1 T1)) ((wX5 cy a o u) ++ (wX0 cy b1 z1 T1)) t) (va_A ((wX5 cy a o S) ++ (wX0 cy b1 z1 T1)) s.heap.size)) ([.ref (a o), .ref (b1 z1)] : List Value).toArray s 0 0 (va_A ((wX5 cy a o S) ++ (wX0 cy b1 z1 T1)) s.heap.size)) (F0 m 25 ls []) := by
      intro H locs hP hD hS
      obtain ⟨S7, eS8, h⟩ := lt_elim h
      have hP : va_P D vwCl ((wX5 cy a o S7) ++ (wX0 cy b1 z1 T1)) H := by rw [eS8]; exact hP
      have hD : va_D (va_A ((wX5 cy a o S) ++ (wX0 cy b1 z1 T1)) s.heap.size) ((wX5 cy a o S7) ++ (wX0 cy b1 z1 T1)) := by rw [eS8]; exact hD
      refine lv_aload_n hx hb dX5_keep_25 rfl (lv_at hl 0 rfl) ?_
      refine lv_dup hx hb dX5_keep_26 rfl ?_
      refine va_get (D := D) (ci := 5) (v := .int (gX5_count S7)) (C := RX5) (T := TX5) (N := 2) hx hb hts hinX5 hown hK hP 0 rfl rfl 0 (by decide) hf18 (fun _ h9 => h9) rfl dX5_keep_27 ?_
      refine lv_iconst (v := (1 : Int32)) hx hb dX5_keep_30 (by decide) ?_
      refine lv_iadd hx hb dX5_keep_31 ?_
      refine va_put (D := D) (ci := 5) (v := .int ((gX5_count S7) + (1 : Int32))) (ty := .int) (C := RX5) (T := TX5) (N := 2) hx hb hts hinX5 tyX5 tyX5_ok nmX5 hown hK hP hD hS 0 rfl rfl 0 (by decide) hf18 (fun _ h9 => h9) rfl (by decide +kernel) rfl rfl (Nat.le_of_ble_eq_true rfl) dX5_keep_32 (fun H locs hP hD hS => ?_)
      have hP : va_P D vwCl ((wX5 cy a o (uX5_count S7 ((gX5_count S7) + (1 : Int32)))) ++ (wX0 cy b1 z1 T1)) H := hP
      have hD : va_D (va_A ((wX5 cy a o S) ++ (wX0 cy b1 z1 T1)) s.heap.size) ((wX5 cy a o (uX5_count S7 ((gX5_count S7) + (1 : Int32)))) ++ (wX0 cy b1 z1 T1)) := hD
      obtain ⟨S9, eS10, h⟩ := lt_elim h
      have hP : va_P D vwCl ((wX5 cy a o S9) ++ (wX0 cy b1 z1 T1)) H := by rw [eS10]; exact hP
      have hD : va_D (va_A ((wX5 cy a o S) ++ (wX0 cy b1 z1 T1)) s.heap.size) ((wX5 cy a o S9) ++ (wX0 cy b1 z1 T1)) := by rw [eS10]; exact hD
      exact W.vret hx hb hr (fun t ht hW => ⟨⟨S9, rfl, some_in h, by rw [ht]; exact hP, hD⟩, hS.F ht⟩) hS.2.2 dX5_keep_35
    refine all4 (P := fun b => (((gX5_kept S1)).2 (((gX5_count S1)).toNatClampNeg)) = b → W p l e (headSpec wsX5_keep ({ frames := 5, cells := 0, slots := 0, locals := 185 } : Room)).room s m ([.ref (a o), .ref (b1 z1)] : List Value).toArray below meth c H locs 0 0 (MQ below (va_Qv (fun (u : SX5) => u = rs) (fun u t => mB D s.heap.size ((wX5 cy a o S) ++ (wX0 cy b1 z1 T1)) ((wX5 cy a o u) ++ (wX0 cy b1 z1 T1)) t) (va_A ((wX5 cy a o S) ++ (wX0 cy b1 z1 T1)) s.heap.size)) ([.ref (a o), .ref (b1 z1)] : List Value).toArray s 0 0 (va_A ((wX5 cy a o S) ++ (wX0 cy b1 z1 T1)) s.heap.size)) (F0 m 22 ls [.ref (b1 z1), .ref (a (o + 1 + 1 + 53 * (((gX5_kept S1)).2 (((gX5_count S1)).toNatClampNeg))))])) (fun eb => ?_) (fun eb => ?_) (fun eb => ?_) (fun eb => ?_) _ g4 rfl
    · have e9 := e6
      rw [eb] at e9
      refine smVv (As := [.ref (b1 z1)]) (rest := []) (ws' := ((wX5 cy a o (uX5_kept S1 (updT ((gX5_kept S1)).1 0 x5, ((gX5_kept S1)).2))) ++ (wX0 cy b1 z1 T1))) (q0 := 0) (qX0_copyFrom l D cy a (o + 1 + 1 + 53 * 0) b1 z1 (((gX5_kept S1)).1 0) T1  (H).size x5 e9) ⟨hx, hb, hml, hown, hts⟩ (cwV 1 hts gX5_keep_X0_copyFrom rfl rfl rfl (by decide +kernel) ⟨Nat.le_of_ble_eq_true rfl, Nat.le_of_ble_eq_true rfl⟩) hG hP hD hS hA (pm2 (X := ((hX5 a o S1) ++ (kW cy a (o + 1) (gX5_kept S1)))) (c1 := (wX0 cy a (o + 1 + 1 + 53 * 0) (((gX5_kept S1)).1 0))) (Y := ((wX0 cy a (o + 1 + 1 + 53 * 1) (((gX5_kept S1)).1 1)) ++ ((wX0 cy a (o + 1 + 1 + 53 * 2) (((gX5_kept S1)).1 2)) ++ (wX0 cy a (o + 1 + 1 + 53 * 3) (((gX5_kept S1)).1 3))))) (c2 := (wX0 cy b1 z1 T1)) (Z := ([] : va_W)) (show ((wX5 cy a o S1) ++ (wX0 cy b1 z1 T1)) = ((hX5 a o S1) ++ (kW cy a (o + 1) (gX5_kept S1))) ++ ((wX0 cy a (o + 1 + 1 + 53 * 0) (((gX5_kept S1)).1 0)) ++ (((wX0 cy a (o + 1 + 1 + 53 * 1) (((gX5_kept S1)).1 1)) ++ ((wX0 cy a (o + 1 + 1 + 53 * 2) (((gX5_kept S1)).1 2)) ++ (wX0 cy a (o + 1 + 1 + 53 * 3) (((gX5_kept S1)).1 3)))) ++ ((wX0 cy b1 z1 T1) ++ ([] : va_W)))) from by simp only [compsW, wX5, List.append_assoc, List.nil_append, List.append_nil] <;> rfl)) (pm2 (X := ((hX5 a o S1) ++ (kW cy a (o + 1) (gX5_kept S1)))) (c1 := (wX0 cy a (o + 1 + 1 + 53 * 0) x5)) (Y := ((wX0 cy a (o + 1 + 1 + 53 * 1) (((gX5_kept S1)).1 1)) ++ ((wX0 cy a (o + 1 + 1 + 53 * 2) (((gX5_kept S1)).1 2)) ++ (wX0 cy a (o + 1 + 1 + 53 * 3) (((gX5_kept S1)).1 3))))) (c2 := (wX0 cy b1 z1 T1)) (Z := ([] : va_W)) (show ((wX5 cy a o (uX5_kept S1 (updT ((gX5_kept S1)).1 0 x5, ((gX5_kept S1)).2))) ++ (wX0 cy b1 z1 T1)) = ((hX5 a o S1) ++ (kW cy a (o + 1) (gX5_kept S1))) ++ ((wX0 cy a (o + 1 + 1 + 53 * 0) x5) ++ (((wX0 cy a (o + 1 + 1 + 53 * 1) (((gX5_kept S1)).1 1)) ++ ((wX0 cy a (o + 1 + 1 + 53 * 2) (((gX5_kept S1)).1 2)) ++ (wX0 cy a (o + 1 + 1 + 53 * 3) (((gX5_kept S1)).1 3)))) ++ ((wX0 cy b1 z1 T1) ++ ([] : va_W)))) from by simp only [compsW, wX5, List.append_assoc, List.nil_append, List.append_nil] <;> rfl)) rfl rfl rfl hl.1 (by rw [eb]; rfl) (Nat.le_of_ble_eq_true rfl) dX5_keep_22 ⟨Nat.zero_le _, Nat.zero_le _⟩ (fun H locs hP hD hS => K9 H locs (by first | exact hP | (rw [eb]; exact hP)) (by first | exact hD | (rw [eb]; exact hD)) hS)
    · have e9 := e6
      rw [eb] at e9
      refine smVv (As := [.ref (b1 z1)]) (rest := []) (ws' := ((wX5 cy a o (uX5_kept S1 (updT ((gX5_kept S1)).1 1 x5, ((gX5_kept S1)).2))) ++ (wX0 cy b1 z1 T1))) (q0 := 0) (qX0_copyFrom l D cy a (o + 1 + 1 + 53 * 1) b1 z1 (((gX5_kept S1)).1 1) T1  (H).size x5 e9) ⟨hx, hb, hml, hown, hts⟩ (cwV 1 hts gX5_keep_X0_copyFrom rfl rfl rfl (by decide +kernel) ⟨Nat.le_of_ble_eq_true rfl, Nat.le_of_ble_eq_true rfl⟩) hG hP hD hS hA (pm2 (X := ((hX5 a o S1) ++ ((kW cy a (o + 1) (gX5_kept S1)) ++ (wX0 cy a (o + 1 + 1 + 53 * 0) (((gX5_kept S1)).1 0))))) (c1 := (wX0 cy a (o + 1 + 1 + 53 * 1) (((gX5_kept S1)).1 1))) (Y := ((wX0 cy a (o + 1 + 1 + 53 * 2) (((gX5_kept S1)).1 2)) ++ (wX0 cy a (o + 1 + 1 + 53 * 3) (((gX5_kept S1)).1 3)))) (c2 := (wX0 cy b1 z1 T1)) (Z := ([] : va_W)) (show ((wX5 cy a o S1) ++ (wX0 cy b1 z1 T1)) = ((hX5 a o S1) ++ ((kW cy a (o + 1) (gX5_kept S1)) ++ (wX0 cy a (o + 1 + 1 + 53 * 0) (((gX5_kept S1)).1 0)))) ++ ((wX0 cy a (o + 1 + 1 + 53 * 1) (((gX5_kept S1)).1 1)) ++ (((wX0 cy a (o + 1 + 1 + 53 * 2) (((gX5_kept S1)).1 2)) ++ (wX0 cy a (o + 1 + 1 + 53 * 3) (((gX5_kept S1)).1 3))) ++ ((wX0 cy b1 z1 T1) ++ ([] : va_W)))) from by simp only [compsW, wX5, List.append_assoc, List.nil_append, List.append_nil] <;> rfl)) (pm2 (X := ((hX5 a o S1) ++ ((kW cy a (o + 1) (gX5_kept S1)) ++ (wX0 cy a (o + 1 + 1 + 53 * 0) (((gX5_kept S1)).1 0))))) (c1 := (wX0 cy a (o + 1 + 1 + 53 * 1) x5)) (Y := ((wX0 cy a (o + 1 + 1 + 53 * 2) (((gX5_kept S1)).1 2)) ++ (wX0 cy a (o + 1 + 1 + 53 * 3) (((gX5_kept S1)).1 3)))) (c2 := (wX0 cy b1 z1 T1)) (Z := ([] : va_W)) (show ((wX5 cy a o (uX5_kept S1 (updT ((gX5_kept S1)).1 1 x5, ((gX5_kept S1)).2))) ++ (wX0 cy b1 z1 T1)) = ((hX5 a o S1) ++ ((kW cy a (o + 1) (gX5_kept S1)) ++ (wX0 cy a (o + 1 + 1 + 53 * 0) (((gX5_kept S1)).1 0)))) ++ ((wX0 cy a (o + 1 + 1 + 53 * 1) x5) ++ (((wX0 cy a (o + 1 + 1 + 53 * 2) (((gX5_kept S1)).1 2)) ++ (wX0 cy a (o + 1 + 1 + 53 * 3) (((gX5_kept S1)).1 3))) ++ ((wX0 cy b1 z1 T1) ++ ([] : va_W)))) from by simp only [compsW, wX5, List.append_assoc, List.nil_append, List.append_nil] <;> rfl)) rfl rfl rfl hl.1 (by rw [eb]; rfl) (Nat.le_of_ble_eq_true rfl) dX5_keep_22 ⟨Nat.zero_le _, Nat.zero_le _⟩ (fun H locs hP hD hS => K9 H locs (by first | exact hP | (rw [eb]; exact hP)) (by first | exact hD | (rw [eb]; exact hD)) hS)
    · have e9 := e6
      rw [eb] at e9
      refine smVv (As := [.ref (b1 z1)]) (rest := []) (ws' := ((wX5 cy a o (uX5_kept S1 (updT ((gX5_kept S1)).1 2 x5, ((gX5_kept S1)).2))) ++ (wX0 cy b1 z1 T1))) (q0 := 0) (qX0_copyFrom l D cy a (o + 1 + 1 + 53 * 2) b1 z1 (((gX5_kept S1)).1 2) T1  (H).size x5 e9) ⟨hx, hb, hml, hown, hts⟩ (cwV 1 hts gX5_keep_X0_copyFrom rfl rfl rfl (by decide +kernel) ⟨Nat.le_of_ble_eq_true rfl, Nat.le_of_ble_eq_true rfl⟩) hG hP hD hS hA (pm2 (X := ((hX5 a o S1) ++ ((kW cy a (o + 1) (gX5_kept S1)) ++ ((wX0 cy a (o + 1 + 1 + 53 * 0) (((gX5_kept S1)).1 0)) ++ (wX0 cy a (o + 1 + 1 + 53 * 1) (((gX5_kept S1)).1 1)))))) (c1 := (wX0 cy a (o + 1 + 1 + 53 * 2) (((gX5_kept S1)).1 2))) (Y := (wX0 cy a (o + 1 + 1 + 53 * 3) (((gX5_kept S1)).1 3))) (c2 := (wX0 cy b1 z1 T1)) (Z := ([] : va_W)) (show ((wX5 cy a o S1) ++ (wX0 cy b1 z1 T1)) = ((hX5 a o S1) ++ ((kW cy a (o + 1) (gX5_kept S1)) ++ ((wX0 cy a (o + 1 + 1 + 53 * 0) (((gX5_kept S1)).1 0)) ++ (wX0 cy a (o + 1 + 1 + 53 * 1) (((gX5_kept S1)).1 1))))) ++ ((wX0 cy a (o + 1 + 1 + 53 * 2) (((gX5_kept S1)).1 2)) ++ ((wX0 cy a (o + 1 + 1 + 53 * 3) (((gX5_kept S1)).1 3)) ++ ((wX0 cy b1 z1 T1) ++ ([] : va_W)))) from by simp only [compsW, wX5, List.append_assoc, List.nil_append, List.append_nil] <;> rfl)) (pm2 (X := ((hX5 a o S1) ++ ((kW cy a (o + 1) (gX5_kept S1)) ++ ((wX0 cy a (o + 1 + 1 + 53 * 0) (((gX5_kept S1)).1 0)) ++ (wX0 cy a (o + 1 + 1 + 53 * 1) (((gX5_kept S1)).1 1)))))) (c1 := (wX0 cy a (o + 1 + 1 + 53 * 2) x5)) (Y := (wX0 cy a (o + 1 + 1 + 53 * 3) (((gX5_kept S1)).1 3))) (c2 := (wX0 cy b1 z1 T1)) (Z := ([] : va_W)) (show ((wX5 cy a o (uX5_kept S1 (updT ((gX5_kept S1)).1 2 x5, ((gX5_kept S1)).2))) ++ (wX0 cy b1 z1 T1)) = ((hX5 a o S1) ++ ((kW cy a (o + 1) (gX5_kept S1)) ++ ((wX0 cy a (o + 1 + 1 + 53 * 0) (((gX5_kept S1)).1 0)) ++ (wX0 cy a (o + 1 + 1 + 53 * 1) (((gX5_kept S1)).1 1))))) ++ ((wX0 cy a (o + 1 + 1 + 53 * 2) x5) ++ ((wX0 cy a (o + 1 + 1 + 53 * 3) (((gX5_kept S1)).1 3)) ++ ((wX0 cy b1 z1 T1) ++ ([] : va_W)))) from by simp only [compsW, wX5, List.append_assoc, List.nil_append, List.append_nil] <;> rfl)) rfl rfl rfl hl.1 (by rw [eb]; rfl) (Nat.le_of_ble_eq_true rfl) dX5_keep_22 ⟨Nat.zero_le _, Nat.zero_le _⟩ (fun H locs hP hD hS => K9 H locs (by first | exact hP | (rw [eb]; exact hP)) (by first | exact hD | (rw [eb]; exact hD)) hS)
    · have e9 := e6
      rw [eb] at e9
      refine smVv (As := [.ref (b1 z1)]) (rest := []) (ws' := ((wX5 cy a o (uX5_kept S1 (updT ((gX5_kept S1)).1 3 x5, ((gX5_kept S1)).2))) ++ (wX0 cy b1 z1 T1))) (q0 := 0) (qX0_copyFrom l D cy a (o + 1 + 1 + 53 * 3) b1 z1 (((gX5_kept S1)).1 3) T1  (H).size x5 e9) ⟨hx, hb, hml, hown, hts⟩ (cwV 1 hts gX5_keep_X0_copyFrom rfl rfl rfl (by decide +kernel) ⟨Nat.le_of_ble_eq_true rfl, Nat.le_of_ble_eq_true rfl⟩) hG hP hD hS hA (pm2 (X := ((hX5 a o S1) ++ ((kW cy a (o + 1) (gX5_kept S1)) ++ ((wX0 cy a (o + 1 + 1 + 53 * 0) (((gX5_kept S1)).1 0)) ++ ((wX0 cy a (o + 1 + 1 + 53 * 1) (((gX5_kept S1)).1 1)) ++ (wX0 cy a (o + 1 + 1 + 53 * 2) (((gX5_kept S1)).1 2))))))) (c1 := (wX0 cy a (o + 1 + 1 + 53 * 3) (((gX5_kept S1)).1 3))) (Y := ([] : va_W)) (c2 := (wX0 cy b1 z1 T1)) (Z := ([] : va_W)) (show ((wX5 cy a o S1) ++ (wX0 cy b1 z1 T1)) = ((hX5 a o S1) ++ ((kW cy a (o + 1) (gX5_kept S1)) ++ ((wX0 cy a (o + 1 + 1 + 53 * 0) (((gX5_kept S1)).1 0)) ++ ((wX0 cy a (o + 1 + 1 + 53 * 1) (((gX5_kept S1)).1 1)) ++ (wX0 cy a (o + 1 + 1 + 53 * 2) (((gX5_kept S1)).1 2)))))) ++ ((wX0 cy a (o + 1 + 1 + 53 * 3) (((gX5_kept S1)).1 3)) ++ (([] : va_W) ++ ((wX0 cy b1 z1 T1) ++ ([] : va_W)))) from by simp only [compsW, wX5, List.append_assoc, List.nil_append, List.append_nil] <;> rfl)) (pm2 (X := ((hX5 a o S1) ++ ((kW cy a (o + 1) (gX5_kept S1)) ++ ((wX0 cy a (o + 1 + 1 + 53 * 0) (((gX5_kept S1)).1 0)) ++ ((wX0 cy a (o + 1 + 1 + 53 * 1) (((gX5_kept S1)).1 1)) ++ (wX0 cy a (o + 1 + 1 + 53 * 2) (((gX5_kept S1)).1 2))))))) (c1 := (wX0 cy a (o + 1 + 1 + 53 * 3) x5)) (Y := ([] : va_W)) (c2 := (wX0 cy b1 z1 T1)) (Z := ([] : va_W)) (show ((wX5 cy a o (uX5_kept S1 (updT ((gX5_kept S1)).1 3 x5, ((gX5_kept S1)).2))) ++ (wX0 cy b1 z1 T1)) = ((hX5 a o S1) ++ ((kW cy a (o + 1) (gX5_kept S1)) ++ ((wX0 cy a (o + 1 + 1 + 53 * 0) (((gX5_kept S1)).1 0)) ++ ((wX0 cy a (o + 1 + 1 + 53 * 1) (((gX5_kept S1)).1 1)) ++ (wX0 cy a (o + 1 + 1 + 53 * 2) (((gX5_kept S1)).1 2)))))) ++ ((wX0 cy a (o + 1 + 1 + 53 * 3) x5) ++ (([] : va_W) ++ ((wX0 cy b1 z1 T1) ++ ([] : va_W)))) from by simp only [compsW, wX5, List.append_assoc, List.nil_append, List.append_nil] <;> rfl)) rfl rfl rfl hl.1 (by rw [eb]; rfl) (Nat.le_of_ble_eq_true rfl) dX5_keep_22 ⟨Nat.zero_le _, Nat.zero_le _⟩ (fun H locs hP hD hS => K9 H locs (by first | exact hP | (rw [eb]; exact hP)) (by first | exact hD | (rw [eb]; exact hD)) hS)
  refine lv_icmp_lt (tgt := 12) hx hb dX5_keep_5 (by decide) (fun cc => ?_) (fun cc => ?_)
  · have h := ite_p cc h
    exact Jj2 S s.heap [] ls h hP hD hS (lv_sub hl [0, 1] rfl)
  · have h := ite_n cc h
    refine lv_aload_n hx hb dX5_keep_8 rfl (lv_at hl 0 rfl) ?_
    obtain ⟨x11, e12, h⟩ := bd_some h
    refine smVv (As := []) (rest := []) (ws' := ((wX5 cy a o x11) ++ (wX0 cy b1 z1 T1))) (q0 := 0) (qX5_dropOldest l D cy a o S  (s.heap).size x11 e12) ⟨hx, hb, hml, hown, hts⟩ (cwV 0 hts gX5_keep_X5_dropOldest rfl rfl rfl (by decide +kernel) ⟨Nat.le_of_ble_eq_true rfl, Nat.le_of_ble_eq_true rfl⟩) hG hP hD hS hA (pm1 (X := ([] : va_W)) (c := (wX5 cy a o S)) (Y := (wX0 cy b1 z1 T1)) (show ((wX5 cy a o S) ++ (wX0 cy b1 z1 T1)) = ([] : va_W) ++ ((wX5 cy a o S) ++ (wX0 cy b1 z1 T1)) from by simp only [List.append_assoc, List.nil_append, List.append_nil] <;> rfl)) (pm1 (X := ([] : va_W)) (c := (wX5 cy a o x11)) (Y := (wX0 cy b1 z1 T1)) (show ((wX5 cy a o x11) ++ (wX0 cy b1 z1 T1)) = ([] : va_W) ++ ((wX5 cy a o x11) ++ (wX0 cy b1 z1 T1)) from by simp only [List.append_assoc, List.nil_append, List.append_nil] <;> rfl)) rfl rfl rfl hl.1 rfl (Nat.le_of_ble_eq_true rfl) dX5_keep_9 ⟨Nat.zero_le _, Nat.zero_le _⟩ (fun H locs hP hD hS => ?_)
    exact Jj2 x11 H locs ls h hP hD hS (lv_sub hl [0, 1] rfl)
set_option maxHeartbeats 4000000 in
set_option maxRecDepth 100000 in
theorem qX5_restore (l : Launch) (D : va_G) (cy : Nat → ClassId) (a : Nat → Nat) (o : Nat) (b1 : Nat → Nat) (z1 : Nat) (S : SX5) (T1 : SX0)  (sz : Nat) (rs : Int32 × (SX5 × SX0)) (h : DX5_restore S T1 = some rs) : Met l yX5_restore wsX5_restore ({ frames := 5, cells := 0, slots := 0, locals := 185 } : Room) (mP D cy sz [.ref (a o), .ref (b1 z1)] ((wX5 cy a o S) ++ (wX0 cy b1 z1 T1))) (va_Qi (fun r (u : SX5 × SX0) => (r, u) = rs) (fun u t => mB D sz ((wX5 cy a o S) ++ (wX0 cy b1 z1 T1)) ((wX5 cy a o u.1) ++ (wX0 cy b1 z1 u.2)) t) (va_A ((wX5 cy a o S) ++ (wX0 cy b1 z1 T1)) sz)) 0 0 (va_A ((wX5 cy a o S) ++ (wX0 cy b1 z1 T1)) sz) := by
  refine Met.ofW (cc := cX5_restore) (maxL := 2) (ret := (some .int)) (by decide) rfl ?_
  intro p e s m args below meth c s₁ B hml hv
  obtain ⟨rfl, hsz, hP, hG, hD0⟩ := hv
  have hx := B.exec
  have hb := B.bytes
  have hr := B.returns
  have hts := atoms_spec (ws := wsX5_restore) B.pre
  have hown : s.vm.findClass RX5 = some m.cls := findClass_of_methodNamed B.named
  have hlocks := B.notSynchronized
  have hK := hG.1
  subst hsz
  have hD := hD0.self (sz := s.heap.size)
  have hA : ∀ q : Nat, s.heap.size ≤ q → (va_A ((wX5 cy a o S) ++ (wX0 cy b1 z1 T1)) s.heap.size) q := fun q h => Or.inr h
  have hS : va_S (va_A ((wX5 cy a o S) ++ (wX0 cy b1 z1 T1)) s.heap.size) s.heap s.heap [] := va_S.rf
  have hinX5 := (by decide +kernel : ∀ w ∈ wsX50, w ∈ wsX5_restore)
  have hf18 := hts (.fieldLink RX5 18 "PianoRounds$Records" "count" "I") (by decide +kernel)
  have hf11 := hts (.fieldLink RX5 11 "PianoRounds$Records" "kept" "[LPianoRounds$Competition;") (by decide +kernel)
  have hl := lv_entry ([.ref (a o), .ref (b1 z1)]) (n := 2) (Nat.le_of_ble_eq_true rfl)
  rw [lg_entry_eq]
  generalize (lg_sl ([.ref (a o), .ref (b1 z1)]) ++ List.replicate (2 - (lg_sl ([.ref (a o), .ref (b1 z1)])).length) Slot.unset).toArray = ls at hl ⊢
  have hl : lv_has ls 2 [(0, .ref (a o)), (1, .ref (b1 z1))] := hl
  rw [DX5_restore] at h
  refine lv_aload_n hx hb dX5_restore_0 rfl (lv_at hl 0 rfl) ?_
  refine va_get (D := D) (ci := 5) (v := .int (gX5_count S)) (C := RX5) (T := TX5) (N := 2) hx hb hts hinX5 hown hK hP 0 rfl rfl 0 (by decide) hf18 (fun _ h9 => h9) rfl dX5_restore_1 ?_
  obtain ⟨j2, hj2, h⟩ := jn_elim h
  have Jj2 : ∀ (S1 : SX5 × SX0) (H : Heap) (locs : List Loc) (ls : Array Slot), j2 S1 = some rs → va_P D vwCl ((wX5 cy a o S1.1) ++ (wX0 cy b1 z1 S1.2)) H → va_D (va_A ((wX5 cy a o S) ++ (wX0 cy b1 z1 T1)) s.heap.size) ((wX5 cy a o S1.1) ++ (wX0 cy b1 z1 S1.2)) → va_S (va_A ((wX5 cy a o S) ++ (wX0 cy b1 z1 T1)) s.heap.size) s.heap H locs → lv_has ls 2 [(0, .ref (a o))] → W p l e (headSpec wsX5_restore ({ frames := 5, cells := 0, slots := 0, locals := 185 } : Room)).room s m ([.ref (a o), .ref (b1 z1)] : List Value).toArray below meth c H locs 0 0 (MQ below (va_Qi (fun r (u : SX5 × SX0) => (r, u) = rs) (fun u t => mB D s.heap.size ((wX5 cy a o S) ++ (wX0 cy b1 z1 T1)) ((wX5 cy a o u.1) ++ (wX0 cy b1 z1 u.2)) t) (va_A ((wX5 cy a o S) ++ (wX0 cy b1 z1 T1)) s.heap.size)) ([.ref (a o), .ref (b1 z1)] : List Value).toArray s 0 0 (va_A ((wX5 cy a o S) ++ (wX0 cy b1 z1 T1)) s.heap.size)) (F0 m 30 ls []) := by
    intro S1 H locs ls h hP hD hS hl
    rw [hj2] at h
    refine lv_aload_n hx hb dX5_restore_30 rfl (lv_at hl 0 rfl) ?_
    refine va_get (D := D) (ci := 5) (v := .int (gX5_count S1.1)) (C := RX5) (T := TX5) (N := 2) hx hb hts hinX5 hown hK hP 0 rfl rfl 0 (by decide) hf18 (fun _ h9 => h9) rfl dX5_restore_31 ?_
    exact W.iret (v := (gX5_count S1.1)) hx hb hr (fun t ht hW => ⟨⟨(gX5_count S1.1), (S1.1, S1.2), rfl, some_in h, by rw [ht]; exact hP, hD⟩, hS.F ht⟩) hS.2.2 dX5_restore_34
  refine lv_if_le (tgt := 30) hx hb dX5_restore_4 (by decide) (fun cc => ?_) (fun cc => ?_)
  · have h := ite_p cc h
    exact Jj2 (S, T1) s.heap [] ls h hP hD hS (lv_sub hl [0] rfl)
  · have h := ite_n cc h
    refine lv_aload_n hx hb dX5_restore_7 rfl (lv_at hl 0 rfl) ?_
    refine lv_dup hx hb dX5_restore_8 rfl ?_
    refine va_get (D := D) (ci := 5) (v := .int (gX5_count S)) (C := RX5) (T := TX5) (N := 2) hx hb hts hinX5 hown hK hP 0 rfl rfl 0 (by decide) hf18 (fun _ h9 => h9) rfl dX5_restore_9 ?_
    refine lv_iconst (v := (1 : Int32)) hx hb dX5_restore_12 (by decide) ?_
    refine lv_isub hx hb dX5_restore_13 ?_
    refine va_put (D := D) (ci := 5) (v := .int ((gX5_count S) - (1 : Int32))) (ty := .int) (C := RX5) (T := TX5) (N := 2) hx hb hts hinX5 tyX5 tyX5_ok nmX5 hown hK hP hD hS 0 rfl rfl 0 (by decide) hf18 (fun _ h9 => h9) rfl (by decide +kernel) rfl rfl (Nat.le_of_ble_eq_true rfl) dX5_restore_14 (fun H locs hP hD hS => ?_)
    have hP : va_P D vwCl ((wX5 cy a o (uX5_count S ((gX5_count S) - (1 : Int32)))) ++ (wX0 cy b1 z1 T1)) H := hP
    have hD : va_D (va_A ((wX5 cy a o S) ++ (wX0 cy b1 z1 T1)) s.heap.size) ((wX5 cy a o (uX5_count S ((gX5_count S) - (1 : Int32)))) ++ (wX0 cy b1 z1 T1)) := hD
    obtain ⟨S3, eS4, h⟩ := lt_elim h
    have hP : va_P D vwCl ((wX5 cy a o S3.1) ++ (wX0 cy b1 z1 S3.2)) H := by rw [eS4]; exact hP
    have hD : va_D (va_A ((wX5 cy a o S) ++ (wX0 cy b1 z1 T1)) s.heap.size) ((wX5 cy a o S3.1) ++ (wX0 cy b1 z1 S3.2)) := by rw [eS4]; exact hD
    refine lv_aload_n hx hb dX5_restore_17 rfl (lv_at hl 1 rfl) ?_
    refine lv_aload_n hx hb dX5_restore_18 rfl (lv_at hl 0 rfl) ?_
    refine va_get (D := D) (ci := 5) (v := .ref (a (o + 1))) (C := RX5) (T := TX5) (N := 2) hx hb hts hinX5 hown hK hP 0 rfl rfl 1 (by decide) hf11 (fun _ h9 => h9) rfl dX5_restore_19 ?_
    refine lv_aload_n hx hb dX5_restore_22 rfl (lv_at hl 0 rfl) ?_
    refine va_get (D := D) (ci := 5) (v := .int (gX5_count S3.1)) (C := RX5) (T := TX5) (N := 2) hx hb hts hinX5 hown hK hP 0 rfl rfl 0 (by decide) hf18 (fun _ h9 => h9) rfl dX5_restore_23 ?_
    obtain ⟨g5, h⟩ := gd_some h
    obtain ⟨g6, h⟩ := gd_some h
    have g6 := of_decide_eq_true g6
    refine r_aldK (o := o + 1) (ad := a) (rho := ((gX5_kept S3.1)).2) (j := ((gX5_count S3.1)).toNatClampNeg) hx hb hK hP 1 1 rfl rfl (gIn_in g5) rfl dX5_restore_26 ?_
    obtain ⟨x7, e8, h⟩ := bd_some h
    have K9 : ∀ (H : Heap) (locs : List Loc), va_P D vwCl ((wX5 cy a o S3.1) ++ (wX0 cy b1 z1 x7)) H → va_D (va_A ((wX5 cy a o S) ++ (wX0 cy b1 z1 T1)) s.heap.size) ((wX5 cy a o S3.1) ++ (wX0 cy b1 z1 x7)) → va_S (va_A ((wX5 cy a o S) ++ (wX0 cy b1 z1 T1)) s.heap.size) s.heap H locs → W p l e (headSpec wsX5_restore ({ frames := 5, cells := 0, slots := 0, locals := 185 } : Room)).room s m ([.ref (a o), .ref (b1 z1)] : List Value).toArray below meth c H locs 0 0 (MQ below (va_Qi (fun r (u : SX5 × SX0) => (r, u) = rs) (fun u t => mB D s.heap.size ((wX5 cy a o S) ++ (wX0 cy b1 z1 T1)) ((wX5 cy a o u.1) ++ (wX0 cy b1 z1 u.2)) t) (va_A ((wX5 cy a o S) ++ (wX0 cy b1 z1 T1)) s.heap.size)) ([.ref (a o), .ref (b1 z1)] : List Value).toArray s 0 0 (va_A ((wX5 cy a o S) ++ (wX0 cy b1 z1 T1)) s.heap.size)) (F0 m 30 ls []) := by
      intro H locs hP hD hS
      exact Jj2 (S3.1, x7) H locs ls h hP hD hS (lv_sub hl [0] rfl)
    refine all4 (P := fun b => (((gX5_kept S3.1)).2 (((gX5_count S3.1)).toNatClampNeg)) = b → W p l e (headSpec wsX5_restore ({ frames := 5, cells := 0, slots := 0, locals := 185 } : Room)).room s m ([.ref (a o), .ref (b1 z1)] : List Value).toArray below meth c H locs 0 0 (MQ below (va_Qi (fun r (u : SX5 × SX0) => (r, u) = rs) (fun u t => mB D s.heap.size ((wX5 cy a o S) ++ (wX0 cy b1 z1 T1)) ((wX5 cy a o u.1) ++ (wX0 cy b1 z1 u.2)) t) (va_A ((wX5 cy a o S) ++ (wX0 cy b1 z1 T1)) s.heap.size)) ([.ref (a o), .ref (b1 z1)] : List Value).toArray s 0 0 (va_A ((wX5 cy a o S) ++ (wX0 cy b1 z1 T1)) s.heap.size)) (F0 m 27 ls [.ref (a (o + 1 + 1 + 53 * (((gX5_kept S3.1)).2 (((gX5_count S3.1)).toNatClampNeg)))), .ref (b1 z1)])) (fun eb => ?_) (fun eb => ?_) (fun eb => ?_) (fun eb => ?_) _ g6 rfl
    · have e9 := e8
      rw [eb] at e9
      refine smVv (As := [.ref (a (o + 1 + 1 + 53 * 0))]) (rest := []) (ws' := ((wX5 cy a o S3.1) ++ (wX0 cy b1 z1 x7))) (q0 := 0) (qX0_copyFrom l D cy b1 z1 a (o + 1 + 1 + 53 * 0) S3.2 (((gX5_kept S3.1)).1 0)  (H).size x7 e9) ⟨hx, hb, hml, hown, hts⟩ (cwV 1 hts gX5_restore_X0_copyFrom rfl rfl rfl (by decide +kernel) ⟨Nat.le_of_ble_eq_true rfl, Nat.le_of_ble_eq_true rfl⟩) hG hP hD hS hA (pm2r (X := ((hX5 a o S3.1) ++ (kW cy a (o + 1) (gX5_kept S3.1)))) (c1 := (wX0 cy b1 z1 S3.2)) (Y := ((wX0 cy a (o + 1 + 1 + 53 * 1) (((gX5_kept S3.1)).1 1)) ++ ((wX0 cy a (o + 1 + 1 + 53 * 2) (((gX5_kept S3.1)).1 2)) ++ (wX0 cy a (o + 1 + 1 + 53 * 3) (((gX5_kept S3.1)).1 3))))) (c2 := (wX0 cy a (o + 1 + 1 + 53 * 0) (((gX5_kept S3.1)).1 0))) (Z := ([] : va_W)) (show ((wX5 cy a o S3.1) ++ (wX0 cy b1 z1 S3.2)) = ((hX5 a o S3.1) ++ (kW cy a (o + 1) (gX5_kept S3.1))) ++ ((wX0 cy a (o + 1 + 1 + 53 * 0) (((gX5_kept S3.1)).1 0)) ++ (((wX0 cy a (o + 1 + 1 + 53 * 1) (((gX5_kept S3.1)).1 1)) ++ ((wX0 cy a (o + 1 + 1 + 53 * 2) (((gX5_kept S3.1)).1 2)) ++ (wX0 cy a (o + 1 + 1 + 53 * 3) (((gX5_kept S3.1)).1 3)))) ++ ((wX0 cy b1 z1 S3.2) ++ ([] : va_W)))) from by simp only [compsW, wX5, List.append_assoc, List.nil_append, List.append_nil] <;> rfl)) (pm2r (X := ((hX5 a o S3.1) ++ (kW cy a (o + 1) (gX5_kept S3.1)))) (c1 := (wX0 cy b1 z1 x7)) (Y := ((wX0 cy a (o + 1 + 1 + 53 * 1) (((gX5_kept S3.1)).1 1)) ++ ((wX0 cy a (o + 1 + 1 + 53 * 2) (((gX5_kept S3.1)).1 2)) ++ (wX0 cy a (o + 1 + 1 + 53 * 3) (((gX5_kept S3.1)).1 3))))) (c2 := (wX0 cy a (o + 1 + 1 + 53 * 0) (((gX5_kept S3.1)).1 0))) (Z := ([] : va_W)) (show ((wX5 cy a o S3.1) ++ (wX0 cy b1 z1 x7)) = ((hX5 a o S3.1) ++ (kW cy a (o + 1) (gX5_kept S3.1))) ++ ((wX0 cy a (o + 1 + 1 + 53 * 0) (((gX5_kept S3.1)).1 0)) ++ (((wX0 cy a (o + 1 + 1 + 53 * 1) (((gX5_kept S3.1)).1 1)) ++ ((wX0 cy a (o + 1 + 1 + 53 * 2) (((gX5_kept S3.1)).1 2)) ++ (wX0 cy a (o + 1 + 1 + 53 * 3) (((gX5_kept S3.1)).1 3)))) ++ ((wX0 cy b1 z1 x7) ++ ([] : va_W)))) from by simp only [compsW, wX5, List.append_assoc, List.nil_append, List.append_nil] <;> rfl)) rfl rfl rfl hl.1 (by rw [eb]; rfl) (Nat.le_of_ble_eq_true rfl) dX5_restore_27 ⟨Nat.zero_le _, Nat.zero_le _⟩ (fun H locs hP hD hS => K9 H locs (by first | exact hP | (rw [eb]; exact hP)) (by first | exact hD | (rw [eb]; exact hD)) hS)
    · have e9 := e8
      rw [eb] at e9
      refine smVv (As := [.ref (a (o + 1 + 1 + 53 * 1))]) (rest := []) (ws' := ((wX5 cy a o S3.1) ++ (wX0 cy b1 z1 x7))) (q0 := 0) (qX0_copyFrom l D cy b1 z1 a (o + 1 + 1 + 53 * 1) S3.2 (((gX5_kept S3.1)).1 1)  (H).size x7 e9) ⟨hx, hb, hml, hown, hts⟩ (cwV 1 hts gX5_restore_X0_copyFrom rfl rfl rfl (by decide +kernel) ⟨Nat.le_of_ble_eq_true rfl, Nat.le_of_ble_eq_true rfl⟩) hG hP hD hS hA (pm2r (X := ((hX5 a o S3.1) ++ ((kW cy a (o + 1) (gX5_kept S3.1)) ++ (wX0 cy a (o + 1 + 1 + 53 * 0) (((gX5_kept S3.1)).1 0))))) (c1 := (wX0 cy b1 z1 S3.2)) (Y := ((wX0 cy a (o + 1 + 1 + 53 * 2) (((gX5_kept S3.1)).1 2)) ++ (wX0 cy a (o + 1 + 1 + 53 * 3) (((gX5_kept S3.1)).1 3)))) (c2 := (wX0 cy a (o + 1 + 1 + 53 * 1) (((gX5_kept S3.1)).1 1))) (Z := ([] : va_W)) (show ((wX5 cy a o S3.1) ++ (wX0 cy b1 z1 S3.2)) = ((hX5 a o S3.1) ++ ((kW cy a (o + 1) (gX5_kept S3.1)) ++ (wX0 cy a (o + 1 + 1 + 53 * 0) (((gX5_kept S3.1)).1 0)))) ++ ((wX0 cy a (o + 1 + 1 + 53 * 1) (((gX5_kept S3.1)).1 1)) ++ (((wX0 cy a (o + 1 + 1 + 53 * 2) (((gX5_kept S3.1)).1 2)) ++ (wX0 cy a (o + 1 + 1 + 53 * 3) (((gX5_kept S3.1)).1 3))) ++ ((wX0 cy b1 z1 S3.2) ++ ([] : va_W)))) from by simp only [compsW, wX5, List.append_assoc, List.nil_append, List.append_nil] <;> rfl)) (pm2r (X := ((hX5 a o S3.1) ++ ((kW cy a (o + 1) (gX5_kept S3.1)) ++ (wX0 cy a (o + 1 + 1 + 53 * 0) (((gX5_kept S3.1)).1 0))))) (c1 := (wX0 cy b1 z1 x7)) (Y := ((wX0 cy a (o + 1 + 1 + 53 * 2) (((gX5_kept S3.1)).1 2)) ++ (wX0 cy a (o + 1 + 1 + 53 * 3) (((gX5_kept S3.1)).1 3)))) (c2 := (wX0 cy a (o + 1 + 1 + 53 * 1) (((gX5_kept S3.1)).1 1))) (Z := ([] : va_W)) (show ((wX5 cy a o S3.1) ++ (wX0 cy b1 z1 x7)) = ((hX5 a o S3.1) ++ ((kW cy a (o + 1) (gX5_kept S3.1)) ++ (wX0 cy a (o + 1 + 1 + 53 * 0) (((gX5_kept S3.1)).1 0)))) ++ ((wX0 cy a (o + 1 + 1 + 53 * 1) (((gX5_kept S3.1)).1 1)) ++ (((wX0 cy a (o + 1 + 1 + 53 * 2) (((gX5_kept S3.1)).1 2)) ++ (wX0 cy a (o + 1 + 1 + 53 * 3) (((gX5_kept S3.1)).1 3))) ++ ((wX0 cy b1 z1 x7) ++ ([] : va_W)))) from by simp only [compsW, wX5, List.append_assoc, List.nil_append, List.append_nil] <;> rfl)) rfl rfl rfl hl.1 (by rw [eb]; rfl) (Nat.le_of_ble_eq_true rfl) dX5_restore_27 ⟨Nat.zero_le _, Nat.zero_le _⟩ (fun H locs hP hD hS => K9 H locs (by first | exact hP | (rw [eb]; exact hP)) (by first | exact hD | (rw [eb]; exact hD)) hS)
    · have e9 := e8
      rw [eb] at e9
      refine smVv (As := [.ref (a (o + 1 + 1 + 53 * 2))]) (rest := []) (ws' := ((wX5 cy a o S3.1) ++ (wX0 cy b1 z1 x7))) (q0 := 0) (qX0_copyFrom l D cy b1 z1 a (o + 1 + 1 + 53 * 2) S3.2 (((gX5_kept S3.1)).1 2)  (H).size x7 e9) ⟨hx, hb, hml, hown, hts⟩ (cwV 1 hts gX5_restore_X0_copyFrom rfl rfl rfl (by decide +kernel) ⟨Nat.le_of_ble_eq_true rfl, Nat.le_of_ble_eq_true rfl⟩) hG hP hD hS hA (pm2r (X := ((hX5 a o S3.1) ++ ((kW cy a (o + 1) (gX5_kept S3.1)) ++ ((wX0 cy a (o + 1 + 1 + 53 * 0) (((gX5_kept S3.1)).1 0)) ++ (wX0 cy a (o + 1 + 1 + 53 * 1) (((gX5_kept S3.1)).1 1)))))) (c1 := (wX0 cy b1 z1 S3.2)) (Y := (wX0 cy a (o + 1 + 1 + 53 * 3) (((gX5_kept S3.1)).1 3))) (c2 := (wX0 cy a (o + 1 + 1 + 53 * 2) (((gX5_kept S3.1)).1 2))) (Z := ([] : va_W)) (show ((wX5 cy a o S3.1) ++ (wX0 cy b1 z1 S3.2)) = ((hX5 a o S3.1) ++ ((kW cy a (o + 1) (gX5_kept S3.1)) ++ ((wX0 cy a (o + 1 + 1 + 53 * 0) (((gX5_kept S3.1)).1 0)) ++ (wX0 cy a (o + 1 + 1 + 53 * 1) (((gX5_kept S3.1)).1 1))))) ++ ((wX0 cy a (o + 1 + 1 + 53 * 2) (((gX5_kept S3.1)).1 2)) ++ ((wX0 cy a (o + 1 + 1 + 53 * 3) (((gX5_kept S3.1)).1 3)) ++ ((wX0 cy b1 z1 S3.2) ++ ([] : va_W)))) from by simp only [compsW, wX5, List.append_assoc, List.nil_append, List.append_nil] <;> rfl)) (pm2r (X := ((hX5 a o S3.1) ++ ((kW cy a (o + 1) (gX5_kept S3.1)) ++ ((wX0 cy a (o + 1 + 1 + 53 * 0) (((gX5_kept S3.1)).1 0)) ++ (wX0 cy a (o + 1 + 1 + 53 * 1) (((gX5_kept S3.1)).1 1)))))) (c1 := (wX0 cy b1 z1 x7)) (Y := (wX0 cy a (o + 1 + 1 + 53 * 3) (((gX5_kept S3.1)).1 3))) (c2 := (wX0 cy a (o + 1 + 1 + 53 * 2) (((gX5_kept S3.1)).1 2))) (Z := ([] : va_W)) (show ((wX5 cy a o S3.1) ++ (wX0 cy b1 z1 x7)) = ((hX5 a o S3.1) ++ ((kW cy a (o + 1) (gX5_kept S3.1)) ++ ((wX0 cy a (o + 1 + 1 + 53 * 0) (((gX5_kept S3.1)).1 0)) ++ (wX0 cy a (o + 1 + 1 + 53 * 1) (((gX5_kept S3.1)).1 1))))) ++ ((wX0 cy a (o + 1 + 1 + 53 * 2) (((gX5_kept S3.1)).1 2)) ++ ((wX0 cy a (o + 1 + 1 + 53 * 3) (((gX5_kept S3.1)).1 3)) ++ ((wX0 cy b1 z1 x7) ++ ([] : va_W)))) from by simp only [compsW, wX5, List.append_assoc, List.nil_append, List.append_nil] <;> rfl)) rfl rfl rfl hl.1 (by rw [eb]; rfl) (Nat.le_of_ble_eq_true rfl) dX5_restore_27 ⟨Nat.zero_le _, Nat.zero_le _⟩ (fun H locs hP hD hS => K9 H locs (by first | exact hP | (rw [eb]; exact hP)) (by first | exact hD | (rw [eb]; exact hD)) hS)
    · have e9 := e8
      rw [eb] at e9
      refine smVv (As := [.ref (a (o + 1 + 1 + 53 * 3))]) (rest := []) (ws' := ((wX5 cy a o S3.1) ++ (wX0 cy b1 z1 x7))) (q0 := 0) (qX0_copyFrom l D cy b1 z1 a (o + 1 + 1 + 53 * 3) S3.2 (((gX5_kept S3.1)).1 3)  (H).size x7 e9) ⟨hx, hb, hml, hown, hts⟩ (cwV 1 hts gX5_restore_X0_copyFrom rfl rfl rfl (by decide +kernel) ⟨Nat.le_of_ble_eq_true rfl, Nat.le_of_ble_eq_true rfl⟩) hG hP hD hS hA (pm2r (X := ((hX5 a o S3.1) ++ ((kW cy a (o + 1) (gX5_kept S3.1)) ++ ((wX0 cy a (o + 1 + 1 + 53 * 0) (((gX5_kept S3.1)).1 0)) ++ ((wX0 cy a (o + 1 + 1 + 53 * 1) (((gX5_kept S3.1)).1 1)) ++ (wX0 cy a (o + 1 + 1 + 53 * 2) (((gX5_kept S3.1)).1 2))))))) (c1 := (wX0 cy b1 z1 S3.2)) (Y := ([] : va_W)) (c2 := (wX0 cy a (o + 1 + 1 + 53 * 3) (((gX5_kept S3.1)).1 3))) (Z := ([] : va_W)) (show ((wX5 cy a o S3.1) ++ (wX0 cy b1 z1 S3.2)) = ((hX5 a o S3.1) ++ ((kW cy a (o + 1) (gX5_kept S3.1)) ++ ((wX0 cy a (o + 1 + 1 + 53 * 0) (((gX5_kept S3.1)).1 0)) ++ ((wX0 cy a (o + 1 + 1 + 53 * 1) (((gX5_kept S3.1)).1 1)) ++ (wX0 cy a (o + 1 + 1 + 53 * 2) (((gX5_kept S3.1)).1 2)))))) ++ ((wX0 cy a (o + 1 + 1 + 53 * 3) (((gX5_kept S3.1)).1 3)) ++ (([] : va_W) ++ ((wX0 cy b1 z1 S3.2) ++ ([] : va_W)))) from by simp only [compsW, wX5, List.append_assoc, List.nil_append, List.append_nil] <;> rfl)) (pm2r (X := ((hX5 a o S3.1) ++ ((kW cy a (o + 1) (gX5_kept S3.1)) ++ ((wX0 cy a (o + 1 + 1 + 53 * 0) (((gX5_kept S3.1)).1 0)) ++ ((wX0 cy a (o + 1 + 1 + 53 * 1) (((gX5_kept S3.1)).1 1)) ++ (wX0 cy a (o + 1 + 1 + 53 * 2) (((gX5_kept S3.1)).1 2))))))) (c1 := (wX0 cy b1 z1 x7)) (Y := ([] : va_W)) (c2 := (wX0 cy a (o + 1 + 1 + 53 * 3) (((gX5_kept S3.1)).1 3))) (Z := ([] : va_W)) (show ((wX5 cy a o S3.1) ++ (wX0 cy b1 z1 x7)) = ((hX5 a o S3.1) ++ ((kW cy a (o + 1) (gX5_kept S3.1)) ++ ((wX0 cy a (o + 1 + 1 + 53 * 0) (((gX5_kept S3.1)).1 0)) ++ ((wX0 cy a (o + 1 + 1 + 53 * 1) (((gX5_kept S3.1)).1 1)) ++ (wX0 cy a (o + 1 + 1 + 53 * 2) (((gX5_kept S3.1)).1 2)))))) ++ ((wX0 cy a (o + 1 + 1 + 53 * 3) (((gX5_kept S3.1)).1 3)) ++ (([] : va_W) ++ ((wX0 cy b1 z1 x7) ++ ([] : va_W)))) from by simp only [compsW, wX5, List.append_assoc, List.nil_append, List.append_nil] <;> rfl)) rfl rfl rfl hl.1 (by rw [eb]; rfl) (Nat.le_of_ble_eq_true rfl) dX5_restore_27 ⟨Nat.zero_le _, Nat.zero_le _⟩ (fun H locs hP hD hS => K9 H locs (by first | exact hP | (rw [eb]; exact hP)) (by first | exact hD | (rw [eb]; exact hD)) hS)
set_option maxHeartbeats 4000000 in
set_option maxRecDepth 100000 in
theorem qX11_requireArgument (l : Launch) (hl9 : l.stackTraces = false) (D : va_G) (cy : Nat → ClassId) (tt : Nat → Nat)   (p0 : Int32) (sz : Nat) (rs : Nat ⊕ (Unit)) (h : DX11_requireArgument p0 = some rs) : vx_Met l yX11_requireArgument wsX11_requireArgument ({ frames := 6, cells := cX rs, slots := sX rs, locals := 100 } : Room) (xP D cy tt sz [.int p0] ([] : va_W)) (va_Qv (fun (u : Unit) => Sum.inr u = rs) (fun _ t => mB D sz ([] : va_W) ([] : va_W) t) (va_A ([] : va_W) sz)) (xC D sz ([] : va_W) rs) (cX rs) (sX rs) (va_A ([] : va_W) sz) := by
  refine vx_ofW (cc := cX11_requireArgument) (maxL := 1) (ret := none) (by decide) rfl ?_
  intro p e s m args below meth c s₁ B hml htab hv
  obtain ⟨rfl, hsz, hP, hG, hD0, hX⟩ := hv
  have hx := B.exec
  have hb := B.bytes
  have hr := B.returns
  have hts := atoms_spec (ws := wsX11_requireArgument) B.pre
  have hown : s.vm.findClass RX11 = some m.cls := findClass_of_methodNamed B.named
  have hlocks := B.notSynchronized
  have hK := hG.1
  subst hsz
  have hD := hD0.self (sz := s.heap.size)
  have hA : ∀ q : Nat, s.heap.size ≤ q → (va_A ([] : va_W) s.heap.size) q := fun q h => Or.inr h
  have hS : va_S (va_A ([] : va_W) s.heap.size) s.heap s.heap [] := va_S.rf
  have hl := lv_entry ([.int p0]) (n := 1) (Nat.le_of_ble_eq_true rfl)
  rw [lg_entry_eq]
  generalize (lg_sl ([.int p0]) ++ List.replicate (1 - (lg_sl ([.int p0])).length) Slot.unset).toArray = ls at hl ⊢
  have hl : lv_has ls 1 [(0, .int p0)] := hl
  rw [DX11_requireArgument] at h
  refine lv_iload_n hx hb dX11_requireArgument_0 rfl (lv_at hl 0 rfl) ?_
  refine lv_if_ne (tgt := 12) hx hb dX11_requireArgument_1 (by decide) (fun cc => ?_) (fun cc => ?_)
  · have h := ite_n cc h
    refine vx_ret (W.widen (k := cX rs) (n := sX rs) (Nat.zero_le _) (Nat.zero_le _) ?_)
    exact W.vret hx hb hr (fun t ht hW => ⟨⟨(), rfl, some_in h, by rw [ht]; exact hP, hD⟩, hS.F ht⟩) hS.2.2 dX11_requireArgument_12
  · have h := ite_p cc h
    exact vx_throw0 (cls := "java/lang/IllegalArgumentException") (names := ["java/lang/RuntimeException", "java/lang/Exception"]) (ik := 317) (ic := 319) (A := (va_A ([] : va_W) s.heap.size)) hx hb hl9 hown (by decide +kernel) (by decide +kernel) (hts (.classLink RX11 317 "java/lang/IllegalArgumentException") (by decide +kernel)) (hts (.initialized "java/lang/IllegalArgumentException") (by decide +kernel)) (vx_hat (B := castL) (fun w hw => hts w ((by decide +kernel : ∀ w ∈ (vx_at0 RX11 319 "java/lang/IllegalArgumentException" ["java/lang/RuntimeException", "java/lang/Exception"]).filter goodWord, w ∈ wsX11_requireArgument) w hw)) (by decide +kernel) (castL_use hG.2.2.2)) (by decide +kernel) hX.1 hX.2.1 hS (hl.1.trans hml.symm) dX11_requireArgument_4 dX11_requireArgument_7 dX11_requireArgument_8 dX11_requireArgument_11 (fun x hx9 => (htab x hx9).elim) (Nat.le_of_ble_eq_true rfl) (Nat.le_of_ble_eq_true rfl) (by rw [← some_in h]; exact Nat.le_refl 1) (by rw [← some_in h]; exact Nat.le_refl 6) hlocks (fun t hvm hz hk => xThrow (k := 2) (by decide +kernel) (some_in h) hP hD hS hz hk) hS.2.2 (by rw [← some_in h]; exact Nat.le_refl 1) (by rw [← some_in h]; exact Nat.le_refl 6)
set_option maxHeartbeats 4000000 in
set_option maxRecDepth 100000 in
theorem qX11_requireState (l : Launch) (hl9 : l.stackTraces = false) (D : va_G) (cy : Nat → ClassId) (tt : Nat → Nat)   (p0 : Int32) (sz : Nat) (rs : Nat ⊕ (Unit)) (h : DX11_requireState p0 = some rs) : vx_Met l yX11_requireState wsX11_requireState ({ frames := 6, cells := cX rs, slots := sX rs, locals := 100 } : Room) (xP D cy tt sz [.int p0] ([] : va_W)) (va_Qv (fun (u : Unit) => Sum.inr u = rs) (fun _ t => mB D sz ([] : va_W) ([] : va_W) t) (va_A ([] : va_W) sz)) (xC D sz ([] : va_W) rs) (cX rs) (sX rs) (va_A ([] : va_W) sz) := by
  refine vx_ofW (cc := cX11_requireState) (maxL := 1) (ret := none) (by decide) rfl ?_
  intro p e s m args below meth c s₁ B hml htab hv
  obtain ⟨rfl, hsz, hP, hG, hD0, hX⟩ := hv
  have hx := B.exec
  have hb := B.bytes
  have hr := B.returns
  have hts := atoms_spec (ws := wsX11_requireState) B.pre
  have hown : s.vm.findClass RX11 = some m.cls := findClass_of_methodNamed B.named
  have hlocks := B.notSynchronized
  have hK := hG.1
  subst hsz
  have hD := hD0.self (sz := s.heap.size)
  have hA : ∀ q : Nat, s.heap.size ≤ q → (va_A ([] : va_W) s.heap.size) q := fun q h => Or.inr h
  have hS : va_S (va_A ([] : va_W) s.heap.size) s.heap s.heap [] := va_S.rf
  have hl := lv_entry ([.int p0]) (n := 1) (Nat.le_of_ble_eq_true rfl)
  rw [lg_entry_eq]
  generalize (lg_sl ([.int p0]) ++ List.replicate (1 - (lg_sl ([.int p0])).length) Slot.unset).toArray = ls at hl ⊢
  have hl : lv_has ls 1 [(0, .int p0)] := hl
  rw [DX11_requireState] at h
  refine lv_iload_n hx hb dX11_requireState_0 rfl (lv_at hl 0 rfl) ?_
  refine lv_if_ne (tgt := 12) hx hb dX11_requireState_1 (by decide) (fun cc => ?_) (fun cc => ?_)
  · have h := ite_n cc h
    refine vx_ret (W.widen (k := cX rs) (n := sX rs) (Nat.zero_le _) (Nat.zero_le _) ?_)
    exact W.vret hx hb hr (fun t ht hW => ⟨⟨(), rfl, some_in h, by rw [ht]; exact hP, hD⟩, hS.F ht⟩) hS.2.2 dX11_requireState_12
  · have h := ite_p cc h
    exact vx_throw0 (cls := "java/lang/IllegalStateException") (names := ["java/lang/RuntimeException", "java/lang/Exception"]) (ik := 320) (ic := 322) (A := (va_A ([] : va_W) s.heap.size)) hx hb hl9 hown (by decide +kernel) (by decide +kernel) (hts (.classLink RX11 320 "java/lang/IllegalStateException") (by decide +kernel)) (hts (.initialized "java/lang/IllegalStateException") (by decide +kernel)) (vx_hat (B := castL) (fun w hw => hts w ((by decide +kernel : ∀ w ∈ (vx_at0 RX11 322 "java/lang/IllegalStateException" ["java/lang/RuntimeException", "java/lang/Exception"]).filter goodWord, w ∈ wsX11_requireState) w hw)) (by decide +kernel) (castL_use hG.2.2.2)) (by decide +kernel) hX.1 hX.2.1 hS (hl.1.trans hml.symm) dX11_requireState_4 dX11_requireState_7 dX11_requireState_8 dX11_requireState_11 (fun x hx9 => (htab x hx9).elim) (Nat.le_of_ble_eq_true rfl) (Nat.le_of_ble_eq_true rfl) (by rw [← some_in h]; exact Nat.le_refl 1) (by rw [← some_in h]; exact Nat.le_refl 6) hlocks (fun t hvm hz hk => xThrow (k := 3) (by decide +kernel) (some_in h) hP hD hS hz hk) hS.2.2 (by rw [← some_in h]; exact Nat.le_refl 1) (by rw [← some_in h]; exact Nat.le_refl 6)
set_option maxHeartbeats 4000000 in
set_option maxRecDepth 100000 in
theorem qX11_addWork (l : Launch) (hl9 : l.stackTraces = false) (D : va_G) (cy : Nat → ClassId) (tt : Nat → Nat) (a : Nat → Nat) (o : Nat) (S : SX11) (p1 : Int32) (p2 : Int32) (p3 : Int32) (sz : Nat) (rs : Nat ⊕ (Int32 × SX11)) (h : DX11_addWork S p1 p2 p3 = some rs) : vx_Met l yX11_addWork wsX11_addWork ({ frames := 7, cells := cX rs, slots := sX rs, locals := 206 } : Room) (xP D cy tt sz [.ref (a o), .int p1, .int p2, .int p3] (wX11 cy a o S)) (va_Qi (fun r (u : SX11) => Sum.inr (r, u) = rs) (fun u t => mB D sz (wX11 cy a o S) (wX11 cy a o u) t) (va_A (wX11 cy a o S) sz)) (xC D sz (wX11 cy a o S) rs) (cX rs) (sX rs) (va_A (wX11 cy a o S) sz) := by
  refine vx_ofW (cc := cX11_addWork) (maxL := 4) (ret := (some .int)) (by decide) rfl ?_
  intro p e s m args below meth c s₁ B hml htab hv
  obtain ⟨rfl, hsz, hP, hG, hD0, hX⟩ := hv
  have hx := B.exec
  have hb := B.bytes
  have hr := B.returns
  have hts := atoms_spec (ws := wsX11_addWork) B.pre
  have hown : s.vm.findClass RX11 = some m.cls := findClass_of_methodNamed B.named
  have hlocks := B.notSynchronized
  have hK := hG.1
  subst hsz
  have hD := hD0.self (sz := s.heap.size)
  have hA : ∀ q : Nat, s.heap.size ≤ q → (va_A (wX11 cy a o S) s.heap.size) q := fun q h => Or.inr h
  have hS : va_S (va_A (wX11 cy a o S) s.heap.size) s.heap s.heap [] := va_S.rf
  have hinX11 := (by decide +kernel : ∀ w ∈ wsX110, w ∈ wsX11_addWork)
  have hf10 := hts (.fieldLink RX11 10 "PianoRounds" "now" "LPianoRounds$Competition;") (by decide +kernel)
  have hinX0 := (by decide +kernel : ∀ w ∈ wsX00, w ∈ wsX11_addWork)
  have hf38 := va_Nw.use (A := ([.ref (a o), .int p1, .int p2, .int p3] : List Value).toArray) (U := s) (w := .fieldLinkNest "PianoRounds" 38 "PianoRounds$Competition" "state" "I" "PianoRounds") rfl (hG.2.1 _ (by decide +kernel))
  have hf19 := hts (.fieldLink RX11 19 "PianoRounds" "records" "LPianoRounds$Records;") (by decide +kernel)
  have hf42 := va_Nw.use (A := ([.ref (a o), .int p1, .int p2, .int p3] : List Value).toArray) (U := s) (w := .fieldLinkNest "PianoRounds" 42 "PianoRounds$Competition" "works" "LPianoRounds$Works;" "PianoRounds") rfl (hG.2.1 _ (by decide +kernel))
  have hinX10 := (by decide +kernel : ∀ w ∈ wsX100, w ∈ wsX11_addWork)
  have hf46 := va_Nw.use (A := ([.ref (a o), .int p1, .int p2, .int p3] : List Value).toArray) (U := s) (w := .fieldLinkNest "PianoRounds" 46 "PianoRounds$Works" "count" "I" "PianoRounds") rfl (hG.2.1 _ (by decide +kernel))
  have hl := lv_entry ([.ref (a o), .int p1, .int p2, .int p3]) (n := 4) (Nat.le_of_ble_eq_true rfl)
  rw [lg_entry_eq]
  generalize (lg_sl ([.ref (a o), .int p1, .int p2, .int p3]) ++ List.replicate (4 - (lg_sl ([.ref (a o), .int p1, .int p2, .int p3])).length) Slot.unset).toArray = ls at hl ⊢
  have hl : lv_has ls 4 [(0, .ref (a o)), (1, .int p1), (2, .int p2), (3, .int p3)] := hl
  rw [DX11_addWork] at h
  refine lv_iload_n hx hb dX11_addWork_0 rfl (lv_at hl 1 rfl) ?_
  refine lv_iconst (v := (0 : Int32)) hx hb dX11_addWork_1 (by decide) ?_
  refine lv_bipush (v := (9 : Int32)) hx hb dX11_addWork_2 (by decide) ?_
  obtain ⟨x1, e2, h⟩ := bd_some h
  refine pcS (As := [.int p1, .int (0 : Int32), .int (9 : Int32)]) (rest := []) (qX11_isBetween l D cy  p1 (0 : Int32) (9 : Int32) x1 e2) ⟨hx, hb, hml, hown, hts⟩ (va_cwS 3 hts gX11_addWork_X11_isBetween rfl rfl rfl (by decide +kernel) ⟨Nat.le_of_ble_eq_true rfl, Nat.le_of_ble_eq_true rfl⟩) hG (hP.sub [] rfl) rfl hl.1 rfl (Nat.le_of_ble_eq_true rfl) dX11_addWork_4 ⟨Nat.zero_le _, Nat.zero_le _⟩ ?_
  rcases tx_some h with ⟨k9, e9, h⟩ | ⟨x3, e4, h⟩
  · refine tcT (fun st v t q => by obtain ⟨⟨u, -, hu, -⟩, -⟩ := q; cases hu) hG hX hP hD hS hA (pm0 (wX11 cy a o S)) (fun h1 h2 => vx_runS (As := [.int x1]) (rest := []) ⟨hx, hb, hml, hown, hts⟩ (qX11_requireArgument l hl9 D cy tt  x1 (s.heap).size (Sum.inl k9) e9) (va_cwS 1 hts gX11_addWork_X11_requireArgument rfl rfl rfl (by decide +kernel) ⟨Nat.le_of_ble_eq_true rfl, Nat.le_of_ble_eq_true rfl⟩) ⟨h1, h2⟩ rfl rfl hl.1 rfl (lv_room (Nat.le_of_ble_eq_true rfl)) dX11_addWork_7 ⟨(by rw [← h]; exact Nat.le_refl 1), (by rw [← h]; exact Nat.le_refl 6)⟩) (fun ce q9 H locs hP hS hce hcv hcl => ?_)
    exact vx_out (fun x hx9 => (htab x hx9).elim) hlocks hce hcv hcl (fun t ht hvm => xThrow rfl h hP hD hS (by rw [ht]; exact Nat.le_refl _) (fun q _ => by rw [ht])) hS.2.2 (by rw [← h]; exact Nat.le_refl 1) (by rw [← h]; exact Nat.le_refl 6)
  refine tcNv hG hX hP hD hS hA (pm0 (wX11 cy a o S)) (fun h1 h2 => vx_runS (As := [.int x1]) (rest := []) ⟨hx, hb, hml, hown, hts⟩ (qX11_requireArgument l hl9 D cy tt  x1 (s.heap).size (Sum.inr x3) e4) (va_cwS 1 hts gX11_addWork_X11_requireArgument rfl rfl rfl (by decide +kernel) ⟨Nat.le_of_ble_eq_true rfl, Nat.le_of_ble_eq_true rfl⟩) ⟨h1, h2⟩ rfl rfl hl.1 rfl (lv_room (Nat.le_of_ble_eq_true rfl)) dX11_addWork_7 ⟨Nat.zero_le _, Nat.zero_le _⟩) (c2 := 0) (s2 := 0) rfl rfl (fun H locs hP hS => ?_)
  refine lv_iload_n hx hb dX11_addWork_10 rfl (lv_at hl 2 rfl) ?_
  refine lv_iconst (v := (0 : Int32)) hx hb dX11_addWork_11 (by decide) ?_
  refine lv_iconst (v := (4 : Int32)) hx hb dX11_addWork_12 (by decide) ?_
  obtain ⟨x5, e6, h⟩ := bd_some h
  refine pcS (As := [.int p2, .int (0 : Int32), .int (4 : Int32)]) (rest := []) (qX11_isBetween l D cy  p2 (0 : Int32) (4 : Int32) x5 e6) ⟨hx, hb, hml, hown, hts⟩ (va_cwS 3 hts gX11_addWork_X11_isBetween rfl rfl rfl (by decide +kernel) ⟨Nat.le_of_ble_eq_true rfl, Nat.le_of_ble_eq_true rfl⟩) hG (hP.sub [] rfl) rfl hl.1 rfl (Nat.le_of_ble_eq_true rfl) dX11_addWork_13 ⟨Nat.zero_le _, Nat.zero_le _⟩ ?_
  rcases tx_some h with ⟨k9, e9, h⟩ | ⟨x7, e8, h⟩
  · refine tcT (fun st v t q => by obtain ⟨⟨u, -, hu, -⟩, -⟩ := q; cases hu) hG hX hP hD hS hA (pm0 (wX11 cy a o S)) (fun h1 h2 => vx_runS (As := [.int x5]) (rest := []) ⟨hx, hb, hml, hown, hts⟩ (qX11_requireArgument l hl9 D cy tt  x5 (H).size (Sum.inl k9) e9) (va_cwS 1 hts gX11_addWork_X11_requireArgument rfl rfl rfl (by decide +kernel) ⟨Nat.le_of_ble_eq_true rfl, Nat.le_of_ble_eq_true rfl⟩) ⟨h1, h2⟩ rfl rfl hl.1 rfl (lv_room (Nat.le_of_ble_eq_true rfl)) dX11_addWork_16 ⟨(by rw [← h]; exact Nat.le_refl 1), (by rw [← h]; exact Nat.le_refl 6)⟩) (fun ce q9 H locs hP hS hce hcv hcl => ?_)
    exact vx_out (fun x hx9 => (htab x hx9).elim) hlocks hce hcv hcl (fun t ht hvm => xThrow rfl h hP hD hS (by rw [ht]; exact Nat.le_refl _) (fun q _ => by rw [ht])) hS.2.2 (by rw [← h]; exact Nat.le_refl 1) (by rw [← h]; exact Nat.le_refl 6)
  refine tcNv hG hX hP hD hS hA (pm0 (wX11 cy a o S)) (fun h1 h2 => vx_runS (As := [.int x5]) (rest := []) ⟨hx, hb, hml, hown, hts⟩ (qX11_requireArgument l hl9 D cy tt  x5 (H).size (Sum.inr x7) e8) (va_cwS 1 hts gX11_addWork_X11_requireArgument rfl rfl rfl (by decide +kernel) ⟨Nat.le_of_ble_eq_true rfl, Nat.le_of_ble_eq_true rfl⟩) ⟨h1, h2⟩ rfl rfl hl.1 rfl (lv_room (Nat.le_of_ble_eq_true rfl)) dX11_addWork_16 ⟨Nat.zero_le _, Nat.zero_le _⟩) (c2 := 0) (s2 := 0) rfl rfl (fun H locs hP hS => ?_)
  refine lv_iload_n hx hb dX11_addWork_19 rfl (lv_at hl 3 rfl) ?_
  refine lv_iconst (v := (1 : Int32)) hx hb dX11_addWork_20 (by decide) ?_
  refine lv_bipush (v := (60 : Int32)) hx hb dX11_addWork_21 (by decide) ?_
  obtain ⟨x9, e10, h⟩ := bd_some h
  refine pcS (As := [.int p3, .int (1 : Int32), .int (60 : Int32)]) (rest := []) (qX11_isBetween l D cy  p3 (1 : Int32) (60 : Int32) x9 e10) ⟨hx, hb, hml, hown, hts⟩ (va_cwS 3 hts gX11_addWork_X11_isBetween rfl rfl rfl (by decide +kernel) ⟨Nat.le_of_ble_eq_true rfl, Nat.le_of_ble_eq_true rfl⟩) hG (hP.sub [] rfl) rfl hl.1 rfl (Nat.le_of_ble_eq_true rfl) dX11_addWork_23 ⟨Nat.zero_le _, Nat.zero_le _⟩ ?_
  rcases tx_some h with ⟨k9, e9, h⟩ | ⟨x11, e12, h⟩
  · refine tcT (fun st v t q => by obtain ⟨⟨u, -, hu, -⟩, -⟩ := q; cases hu) hG hX hP hD hS hA (pm0 (wX11 cy a o S)) (fun h1 h2 => vx_runS (As := [.int x9]) (rest := []) ⟨hx, hb, hml, hown, hts⟩ (qX11_requireArgument l hl9 D cy tt  x9 (H).size (Sum.inl k9) e9) (va_cwS 1 hts gX11_addWork_X11_requireArgument rfl rfl rfl (by decide +kernel) ⟨Nat.le_of_ble_eq_true rfl, Nat.le_of_ble_eq_true rfl⟩) ⟨h1, h2⟩ rfl rfl hl.1 rfl (lv_room (Nat.le_of_ble_eq_true rfl)) dX11_addWork_26 ⟨(by rw [← h]; exact Nat.le_refl 1), (by rw [← h]; exact Nat.le_refl 6)⟩) (fun ce q9 H locs hP hS hce hcv hcl => ?_)
    exact vx_out (fun x hx9 => (htab x hx9).elim) hlocks hce hcv hcl (fun t ht hvm => xThrow rfl h hP hD hS (by rw [ht]; exact Nat.le_refl _) (fun q _ => by rw [ht])) hS.2.2 (by rw [← h]; exact Nat.le_refl 1) (by rw [← h]; exact Nat.le_refl 6)
  refine tcNv hG hX hP hD hS hA (pm0 (wX11 cy a o S)) (fun h1 h2 => vx_runS (As := [.int x9]) (rest := []) ⟨hx, hb, hml, hown, hts⟩ (qX11_requireArgument l hl9 D cy tt  x9 (H).size (Sum.inr x11) e12) (va_cwS 1 hts gX11_addWork_X11_requireArgument rfl rfl rfl (by decide +kernel) ⟨Nat.le_of_ble_eq_true rfl, Nat.le_of_ble_eq_true rfl⟩) ⟨h1, h2⟩ rfl rfl hl.1 rfl (lv_room (Nat.le_of_ble_eq_true rfl)) dX11_addWork_26 ⟨Nat.zero_le _, Nat.zero_le _⟩) (c2 := 0) (s2 := 0) rfl rfl (fun H locs hP hS => ?_)
  refine lv_aload_n hx hb dX11_addWork_29 rfl (lv_at hl 0 rfl) ?_
  refine va_get (D := D) (ci := 11) (v := .ref (a (o + 1))) (C := RX11) (T := TX11) (N := 3) hx hb hts hinX11 hown hK hP 0 rfl rfl 0 (by decide) hf10 (fun _ h9 => h9) rfl dX11_addWork_30 ?_
  refine va_getN (D := D) (ci := 0) (v := .int (gX0_state (gX11_now S))) (C := RX0) (T := TX0) (N := 14) hx hb hts hinX0 hown hK hP 1 rfl rfl 0 (by decide) hf38 (fun _ h9 => h9) rfl dX11_addWork_33 ?_
  obtain ⟨j14, hj14, h⟩ := jn_elim h
  have Jj14 : ∀ (x13 : Int32) (ls : Array Slot), j14 x13 = some rs → lv_has ls 4 [(0, .ref (a o)), (1, .int p1), (2, .int p2), (3, .int p3)] → W p l e (headSpec wsX11_addWork ({ frames := 7, cells := cX rs, slots := sX rs, locals := 206 } : Room)).room s m ([.ref (a o), .int p1, .int p2, .int p3] : List Value).toArray below meth c H locs 0 0 (vx_MQ below (va_Qi (fun r (u : SX11) => Sum.inr (r, u) = rs) (fun u t => mB D s.heap.size (wX11 cy a o S) (wX11 cy a o u) t) (va_A (wX11 cy a o S) s.heap.size)) (xC D s.heap.size (wX11 cy a o S) rs) ([.ref (a o), .int p1, .int p2, .int p3] : List Value).toArray s (cX rs) (sX rs) (va_A (wX11 cy a o S) s.heap.size)) (F0 m 59 ls [.int x13]) := by
    intro x13 ls h hl
    rw [hj14] at h
    rcases tx_some h with ⟨k9, e9, h⟩ | ⟨x15, e16, h⟩
    · refine tcT (fun st v t q => by obtain ⟨⟨u, -, hu, -⟩, -⟩ := q; cases hu) hG hX hP hD hS hA (pm0 (wX11 cy a o S)) (fun h1 h2 => vx_runS (As := [.int x13]) (rest := []) ⟨hx, hb, hml, hown, hts⟩ (qX11_requireState l hl9 D cy tt  x13 (H).size (Sum.inl k9) e9) (va_cwS 1 hts gX11_addWork_X11_requireState rfl rfl rfl (by decide +kernel) ⟨Nat.le_of_ble_eq_true rfl, Nat.le_of_ble_eq_true rfl⟩) ⟨h1, h2⟩ rfl rfl hl.1 rfl (lv_room (Nat.le_of_ble_eq_true rfl)) dX11_addWork_59 ⟨(by rw [← h]; exact Nat.le_refl 1), (by rw [← h]; exact Nat.le_refl 6)⟩) (fun ce q9 H locs hP hS hce hcv hcl => ?_)
      exact vx_out (fun x hx9 => (htab x hx9).elim) hlocks hce hcv hcl (fun t ht hvm => xThrow rfl h hP hD hS (by rw [ht]; exact Nat.le_refl _) (fun q _ => by rw [ht])) hS.2.2 (by rw [← h]; exact Nat.le_refl 1) (by rw [← h]; exact Nat.le_refl 6)
    refine tcNv hG hX hP hD hS hA (pm0 (wX11 cy a o S)) (fun h1 h2 => vx_runS (As := [.int x13]) (rest := []) ⟨hx, hb, hml, hown, hts⟩ (qX11_requireState l hl9 D cy tt  x13 (H).size (Sum.inr x15) e16) (va_cwS 1 hts gX11_addWork_X11_requireState rfl rfl rfl (by decide +kernel) ⟨Nat.le_of_ble_eq_true rfl, Nat.le_of_ble_eq_true rfl⟩) ⟨h1, h2⟩ rfl rfl hl.1 rfl (lv_room (Nat.le_of_ble_eq_true rfl)) dX11_addWork_59 ⟨Nat.zero_le _, Nat.zero_le _⟩) (c2 := 0) (s2 := 0) rfl rfl (fun H locs hP hS => ?_)
    refine lv_aload_n hx hb dX11_addWork_62 rfl (lv_at hl 0 rfl) ?_
    refine va_get (D := D) (ci := 11) (v := .ref (a (o + 54))) (C := RX11) (T := TX11) (N := 3) hx hb hts hinX11 hown hK hP 0 rfl rfl 1 (by decide) hf19 (fun _ h9 => h9) rfl dX11_addWork_63 ?_
    refine lv_aload_n hx hb dX11_addWork_66 rfl (lv_at hl 0 rfl) ?_
    refine va_get (D := D) (ci := 11) (v := .ref (a (o + 1))) (C := RX11) (T := TX11) (N := 3) hx hb hts hinX11 hown hK hP 0 rfl rfl 0 (by decide) hf10 (fun _ h9 => h9) rfl dX11_addWork_67 ?_
    obtain ⟨x17, e18, h⟩ := bd_some h
    refine smVv (As := [.ref (a (o + 1))]) (rest := []) (ws' := (wX11 cy a o (uX11_records S x17))) (q0 := 0) (qX5_keep l D cy a (o + 54) a (o + 1) (gX11_records S) (gX11_now S)  (H).size x17 e18) ⟨hx, hb, hml, hown, hts⟩ (cwV 1 hts gX11_addWork_X5_keep rfl rfl rfl (by decide +kernel) ⟨Nat.le_of_ble_eq_true rfl, Nat.le_of_ble_eq_true rfl⟩) hG hP hD hS hA (pm2r (X := (hX11 a o S)) (c1 := (wX5 cy a (o + 54) (gX11_records S))) (Y := ([] : va_W)) (c2 := (wX0 cy a (o + 1) (gX11_now S))) (Z := (wX8 cy a (o + 268) (gX11_text S))) (show (wX11 cy a o S) = (hX11 a o S) ++ ((wX0 cy a (o + 1) (gX11_now S)) ++ (([] : va_W) ++ ((wX5 cy a (o + 54) (gX11_records S)) ++ (wX8 cy a (o + 268) (gX11_text S))))) from by simp only [wX11, List.append_assoc, List.nil_append, List.append_nil] <;> rfl)) (pm2r (X := (hX11 a o S)) (c1 := (wX5 cy a (o + 54) x17)) (Y := ([] : va_W)) (c2 := (wX0 cy a (o + 1) (gX11_now S))) (Z := (wX8 cy a (o + 268) (gX11_text S))) (show (wX11 cy a o (uX11_records S x17)) = (hX11 a o S) ++ ((wX0 cy a (o + 1) (gX11_now S)) ++ (([] : va_W) ++ ((wX5 cy a (o + 54) x17) ++ (wX8 cy a (o + 268) (gX11_text S))))) from by simp only [wX11, List.append_assoc, List.nil_append, List.append_nil] <;> rfl)) rfl rfl rfl hl.1 rfl (Nat.le_of_ble_eq_true rfl) dX11_addWork_70 ⟨Nat.zero_le _, Nat.zero_le _⟩ (fun H locs hP hD hS => ?_)
    obtain ⟨S19, eS20, h⟩ := lt_elim h
    have hP : va_P D vwCl (wX11 cy a o S19) H := by rw [eS20]; exact hP
    have hD : va_D (va_A (wX11 cy a o S) s.heap.size) (wX11 cy a o S19) := by rw [eS20]; exact hD
    refine lv_aload_n hx hb dX11_addWork_73 rfl (lv_at hl 0 rfl) ?_
    refine va_get (D := D) (ci := 11) (v := .ref (a (o + 1))) (C := RX11) (T := TX11) (N := 3) hx hb hts hinX11 hown hK hP 0 rfl rfl 0 (by decide) hf10 (fun _ h9 => h9) rfl dX11_addWork_74 ?_
    refine va_getN (D := D) (ci := 0) (v := .ref (a (o + 1 + 1))) (C := RX0) (T := TX0) (N := 14) hx hb hts hinX0 hown hK hP 1 rfl rfl 4 (by decide) hf42 (fun _ h9 => h9) rfl dX11_addWork_77 ?_
    refine lv_iload_n hx hb dX11_addWork_80 rfl (lv_at hl 1 rfl) ?_
    refine lv_iload_n hx hb dX11_addWork_81 rfl (lv_at hl 2 rfl) ?_
    refine lv_iload_n hx hb dX11_addWork_82 rfl (lv_at hl 3 rfl) ?_
    obtain ⟨x21, e22, h⟩ := bd_some h
    refine smVi (As := [.int p1, .int p2, .int p3]) (rest := []) (ws' := (wX11 cy a o (uX11_now S19 (uX0_works (gX11_now S19) x21.2)))) (q0 := 0) (qX10_append l D cy a (o + 1 + 1) (gX0_works (gX11_now S19)) p1 p2 p3 (H).size x21 e22) ⟨hx, hb, hml, hown, hts⟩ (cwV 3 hts gX11_addWork_X10_append rfl rfl rfl (by decide +kernel) ⟨Nat.le_of_ble_eq_true rfl, Nat.le_of_ble_eq_true rfl⟩) hG hP hD hS hA (pm1 (X := ((hX11 a o S19) ++ (hX0 a (o + 1) (gX11_now S19)))) (c := (wX10 cy a (o + 1 + 1) (gX0_works (gX11_now S19)))) (Y := ((wX2 cy a (o + 1 + 5) (gX0_entrants (gX11_now S19))) ++ ((rowsW (cy 2) (cy 0) a (o + 1 + 7) 4 6 (gX0_rules (gX11_now S19))) ++ ((wX4 cy a (o + 1 + 12) (gX0_programs (gX11_now S19))) ++ ((wX3 cy a (o + 1 + 14) (gX0_jury (gX11_now S19))) ++ ((wX7 cy a (o + 1 + 23) (gX0_stage (gX11_now S19))) ++ ((wX6 cy a (o + 1 + 26) (gX0_sheet (gX11_now S19))) ++ ((wX9 cy a (o + 1 + 35) (gX0_tie (gX11_now S19))) ++ ((rowsW (cy 2) (cy 0) a (o + 1 + 46) 4 12 (gX0_closedScores (gX11_now S19))) ++ ((wX1 cy a (o + 1 + 51) (gX0_cut (gX11_now S19))) ++ ((wX5 cy a (o + 54) (gX11_records S19)) ++ (wX8 cy a (o + 268) (gX11_text S19))))))))))))) (show (wX11 cy a o S19) = ((hX11 a o S19) ++ (hX0 a (o + 1) (gX11_now S19))) ++ ((wX10 cy a (o + 1 + 1) (gX0_works (gX11_now S19))) ++ ((wX2 cy a (o + 1 + 5) (gX0_entrants (gX11_now S19))) ++ ((rowsW (cy 2) (cy 0) a (o + 1 + 7) 4 6 (gX0_rules (gX11_now S19))) ++ ((wX4 cy a (o + 1 + 12) (gX0_programs (gX11_now S19))) ++ ((wX3 cy a (o + 1 + 14) (gX0_jury (gX11_now S19))) ++ ((wX7 cy a (o + 1 + 23) (gX0_stage (gX11_now S19))) ++ ((wX6 cy a (o + 1 + 26) (gX0_sheet (gX11_now S19))) ++ ((wX9 cy a (o + 1 + 35) (gX0_tie (gX11_now S19))) ++ ((rowsW (cy 2) (cy 0) a (o + 1 + 46) 4 12 (gX0_closedScores (gX11_now S19))) ++ ((wX1 cy a (o + 1 + 51) (gX0_cut (gX11_now S19))) ++ ((wX5 cy a (o + 54) (gX11_records S19)) ++ (wX8 cy a (o + 268) (gX11_text S19))))))))))))) from by simp only [wX0, wX11, List.append_assoc, List.nil_append, List.append_nil] <;> rfl)) (pm1 (X := ((hX11 a o S19) ++ (hX0 a (o + 1) (gX11_now S19)))) (c := (wX10 cy a (o + 1 + 1) x21.2)) (Y := ((wX2 cy a (o + 1 + 5) (gX0_entrants (gX11_now S19))) ++ ((rowsW (cy 2) (cy 0) a (o + 1 + 7) 4 6 (gX0_rules (gX11_now S19))) ++ ((wX4 cy a (o + 1 + 12) (gX0_programs (gX11_now S19))) ++ ((wX3 cy a (o + 1 + 14) (gX0_jury (gX11_now S19))) ++ ((wX7 cy a (o + 1 + 23) (gX0_stage (gX11_now S19))) ++ ((wX6 cy a (o + 1 + 26) (gX0_sheet (gX11_now S19))) ++ ((wX9 cy a (o + 1 + 35) (gX0_tie (gX11_now S19))) ++ ((rowsW (cy 2) (cy 0) a (o + 1 + 46) 4 12 (gX0_closedScores (gX11_now S19))) ++ ((wX1 cy a (o + 1 + 51) (gX0_cut (gX11_now S19))) ++ ((wX5 cy a (o + 54) (gX11_records S19)) ++ (wX8 cy a (o + 268) (gX11_text S19))))))))))))) (show (wX11 cy a o (uX11_now S19 (uX0_works (gX11_now S19) x21.2))) = ((hX11 a o S19) ++ (hX0 a (o + 1) (gX11_now S19))) ++ ((wX10 cy a (o + 1 + 1) x21.2) ++ ((wX2 cy a (o + 1 + 5) (gX0_entrants (gX11_now S19))) ++ ((rowsW (cy 2) (cy 0) a (o + 1 + 7) 4 6 (gX0_rules (gX11_now S19))) ++ ((wX4 cy a (o + 1 + 12) (gX0_programs (gX11_now S19))) ++ ((wX3 cy a (o + 1 + 14) (gX0_jury (gX11_now S19))) ++ ((wX7 cy a (o + 1 + 23) (gX0_stage (gX11_now S19))) ++ ((wX6 cy a (o + 1 + 26) (gX0_sheet (gX11_now S19))) ++ ((wX9 cy a (o + 1 + 35) (gX0_tie (gX11_now S19))) ++ ((rowsW (cy 2) (cy 0) a (o + 1 + 46) 4 12 (gX0_closedScores (gX11_now S19))) ++ ((wX1 cy a (o + 1 + 51) (gX0_cut (gX11_now S19))) ++ ((wX5 cy a (o + 54) (gX11_records S19)) ++ (wX8 cy a (o + 268) (gX11_text S19))))))))))))) from by simp only [wX0, wX11, List.append_assoc, List.nil_append, List.append_nil] <;> rfl)) rfl rfl rfl hl.1 rfl (Nat.le_of_ble_eq_true rfl) dX11_addWork_83 ⟨Nat.zero_le _, Nat.zero_le _⟩ (fun H locs hP hD hS => ?_)
    obtain ⟨S23, eS24, h⟩ := lt_elim h
    have hP : va_P D vwCl (wX11 cy a o S23) H := by rw [eS24]; exact hP
    have hD : va_D (va_A (wX11 cy a o S) s.heap.size) (wX11 cy a o S23) := by rw [eS24]; exact hD
    refine vx_ret (W.widen (k := cX rs) (n := sX rs) (Nat.zero_le _) (Nat.zero_le _) ?_)
    exact W.iret (v := x21.1) hx hb hr (fun t ht hW => ⟨⟨x21.1, S23, rfl, some_in h, by rw [ht]; exact hP, hD⟩, hS.F ht⟩) hS.2.2 dX11_addWork_86
  obtain ⟨j25, hj25, h⟩ := jn_elim h
  have Jj25 : ∀ (ls : Array Slot), j25 () = some rs → lv_has ls 4 [(0, .ref (a o)), (1, .int p1), (2, .int p2), (3, .int p3)] → W p l e (headSpec wsX11_addWork ({ frames := 7, cells := cX rs, slots := sX rs, locals := 206 } : Room)).room s m ([.ref (a o), .int p1, .int p2, .int p3] : List Value).toArray below meth c H locs 0 0 (vx_MQ below (va_Qi (fun r (u : SX11) => Sum.inr (r, u) = rs) (fun u t => mB D s.heap.size (wX11 cy a o S) (wX11 cy a o u) t) (va_A (wX11 cy a o S) s.heap.size)) (xC D s.heap.size (wX11 cy a o S) rs) ([.ref (a o), .int p1, .int p2, .int p3] : List Value).toArray s (cX rs) (sX rs) (va_A (wX11 cy a o S) s.heap.size)) (F0 m 58 ls []) := by
    intro ls h hl
    rw [hj25] at h
    refine lv_iconst (v := (0 : Int32)) hx hb dX11_addWork_58 (by decide) ?_
    exact Jj14 (0 : Int32) ls h (lv_sub hl [0, 1, 2, 3] rfl)
  refine lv_if_ne (tgt := 58) hx hb dX11_addWork_36 (by decide) (fun cc => ?_) (fun cc => ?_)
  · have h := ite_n cc h
    exact Jj25  ls h (lv_sub hl [0, 1, 2, 3] rfl)
  · have h := ite_p cc h
    refine lv_aload_n hx hb dX11_addWork_39 rfl (lv_at hl 0 rfl) ?_
    refine va_get (D := D) (ci := 11) (v := .ref (a (o + 1))) (C := RX11) (T := TX11) (N := 3) hx hb hts hinX11 hown hK hP 0 rfl rfl 0 (by decide) hf10 (fun _ h9 => h9) rfl dX11_addWork_40 ?_
    refine va_getN (D := D) (ci := 0) (v := .ref (a (o + 1 + 1))) (C := RX0) (T := TX0) (N := 14) hx hb hts hinX0 hown hK hP 1 rfl rfl 4 (by decide) hf42 (fun _ h9 => h9) rfl dX11_addWork_43 ?_
    refine va_getN (D := D) (ci := 10) (v := .int (gX10_count (gX0_works (gX11_now S)))) (C := RX10) (T := TX10) (N := 4) hx hb hts hinX10 hown hK hP 2 rfl rfl 0 (by decide) hf46 (fun _ h9 => h9) rfl dX11_addWork_46 ?_
    refine lv_bipush (v := (30 : Int32)) hx hb dX11_addWork_49 (by decide) ?_
    refine lv_icmp_ge (tgt := 58) hx hb dX11_addWork_51 (by decide) (fun cc => ?_) (fun cc => ?_)
    · have h := ite_p cc h
      exact Jj25  ls h (lv_sub hl [0, 1, 2, 3] rfl)
    · have h := ite_n cc h
      refine lv_iconst (v := (1 : Int32)) hx hb dX11_addWork_54 (by decide) ?_
      refine lv_goto (tgt := 59) hx hb dX11_addWork_55 (by decide) ?_
      exact Jj14 (1 : Int32) ls h (lv_sub hl [0, 1, 2, 3] rfl)
