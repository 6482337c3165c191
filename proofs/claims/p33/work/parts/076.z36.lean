section WG
variable {M N V : Int → Int} {T : SX11} {S : SX12} {C : SX0} {c : Int}
theorem plc_iff {e : Int} : plcZ M e ≠ -1 ↔ ∃ k : Int, 0 ≤ k ∧ k < M 7 ∧ M (462 + k) = e := by
  unfold plcZ
  rw [fst_some]
  constructor
  · intro ⟨k, h1, h2⟩
    exact ⟨k, by omega, by omega, of_decide_eq_true h2⟩
  · intro ⟨k, h1, h2, h3⟩
    refine ⟨k.toNat, by omega, decide_eq_true ?_⟩
    rw [Int.toNat_of_nonneg h1]
    exact h3
theorem hp_iff (hO : ordI M) (h8 : M 8 ≤ M 7) {e : Int} : hpZ M e = true ↔ ∃ k : Int, 0 ≤ k ∧ k < M 8 ∧ M (462 + k) = e := by
  unfold hpZ
  rw [decide_eq_true_eq]
  constructor
  · intro ⟨h1, h2⟩
    exact ⟨plcZ M e, h1, by omega, plc_at (by omega)⟩
  · intro ⟨k, h1, h2, h3⟩
    rw [← h3, plc_ord hO h1 (by omega)]
    omega
/-- the cells p .. p + n - 1 of the order moved up by one -/
def shZ (M : Int → Int) (p n : Int) : Int → Int := fun k => if 462 + p ≤ k ∧ k < 462 + p + n then M (k + 1) else M k
theorem sh_0 (p : Int) : shZ M p 0 = M := funext fun k => if_neg (by omega)
theorem sh_s {p n : Int} (h : 0 ≤ n) : updI (shZ M p n) (462 + p + n) (shZ M p n (462 + p + n + 1)) = shZ M p (n + 1) := by
  funext k
  unfold updI shZ
  by_cases q : k = 462 + p + n
  · rw [if_pos q, if_neg (by omega), if_pos (by omega), q]
  · rw [if_neg q]
    by_cases q2 : 462 + p ≤ k ∧ k < 462 + p + n
    · rw [if_pos q2, if_pos (by omega)]
    · rw [if_neg q2, if_neg (by omega)]
/-- the cells once an entrant is gone -/
def wdZ (M : Int → Int) (e : Int) : Int → Int := if plcZ M e = -1 then updI M (126 + e) 0 else updI (shZ (updI (updI M (126 + e) 0) 7 (M 7 - 1)) (plcZ M e) (M 7 - 1 - plcZ M e)) 3 (if M 7 - 1 = 0 then 3 else M 3)
theorem R_wdL (hm : gX12_m S = mI M) (h7 : M 7 ≤ 12) {p : Int} (hp : 0 ≤ p) (hp' : p ≤ M 7) (k21 : SX12 → Option (Int32 × SX12)) : DX12_withdraw_L76 k21 fu (iI p) S = k21 (uX12_m S (mI (shZ M p (M 7 - p)))) := by
  have base : S = uX12_m S (mI (shZ M p ((0 : Nat) : Int))) := by rw [show ((0 : Nat) : Int) = 0 from rfl, sh_0, um_self hm]
  have := upL (fun f j => DX12_withdraw_L76 k21 f (iI (p + j)) (uX12_m S (mI (shZ M p (j : Int))))) (k21 (uX12_m S (mI (shZ M p (M 7 - p))))) (M 7 - p).toNat ?_ ?_ fu (by unfold fu; omega)
  · rw [← base, show p + ((0 : Nat) : Int) = p by omega] at this
    exact this
  · intro f j hj
    show DX12_withdraw_L76 _ _ _ _ = _
    rw [DX12_withdraw_L76]
    simp only [lt_eq, iI_lit, um_m, um_um, iI_add]
    rw [show mI (shZ M p (j : Int)) 7 = iI (M 7) from congrArg iI (if_neg (by omega)), if_le (by omega) (by omega) (by omega) (by omega), if_neg (by omega), gd_iI (by omega) (by omega) (by omega), gd_iI (by omega) (by omega) (by omega), mI_at (by omega) (by omega), mI_upd (by omega) (by omega), show 462 + (p + (j : Int)) + 1 = 462 + p + j + 1 by omega, show 462 + (p + (j : Int)) = 462 + p + j by omega, sh_s (by omega), show p + (j : Int) + 1 = p + ((j + 1 : Nat) : Int) by omega, show (j : Int) + 1 = ((j + 1 : Nat) : Int) by omega]
  · intro f
    show DX12_withdraw_L76 _ _ _ _ = _
    rw [DX12_withdraw_L76, um_m, show mI (shZ M p ((M 7 - p).toNat : Int)) 7 = iI (M 7) from congrArg iI (if_neg (by omega)), if_le (by omega) (by omega) (by omega) (by omega), if_pos (by omega), Int.toNat_of_nonneg (by omega)]
def mwZ (M : Int → Int) (e : Int) : Prop := M (126 + e) = 1 ∧ M 3 < 2 ∧ ¬ (M 3 = 1 ∧ hpZ M e = true)
theorem G_wd (h : Gc T S M V c) {e : Int} (he : 0 ≤ e) (he' : e < M 6) (hw : mwZ M e) : nz (wdZ M e) ∧ MK (wdZ M e) ∧ ordI (wdZ M e) ∧ (∀ d : Int, hpZ (wdZ M e) d = hpZ M d) ∧ (∀ k : Int, ¬ (k = 3 ∨ k = 7 ∨ k = 126 + e ∨ (462 ≤ k ∧ k < 474)) → wdZ M e k = M k) ∧ wdZ M e (126 + e) = 0 ∧ (plcZ M e = -1 → ∀ k : Int, k ≠ 126 + e → wdZ M e k = M k) ∧ (plcZ M e ≠ -1 → wdZ M e 7 = M 7 - 1 ∧ wdZ M e 3 = (if M 7 - 1 = 0 then 3 else M 3) ∧ M 3 = 1 ∧ M 8 ≤ plcZ M e ∧ plcZ M e < M 7 ∧ ∀ k : Int, 0 ≤ k → k < 12 → wdZ M e (462 + k) = if plcZ M e ≤ k ∧ k < M 7 - 1 then M (462 + k + 1) else M (462 + k)) := by
  obtain ⟨gm, gv, gc, hz, hMK, hC, hK, hX⟩ := h
  obtain ⟨hMI, hx⟩ := hMK
  obtain ⟨hR, hT, hW, hIn, hTi, hk, hs, hO, hN, hru, hba, hty, hml⟩ := hMI
  have hT' := hT
  obtain ⟨t0, t1, t2, t3, t4, t6, t7, t8⟩ := hT
  have h5 := hW.1
  have t12 : M 7 ≤ 12 := by omega
  obtain ⟨w1, w2, w3⟩ := hw
  have pb := plcZ_b M e t12
  obtain ⟨y1, y2, y3, y4, y5, y6, y8, y9⟩ := hty
  have hty : tyI M := ⟨y1, y2, y3, y4, y5, y6, y8, y9⟩
  have h31 : plcZ M e ≠ -1 → M 3 = 1 := fun h => by
    have := pb.2.2 h
    by_cases q : M 3 = 0
    · have := y8 q; omega
    · omega
  have hnp : hpZ M e = false := by
    cases q : hpZ M e with
    | false => rfl
    | true =>
      exfalso
      have q2 := q
      unfold hpZ at q2
      rw [decide_eq_true_eq] at q2
      exact w3 ⟨h31 (by omega), q⟩
  have h8p : plcZ M e ≠ -1 → M 8 ≤ plcZ M e := fun h => by
    unfold hpZ at hnp
    rw [decide_eq_false_iff_not] at hnp
    omega
  by_cases q : plcZ M e = -1
  · have g : ∀ k : Int, ¬ (k = 126 + e) → wdZ M e k = M k := fun k p => by unfold wdZ; rw [if_pos q, u_ne p]
    have gi : wdZ M e (126 + e) = 0 := by unfold wdZ; rw [if_pos q, updI_self]
    have grg : rg (wdZ M e) := by unfold wdZ; rw [if_pos q]; exact rg_upd hR (by omega) (by omega)
    have gnz : nz (wdZ M e) := by unfold wdZ; rw [if_pos q]; exact nz_upd hz (by omega) (by omega)
    generalize wdZ M e = N at *
    refine ⟨gnz, ⟨⟨grg, (st_c (fun k _ _ => g k (by omega)) hT'), (wk_c (fun k hk => g k (by omega)) hW), ?_, (ti_c (fun k hk => g k (by omega)) hTi), (mk_c (fun k hk => g k (by omega)) hk), (sl_c (fun k hk => g k (by omega)) t12 hs), (or_c (fun k hk => g k (by omega)) t12 hO), (np_c (fun k hk => g k (by omega)) t12 hN), (ru_c (fun k hk => g k (by omega)) hru), (ba_c (fun k hk => g k (by omega)) hba), (ty_c (fun k hk => g k (by omega)) t12 hty), (ml_c (fun k hk => g k (by omega)) hml)⟩, (x_c (fun k hk => g k (by omega)) hx)⟩, or_c (fun k hk => g k (by omega)) t12 hO, fun d => hp_c (fun k hk => g k (by omega)) t12 d, fun k hk => g k (by omega), gi, fun _ k hk => g k hk, fun h => absurd q h⟩
    intro d a b
    rw [g 6 (by omega)]
    by_cases q1 : d = e
    · rw [q1, gi]; exact ⟨Or.inl rfl, fun _ => rfl⟩
    · rw [g _ (by omega)]; exact hIn d a b
  · have e31 := h31 q
    have e8p := h8p q
    have ep := pb.2.2 q
    have ep0 : 0 ≤ plcZ M e := by omega
    have eat := plc_at q
    have g : ∀ k : Int, ¬ (k = 3 ∨ k = 7 ∨ k = 126 + e ∨ (462 ≤ k ∧ k < 474)) → wdZ M e k = M k := fun k hk => by
      unfold wdZ shZ
      rw [if_neg q, u_ne (by omega), if_neg (by omega), u_ne (by omega), u_ne (by omega)]
    have gi : wdZ M e (126 + e) = 0 := by
      unfold wdZ shZ
      rw [if_neg q, u_ne (by omega), if_neg (by omega), u_ne (by omega), updI_self]
    have g7 : wdZ M e 7 = M 7 - 1 := by
      unfold wdZ shZ
      rw [if_neg q, u_ne (by omega), if_neg (by omega), updI_self]
    have g3 : wdZ M e 3 = if M 7 - 1 = 0 then 3 else M 3 := by
      unfold wdZ
      rw [if_neg q, updI_self]
    have gk : ∀ k : Int, 0 ≤ k → k < 12 → wdZ M e (462 + k) = if plcZ M e ≤ k ∧ k < M 7 - 1 then M (462 + k + 1) else M (462 + k) := fun k a b => by
      unfold wdZ shZ
      rw [if_neg q, u_ne (by omega)]
      by_cases q1 : plcZ M e ≤ k ∧ k < M 7 - 1
      · rw [if_pos (by omega), if_pos q1, u_ne (by omega), u_ne (by omega)]
      · rw [if_neg (by omega), if_neg q1, u_ne (by omega), u_ne (by omega)]
    have grg : rg (wdZ M e) := by
      have r1 : rg (updI (updI M (126 + e) 0) 7 (M 7 - 1)) := rg_upd (rg_upd hR (by omega) (by omega)) (by omega) (by omega)
      unfold wdZ
      rw [if_neg q]
      refine rg_upd (fun k => ?_) (by split <;> omega) (by split <;> omega)
      unfold shZ
      split
      · exact r1 _
      · exact r1 _
    have gnz : nz (wdZ M e) := by
      intro k hk
      rw [g k (by omega)]
      exact hz k hk
    have g8 : wdZ M e 8 = M 8 := g 8 (by omega)
    have g6 : wdZ M e 6 = M 6 := g 6 (by omega)
    generalize wdZ M e = N at *
    generalize hpe : plcZ M e = p at *
    have gor : ordI N := by
      unfold ordI
      rw [g7, g6]
      refine ⟨fun k a b => ?_, fun i k a b d => ?_⟩
      · rw [gk k a (by omega)]
        split
        · exact (show 462 + k + 1 = 462 + (k + 1) by omega) ▸ hO.1 (k + 1) (by omega) (by omega)
        · exact hO.1 k a (by omega)
      · have e1 : ∀ x : Int, 462 + x + 1 = 462 + (x + 1) := fun x => by omega
        rw [gk i a (by omega), gk k (by omega) (by omega), e1, e1]
        split
        · split
          · exact hO.2 (i + 1) (k + 1) (by omega) (by omega) (by omega)
          · exfalso; omega
        · split
          · exact hO.2 i (k + 1) a (by omega) (by omega)
          · exact hO.2 i k a b (by omega)
    have ghp : ∀ d : Int, hpZ N d = hpZ M d := fun d => by
      rw [Bool.eq_iff_iff, hp_iff gor (by omega), hp_iff hO (by omega), g8]
      constructor
      · intro ⟨k, a, b, d9⟩
        refine ⟨k, a, b, ?_⟩
        rw [gk k a (by omega), if_neg (by omega)] at d9
        exact d9
      · intro ⟨k, a, b, d9⟩
        refine ⟨k, a, b, ?_⟩
        rw [gk k a (by omega), if_neg (by omega)]
        exact d9
    refine ⟨gnz, ⟨⟨grg, ?_, (wk_c (fun k hk => g k (by omega)) hW), ?_, (ti_c (fun k hk => g k (by omega)) hTi), (mk_c (fun k hk => g k (by omega)) hk), ?_, ?_, ?_, (ru_c (fun k hk => g k (by omega)) hru), (ba_c (fun k hk => g k (by omega)) hba), ?_, (ml_c (fun k hk => g k (by omega)) hml)⟩, ?_⟩, gor, ghp, g, gi, fun h => absurd h (by omega), fun _ => ⟨g7, g3, e31, e8p, ep, gk⟩⟩
    · unfold stI
      rw [g 0 (by omega), g 1 (by omega), g 2 (by omega), g3, g 4 (by omega), g6, g7, g8]
      exact ⟨t0, t1, t2, by split <;> omega, t4, t6, by omega, by omega⟩
    · intro d a b
      rw [g6]
      by_cases q1 : d = e
      · rw [q1, gi]; exact ⟨Or.inl rfl, fun _ => rfl⟩
      · rw [g _ (by omega)]; exact hIn d a b
    · intro d a b f
      rw [ghp] at f
      rw [g _ (by omega)]
      exact hs d a b f
    · exact gor
    · intro j d a b f f9 f8
      rw [ghp] at f8
      rw [g _ (by omega)]
      exact hN j d a b f f9 f8
    · have y3' := y3 (by omega)
      unfold tyI
      rw [g 9 (by omega), g 10 (by omega), g 11 (by omega), g3, g7]
      refine ⟨fun d a b f => ?_, fun j d a b f f9 f8 => ?_, fun _ => y3', fun h => ?_, y5, y6, fun h => ?_, y9⟩
      · rw [g _ (by omega)] at f
        have := (y1 d a b f).1
        omega
      · rw [g _ (by omega)] at f8
        rw [g _ (by omega)]
        exact y2 j d a b f f9 f8
      · exfalso
        revert h
        split <;> omega
      · exfalso
        revert h
        split <;> omega
    · refine ⟨fun h => ?_, fun d r a b f f9 f8 => ?_⟩
      · rw [g3] at h
        rw [g7]
        revert h
        split <;> omega
      · rw [g6] at f8
        rw [g _ (by omega)]
        exact hx.2 d r a b f f9 f8
theorem C_unseatL {Ti : SX7} (hT : stI M) (h : cS Ti M) {p : Int} (hp : 0 ≤ p) (hp' : p < M 7) (k4 : SX7 → Option SX7) : ∃ o : Nat → Int32, DX7_unseat_L14 k4 fu (iI p) Ti = k4 (uX7_order Ti o) ∧ ∀ k : Int, 0 ≤ k → k < M 7 - 1 → o k.toNat = iI (if p ≤ k then M (462 + k + 1) else M (462 + k)) := by
  have t6 := hT.2.2.2.2.2.1
  have t7 := hT.2.2.2.2.2.2.1
  have := upE (fun f j (o : Nat → Int32) => DX7_unseat_L14 k4 f (iI (p + j)) (uX7_order Ti o)) (fun o => k4 (uX7_order Ti o)) (fun j o => ∀ k : Int, 0 ≤ k → k < M 7 → o k.toNat = iI (if p ≤ k ∧ k < p + j then M (462 + k + 1) else if k = p + j then M (462 + p) else M (462 + k))) (M 7 - 1 - p).toNat ?_ ?_ fu (gX7_order Ti) (by unfold fu; omega) ?_
  · obtain ⟨o, h1, h2⟩ := this
    refine ⟨o, ?_, fun k a b => ?_⟩
    · rw [show p + ((0 : Nat) : Int) = p by omega] at h1
      exact h1
    · rw [h2 k a (by omega)]
      by_cases q : p ≤ k
      · rw [if_pos (by omega), if_pos q]
      · rw [if_neg (by omega), if_neg q, if_neg (by omega)]
  · intro f j o hj ho
    refine ⟨upd (upd o (p + j).toNat (o (p + j + 1).toNat)) (p + j + 1).toNat (o (p + j).toNat), ?_, fun k a b => ?_⟩
    · show DX7_unseat_L14 _ _ _ _ = _
      rw [DX7_unseat_L14]
      simp only [iI_lit, iI_add]
      rw [show gX7_players (uX7_order Ti o) = iI (M 7) from h.1, if_le (by omega) (by omega) (by omega) (by omega), if_neg (by omega), C_exchange (by omega) (by omega) (by omega) (by omega), show p + (j : Int) + 1 = p + ((j + 1 : Nat) : Int) by omega]
      rfl
    · unfold upd
      by_cases q1 : k = p + j + 1
      · rw [if_pos (by omega), ho (p + j) (by omega) (by omega), if_neg (by omega), if_pos rfl, if_neg (by omega), if_pos (by omega)]
      · rw [if_neg (by omega)]
        by_cases q2 : k = p + j
        · rw [if_pos (by omega), ho (p + j + 1) (by omega) (by omega), if_neg (by omega), if_neg (by omega), if_pos (by omega), q2]
          congr 2
          omega
        · rw [if_neg (by omega), ho k a b]
          by_cases q3 : p ≤ k ∧ k < p + j
          · rw [if_pos q3, if_pos (by omega)]
          · rw [if_neg q3, if_neg q2, if_neg (by omega), if_neg (by omega)]
  · intro f o ho
    show DX7_unseat_L14 _ _ _ _ = _
    rw [DX7_unseat_L14]
    simp only [iI_lit, iI_add]
    rw [show gX7_players (uX7_order Ti o) = iI (M 7) from h.1, if_le (by omega) (by omega) (by omega) (by omega), if_pos (by omega)]
  · intro k a b
    rw [h.2.2.2.1 k a b]
    by_cases q : k = p
    · rw [if_neg (by omega), if_pos (by omega), q]
    · rw [if_neg (by omega), if_neg (by omega)]
theorem K_withdraw (h : GG T S) {e : Int} (he : -2147483648 ≤ e) (he' : e < 2147483648) : Ans [1, 3] T (DX11_withdraw T (iI e)) (DX12_withdraw S (iI e)) := by
  obtain ⟨M, V, c, h⟩ := h
  have h' := h
  obtain ⟨gm, gv, gc, hz, hMK, hC, hK, hX⟩ := h
  have hMK' := hMK
  have hC' := hC
  obtain ⟨hMI, hx⟩ := hMK
  have hMI' := hMI
  obtain ⟨hR, hT, hW, hIn, hTi, hk, hs, hO, hN, hru, hba, hty, hml⟩ := hMI
  obtain ⟨c3, c4, c1, c2, cw, ce, cr, cp, cj, cs, ch, ct, cc⟩ := hC
  have hT' := hT
  obtain ⟨t0, t1, t2, t3, t4, t6, t7, t8⟩ := hT
  have h5 := hW.1
  have t12 : M 7 ≤ 12 := by omega
  obtain ⟨K', k1, k2⟩ := C_keep hK hC' hMK' hz
  have hmw : ∀ e : Int, 0 ≤ e → e < M 6 → DX12_mayWithdraw S (iI e) = some (bI (decide (M (126 + e) = 1) && decide (M 3 < 2) && !(decide (M 3 = 1) && hpZ M e))) := fun e a b => by
    have r1 := hR (126 + e)
    unfold DX12_mayWithdraw
    simp only [iI_lit, jn_eq, gm, iI_add, show mI M 3 = iI (M 3) from rfl]
    rw [R_hasPlayed gm hR (by omega) (by omega) (by omega) (by omega) (by omega) (by omega), gd_iI (by omega) (by omega) (by omega), mI_at (by omega) (by omega), if_eq (by omega) (by omega) (by omega) (by omega), if_le (by omega) (by omega) (by omega) (by omega), if_eq (by omega) (by omega) (by omega) (by omega)]
    simp only [Option.bind_some, if_bz, gd_0, gd_1]
    by_cases q1 : M (126 + e) = 1
    · rw [if_pos q1, decide_eq_true q1]
      by_cases q2 : 2 ≤ M 3
      · rw [if_pos q2, decide_eq_false (show ¬ M 3 < 2 by omega)]; rfl
      · rw [if_neg q2, decide_eq_true (show M 3 < 2 by omega)]
        by_cases q3 : M 3 = 1
        · rw [if_pos q3, decide_eq_true q3]
          cases hpZ M e <;> rfl
        · rw [if_neg q3, decide_eq_false q3]; rfl
    · rw [if_neg q1, decide_eq_false q1]; rfl
  by_cases q : 0 ≤ e ∧ e < M 6
  · have hIe := hIn e q.1 (by omega)
    have ci := C_isIn ce hIn (by omega) (by omega) (e := e) q.1 (by omega)
    have chp := C_hasPlayed cs hs hR (e := e) q.1 (by omega)
    by_cases qw : mwZ M e
    · obtain ⟨n1, n2, n3, n4, n5, n6, n7, n8⟩ := G_wd h' q.1 q.2 qw
      have er : DX12_withdraw S (iI e) = some (iI (countInZ (wdZ M e)), uX12_m (kS S M V c (iI 0)) (mI (wdZ M e))) := by
        have hcn := R_countIn (S := uX12_m (kS S M V c (iI 0)) (mI (wdZ M e))) um_m n2.1.2.1
        obtain ⟨w1, w2, w3⟩ := qw
        have hb9 : (decide (M (126 + e) = 1) && decide (M 3 < 2) && !(decide (M 3 = 1) && hpZ M e)) = true := by
          rw [decide_eq_true w1, decide_eq_true w2]
          cases hh : hpZ M e with
          | false => rw [Bool.and_false]; rfl
          | true => rw [decide_eq_false (fun h => w3 ⟨h, hh⟩)]; rfl
        unfold DX12_withdraw
        simp only [iI_lit, jn_eq, lt_eq, uc_code]
        rw [R_isEntrant gm hT' he he', hmw e q.1 q.2]
        simp only [Option.bind_some, if_bz, decide_eq_true_eq, R_kS h', kS_m, gm, um_m, um_um, iI_add, if_neg (show ¬ iI 1 = iI 0 by decide), if_neg (show ¬ iI 2 = iI 0 by decide), if_neg (show ¬ iI 3 = iI 0 by decide), if_pos (show iI 0 = iI 0 from rfl), if_true]
        rw [if_pos q, if_pos hb9, gd_iI (by omega) (by omega) (by omega), mI_upd (by omega) (by omega), R_placeOf um_m (rg_upd hR (by omega) (by omega)) (by rw [u_ne (by omega)]; omega) (by rw [u_ne (by omega)]; omega) (by omega) (by omega), plc_c (M := M) (N := updI M (126 + e) 0) (fun k hk => u_ne (by omega)) t12]
        simp only [Option.bind_some, iI_neg]
        have pb := plcZ_b M e t12
        rw [if_eq (by omega) (by omega) (by omega) (by omega)]
        by_cases q1 : plcZ M e = -1
        · rw [if_pos q1]
          unfold wdZ at hcn ⊢
          rw [if_pos q1] at hcn ⊢
          rw [hcn]
          rfl
        · have ep := pb.2.2 q1
          rw [if_neg q1, show mI (updI M (126 + e) 0) 7 = iI (M 7) from congrArg iI (show updI M (126 + e) 0 7 = M 7 from u_ne (by omega)), iI_sub, mI_updN 7 _ rfl, R_wdL um_m (by rw [updI_self]; omega) (by omega) (by rw [updI_self]; omega)]
          rw [updI_self]
          simp only [um_m, um_um]
          have s7 : mI (shZ (updI (updI M (126 + e) 0) 7 (M 7 - 1)) (plcZ M e) (M 7 - 1 - plcZ M e)) 7 = iI (M 7 - 1) := congrArg iI (by
            show shZ (updI (updI M (126 + e) 0) 7 (M 7 - 1)) (plcZ M e) (M 7 - 1 - plcZ M e) 7 = M 7 - 1
            unfold shZ
            rw [if_neg (by omega), updI_self])
          have s3 : mI (shZ (updI (updI M (126 + e) 0) 7 (M 7 - 1)) (plcZ M e) (M 7 - 1 - plcZ M e)) 3 = iI (M 3) := congrArg iI (by
            show shZ (updI (updI M (126 + e) 0) 7 (M 7 - 1)) (plcZ M e) (M 7 - 1 - plcZ M e) 3 = M 3
            unfold shZ
            rw [if_neg (by omega), u_ne (by omega), u_ne (by omega)])
          rw [s7, s3, if_eq (by omega) (by omega) (by omega) (by omega)]
          unfold wdZ at hcn ⊢
          rw [if_neg q1] at hcn ⊢
          by_cases q2 : M 7 - 1 = 0
          · rw [if_pos q2] at hcn ⊢
            rw [if_pos q2, mI_updN 3 _ rfl, hcn]
            rfl
          · rw [if_neg q2] at hcn ⊢
            rw [if_neg q2, mI_updN 3 _ rfl, hcn]
            rfl
      obtain ⟨w1, w2, w3⟩ := qw
      have e2 : cE (uX2_in (gX0_entrants (gX11_now T)) (upd (gX2_in (gX0_entrants (gX11_now T))) e.toNat (iI 0))) (wdZ M e) := by
        refine ⟨by rw [n5 6 (by omega)]; exact ce.1, fun d a b => ?_⟩
        show upd (gX2_in (gX0_entrants (gX11_now T))) e.toNat (iI 0) d.toNat = _
        unfold upd
        by_cases q1 : d = e
        · rw [if_pos (by omega), q1, n6]
        · rw [if_neg (by omega), n5 _ (by omega)]; exact ce.2 d a b
      have hcn := C_countIn e2 n2.1.2.2.2.1 n2.1.2.1
      have pb := plcZ_b M e t12
      have lg : ∃ C', DX0_letGo (gX11_now T) (iI e) = some C' ∧ Cp C' (wdZ M e) ∧ gX0_entrants C' = uX2_in (gX0_entrants (gX11_now T)) (upd (gX2_in (gX0_entrants (gX11_now T))) e.toNat (iI 0)) := by
        unfold DX0_letGo
        rw [C_putOut ce (by omega) q.1 q.2]
        simp only [Option.bind_some, lt_eq, jn_eq, iI_lit]
        rw [show ∀ E, gX0_stage (uX0_entrants (gX11_now T) E) = gX0_stage (gX11_now T) from fun _ => rfl]
        unfold DX7_unseat
        rw [C_placeOf cs hR hT' (by omega) (by omega)]
        simp only [Option.bind_some, iI_lit, iI_neg, lt_eq]
        rw [if_eq (by omega) (by omega) (by omega) (by omega)]
        by_cases q1 : plcZ M e = -1
        · have g := n7 q1
          rw [if_pos q1]
          simp only [Option.bind_some]
          rw [show ∀ E Tt, gX0_state (uX0_stage (uX0_entrants (gX11_now T) E) Tt) = gX0_state (gX11_now T) from fun _ _ => rfl, c3, show ∀ C Tt, gX0_stage (uX0_stage C Tt) = Tt from fun _ _ => rfl, cs.1, if_eq (by omega) (by omega) (by omega) (by omega), if_eq (by omega) (by omega) (by omega) (by omega)]
          refine ⟨uX0_stage (uX0_entrants (gX11_now T) (uX2_in (gX0_entrants (gX11_now T)) (upd (gX2_in (gX0_entrants (gX11_now T))) e.toNat (iI 0)))) (gX0_stage (gX11_now T)), ?_, ⟨(by rw [g 3 (by omega)]; exact c3), (by rw [g 4 (by omega)]; exact c4), (by rw [g 1 (by omega)]; exact c1), (by rw [g 2 (by omega)]; exact c2), (cW_c (fun k hk => g k (by omega)) h5.2 cw), ?_, (cR_c (fun k hk => g k (by omega)) cr), (cP_c (fun k hk => g k (by omega)) hW cp), (cJ_c (fun k hk => g k (by omega)) cj), (cS_c (fun k hk => g k (by omega)) t12 cs), (cH_c (fun k hk => g k (by omega)) ch), (cT_c (fun k hk => g k (by omega)) ct), (cC_c (fun k hk => g k (by omega)) cc)⟩, rfl⟩
          · by_cases q2 : M 3 = 1
            · have := hx.1 q2
              rw [if_pos q2, if_neg (by omega)]
            · rw [if_neg q2]
          · exact e2
        · obtain ⟨g7, g3, g31, g8p, gp7, gk⟩ := n8 q1
          have g := n5
          rw [if_neg q1]
          obtain ⟨o, o1, o2⟩ := C_unseatL hT' cs (p := plcZ M e) (by omega) gp7 (fun S6 => some (uX7_players S6 (gX7_players S6 - iI 1)))
          rw [o1]
          simp only [Option.bind_some]
          rw [show gX7_players (uX7_order (gX0_stage (gX11_now T)) o) = iI (M 7) from cs.1, iI_sub, show ∀ E Tt, gX0_state (uX0_stage (uX0_entrants (gX11_now T) E) Tt) = gX0_state (gX11_now T) from fun _ _ => rfl, c3, show ∀ C Tt, gX0_stage (uX0_stage C Tt) = Tt from fun _ _ => rfl, show ∀ Tt v, gX7_players (uX7_players Tt v) = v from fun _ _ => rfl, if_eq (by omega) (by omega) (by omega) (by omega), if_eq (by omega) (by omega) (by omega) (by omega), if_pos g31]
          have e3 : cS (uX7_players (uX7_order (gX0_stage (gX11_now T)) o) (iI (M 7 - 1))) (wdZ M e) := by
            refine ⟨by rw [g7]; rfl, by rw [g 8 (by omega)]; exact cs.2.1, by rw [g 11 (by omega)]; exact cs.2.2.1, fun k a b => ?_, fun d a b => ?_⟩
            · rw [g7] at b
              show o k.toNat = _
              rw [o2 k a b, gk k a (by omega)]
              by_cases q2 : plcZ M e ≤ k
              · rw [if_pos q2, if_pos (by omega)]
              · rw [if_neg q2, if_neg (by omega)]
            · rw [n4 d, g _ (by omega)]
              exact cs.2.2.2.2 d a b
          refine ⟨uX0_state (uX0_stage (uX0_entrants (gX11_now T) (uX2_in (gX0_entrants (gX11_now T)) (upd (gX2_in (gX0_entrants (gX11_now T))) e.toNat (iI 0)))) (uX7_players (uX7_order (gX0_stage (gX11_now T)) o) (iI (M 7 - 1)))) (iI (wdZ M e 3)), ?_, ⟨?_, (by rw [g 4 (by omega)]; exact c4), (by rw [g 1 (by omega)]; exact c1), (by rw [g 2 (by omega)]; exact c2), (cW_c (fun k hk => g k (by omega)) h5.2 cw), ?_, (cR_c (fun k hk => g k (by omega)) cr), (cP_c (fun k hk => g k (by omega)) hW cp), (cJ_c (fun k hk => g k (by omega)) cj), ?_, (cH_c (fun k hk => g k (by omega)) ch), (cT_c (fun k hk => g k (by omega)) ct), (cC_c (fun k hk => g k (by omega)) cc)⟩, rfl⟩
          · rw [g3]
            by_cases q2 : M 7 - 1 = 0
            · rw [if_pos q2, if_pos q2]
            · rw [if_neg q2, if_neg q2, ← c3]
              rfl
          · rfl
          · exact e2
          · exact e3
      obtain ⟨C', l1, l2, l3⟩ := lg
      refine ans_v h' (iI (countInZ (wdZ M e))) k2 n1 n2 l2 ?_ er
      unfold DX11_withdraw
      rw [C_reqEntrant hC' hMI' he he', tx_p, if_pos q, ci, chp, c3]
      simp only [Option.bind_some, iI_lit, jn_eq, lt_eq, if_bz]
      rw [w1, reqS1, tx_r, if_eq (by omega) (by omega) (by omega) (by omega), if_eq (by omega) (by omega) (by omega) (by omega)]
      have fin : (tx (DX11_requireState (iI 1)) fun _ => (DX5_keep (gX11_records T) (gX11_now T)).bind fun x11 => (DX0_letGo (gX11_now (uX11_records T x11)) (iI e)).bind fun x15 => (DX2_countIn (gX0_entrants (gX11_now (uX11_now (uX11_records T x11) x15)))).bind fun x19 => some (Sum.inr (x19, uX11_now (uX11_records T x11) x15))) = some (Sum.inr (iI (countInZ (wdZ M e)), uX11_now (uX11_records T K') C')) := by
        rw [reqS1, tx_r, k1]
        simp only [Option.bind_some, ur_now, un_now]
        rw [l1]
        simp only [Option.bind_some]
        rw [l3, hcn]
        rfl
      by_cases q1 : M 3 = 0
      · rw [if_pos q1]
        exact fin
      · have q2 : M 3 = 1 := by omega
        rw [if_neg q1, if_pos q2, if_neg (fun h => w3 ⟨q2, h⟩)]
        exact fin
    · refine ans_x (v := iI 0) h' 1 3 rfl ?_ ?_
      · unfold DX11_withdraw
        rw [C_reqEntrant hC' hMI' he he', tx_p, if_pos q, ci, chp, c3]
        simp only [Option.bind_some, iI_lit, jn_eq, lt_eq, if_bz, reqS0, tx_l]
        rcases hIe.1 with h9 | h9
        · rw [h9, reqS0, tx_l]
        · rw [h9, reqS1, tx_r, if_eq (by omega) (by omega) (by omega) (by omega), if_eq (by omega) (by omega) (by omega) (by omega)]
          unfold mwZ at qw
          by_cases q1 : M 3 = 0
          · exact absurd ⟨h9, by omega, fun h => by omega⟩ qw
          · rw [if_neg q1]
            by_cases q2 : M 3 = 1
            · rw [if_pos q2]
              cases hh : hpZ M e with
              | false => exact absurd ⟨h9, by omega, fun h => by rw [hh] at h; cases h.2⟩ qw
              | true => rw [if_pos rfl]
            · rw [if_neg q2]
      · unfold DX12_withdraw
        simp only [iI_lit, jn_eq, lt_eq, uc_code]
        rw [R_isEntrant gm hT' he he', hmw e q.1 q.2]
        simp only [Option.bind_some, if_bz, decide_eq_true_eq, if_neg (show ¬ iI 1 = iI 0 by decide), if_neg (show ¬ iI 2 = iI 0 by decide), if_neg (show ¬ iI 3 = iI 0 by decide), if_pos (show iI 0 = iI 0 from rfl), if_true]
        rw [if_pos q, if_neg ?_]
        · rfl
        · intro h9
          apply qw
          simp only [Bool.and_eq_true, decide_eq_true_eq, Bool.not_eq_true'] at h9
          exact ⟨h9.1.1, h9.1.2, fun h => by have := h9.2; rw [h.2, decide_eq_true h.1] at this; cases this⟩
  · refine ans_x (v := iI 0) h' 0 1 rfl ?_ ?_
    · unfold DX11_withdraw
      rw [C_reqEntrant hC' hMI' he he', tx_p, if_neg q]
    · unfold DX12_withdraw
      simp only [iI_lit, jn_eq, lt_eq, uc_code]
      rw [R_isEntrant gm hT' he he']
      simp only [Option.bind_some, if_bz, decide_eq_true_eq, if_neg (show ¬ iI 1 = iI 0 by decide), if_neg (show ¬ iI 2 = iI 0 by decide), if_neg (show ¬ iI 3 = iI 0 by decide), if_pos (show iI 0 = iI 0 from rfl), if_true]
      rw [if_neg q]
      rfl
end WG
