section WC
variable {M V : Int → Int} {T : SX11} {S : SX12} {C : SX0} {c : Int}
def loS (w : Int) : Int := if w = 0 then 3 else if w = 1 then 1 else 0
def hiS (w : Int) : Int := if w = 0 then 7 else if w = 1 then 4 else 100
theorem tab01 {w : Int} (h : 0 ≤ w) (h' : w ≤ 2) : tab0 (iI w).toNatClampNeg = iI (loS w) ∧ tab1 (iI w).toNatClampNeg = iI (hiS w) := by
  have hc : w = 0 ∨ w = 1 ∨ w = 2 := by omega
  rcases hc with rfl | rfl | rfl <;> exact ⟨rfl, rfl⟩
theorem loS_b (w : Int) : 0 ≤ loS w ∧ hiS w ≤ 100 ∧ loS w ≤ 3 ∧ 4 ≤ hiS w := by
  unfold loS hiS
  repeat' split
  all_goals omega
def chC (C : SX0) (w v : Int) : SX0 := if w = 0 then uX0_jury C (uX3_size (gX0_jury C) (iI v)) else if w = 1 then uX0_rounds C (iI v) else uX0_penalty C (iI v)
theorem C_change {w v : Int} (h : 0 ≤ w) (h' : w ≤ 2) : DX0_change C (iI w) (iI v) = some (chC C w v) := by
  unfold DX0_change chC
  simp only [iI_lit, jn_eq, lt_eq]
  rw [if_eq (by omega) (by omega) (by omega) (by omega), if_eq (by omega) (by omega) (by omega) (by omega)]
  by_cases q : w = 0
  · rw [if_pos q, if_pos q]
  · rw [if_neg q, if_neg q]
    by_cases q1 : w = 1
    · rw [if_pos q1, if_pos q1]
    · rw [if_neg q1, if_neg q1]
theorem R_isSetting {w v : Int} (hw : -2147483648 ≤ w) (hw' : w < 2147483648) (hv : -2147483648 ≤ v) (hv' : v < 2147483648) : DX12_isSetting (iI w) (iI v) = some (bI (decide ((0 ≤ w ∧ w ≤ 2) ∧ loS w ≤ v ∧ v ≤ hiS w))) := by
  unfold DX12_isSetting
  simp only [iI_lit, jn_eq]
  rw [R_in hv hv' (by omega) (by omega) (by omega) (by omega), R_in hv hv' (by omega) (by omega) (by omega) (by omega), R_in hv hv' (by omega) (by omega) (by omega) (by omega)]
  simp only [Option.bind_some, if_bz, gd_bI, gd_0, gd_1, decide_eq_true_eq]
  rw [if_eq (by omega) (by omega) (by omega) (by omega), if_eq (by omega) (by omega) (by omega) (by omega), if_eq (by omega) (by omega) (by omega) (by omega)]
  by_cases q0 : w = 0
  · subst q0
    rw [if_pos rfl]
    exact congrArg (fun b => some (bI b)) (decide_eq_decide.mpr ⟨fun h => ⟨⟨by omega, by omega⟩, h⟩, fun h => h.2⟩)
  · rw [if_neg q0]
    by_cases q1 : w = 1
    · subst q1
      rw [if_pos rfl]
      exact congrArg (fun b => some (bI b)) (decide_eq_decide.mpr ⟨fun h => ⟨⟨by omega, by omega⟩, h⟩, fun h => h.2⟩)
    · rw [if_neg q1]
      by_cases q2 : w = 2
      · subst q2
        rw [if_pos rfl]
        by_cases q3 : 0 ≤ v ∧ v ≤ 100
        · rw [if_pos q3, decide_eq_true (show ((0 : Int) ≤ 2 ∧ (2 : Int) ≤ 2) ∧ loS 2 ≤ v ∧ v ≤ hiS 2 from ⟨⟨by omega, by omega⟩, q3⟩)]; rfl
        · rw [if_neg q3, decide_eq_false (fun h => q3 h.2)]; rfl
      · rw [if_neg q2, decide_eq_false (by omega)]; rfl
theorem K_set (h : GG T S) {w v : Int} (hw : -2147483648 ≤ w) (hw' : w < 2147483648) (hv : -2147483648 ≤ v) (hv' : v < 2147483648) : Ans [2, 3] T (DX11_set T (iI w) (iI v)) (DX12_set S (iI w) (iI v)) := by
  obtain ⟨M, V, c, h⟩ := h
  have h' := h
  obtain ⟨gm, gv, gc, hz, hMK, hC, hK, hX⟩ := h
  have hMK' := hMK
  have hC' := hC
  obtain ⟨hMI, hx⟩ := hMK
  have hMI' := hMI
  obtain ⟨hR, hT, hW, hIn, hTi, hk, hs, hO, hN, hru, hba, hty, hml⟩ := hMI
  obtain ⟨c3, c4, c1, c2, cw, ce, cr, cp, cj, cs, ch, ct, cc⟩ := hC
  have hT' := hT
  obtain ⟨t0, t1, t2, t3, t4, t6, t7, t8⟩ := hT
  have h5 := hW.1
  have t12 : M 7 ≤ 12 := by omega
  obtain ⟨K', k1, k2⟩ := C_keep hK hC' hMK' hz
  have lb := loS_b w
  have ec : DX11_set T (iI w) (iI v) = if 0 ≤ w ∧ w ≤ 2 then if loS w ≤ v ∧ v ≤ hiS w then if w = 2 ∨ M 3 = 0 then some (Sum.inr (iI (M w), uX11_now (uX11_records T K') (chC (gX11_now T) w v))) else some (Sum.inl 3) else some (Sum.inl 2) else some (Sum.inl 2) := by
    unfold DX11_set
    simp only [iI_lit, jn_eq, lt_eq]
    rw [C_between hw hw' (by omega) (by omega) (by omega) (by omega), c3]
    simp only [Option.bind_some, C_reqA, tx_d, reqS0, reqS1, tx_l, tx_r, k1, ur_now]
    by_cases q : 0 ≤ w ∧ w ≤ 2
    · obtain ⟨e0, e1⟩ := tab01 q.1 q.2
      rw [if_pos q, if_pos q, gd_iI (by omega) (by omega) (by omega), gd_iI (by omega) (by omega) (by omega), e0, e1, C_between hv hv' (by omega) (by omega) (by omega) (by omega), C_tell hC' hMI' (by omega) (by omega), C_change q.1 q.2]
      simp only [Option.bind_some, C_reqA, tx_d]
      rw [if_eq (by omega) (by omega) (by omega) (by omega), if_eq (by omega) (by omega) (by omega) (by omega)]
      have ei : infoZ M w = M w := by unfold infoZ; rw [if_neg (by omega), if_neg (by omega), if_neg (by omega), if_neg (by omega), if_neg (by omega), if_neg (by omega)]
      rw [ei]
      by_cases q1 : w = 2
      · rw [if_pos q1, if_pos (Or.inl q1)]
      · rw [if_neg q1]
        by_cases q2 : M 3 = 0
        · rw [if_pos q2, if_pos (show w = 2 ∨ M 3 = 0 from Or.inr q2)]
        · rw [if_neg q2, if_neg (show ¬ (w = 2 ∨ M 3 = 0) by omega)]
    · rw [if_neg q, if_neg q]
  have er : DX12_set S (iI w) (iI v) = if 0 ≤ w ∧ w ≤ 2 then if loS w ≤ v ∧ v ≤ hiS w then if w = 2 ∨ M 3 = 0 then some (iI (M w), uX12_m (kS S M V c (iI 0)) (mI (updI M w v))) else some (iI 0, uX12_code S (iI 2)) else some (iI 0, uX12_code S (iI 1)) else some (iI 0, uX12_code S (iI 1)) := by
    unfold DX12_set
    simp only [iI_lit, jn_eq, lt_eq, uc_code, gm]
    rw [R_isSetting hw hw' hv hv']
    simp only [show mI M 3 = iI (M 3) from rfl, Option.bind_some, if_bz, decide_eq_true_eq, if_neg (show ¬ iI 1 = iI 0 by decide), if_neg (show ¬ iI 2 = iI 0 by decide), if_neg (show ¬ iI 3 = iI 0 by decide), if_pos (show iI 0 = iI 0 from rfl), if_true]
    rw [if_le (by omega) (by omega) (by omega) (by omega), if_eq (by omega) (by omega) (by omega) (by omega)]
    by_cases q : 0 ≤ w ∧ w ≤ 2
    · rw [if_pos q]
      by_cases q1 : loS w ≤ v ∧ v ≤ hiS w
      · rw [if_pos ⟨q, q1⟩, if_pos q1, R_put h' _ (by omega) (by omega)]
        simp only [Option.bind_some]
        by_cases q2 : w = 2
        · rw [if_pos (by omega), if_pos (Or.inl q2)]
        · rw [if_neg (by omega)]
          by_cases q3 : M 3 = 0
          · rw [if_pos q3, if_pos (Or.inr q3)]
          · rw [if_neg q3, if_neg (show ¬ (w = 2 ∨ M 3 = 0) by omega)]
      · rw [if_neg (fun h => q1 h.2), if_neg q1]
    · rw [if_neg (fun h => q h.1), if_neg q]
  rw [ec, er]
  by_cases q : 0 ≤ w ∧ w ≤ 2
  · by_cases q1 : loS w ≤ v ∧ v ≤ hiS w
    · by_cases q2 : w = 2 ∨ M 3 = 0
      · have g : ∀ k : Int, ¬ (k = w) → updI M w v k = M k := fun k p => u_ne p
        have gi : updI M w v w = v := updI_self _ _ _
        have grg : rg (updI M w v) := rg_upd hR (by omega) (by omega)
        have gnz : nz (updI M w v) := nz_upd hz (by omega) (by omega)
        generalize updI M w v = N at *
        refine ans_v h' (iI (M w)) k2 (N := N) (C' := chC (gX11_now T) w v) gnz ⟨⟨grg, ?_, (wk_c (fun k hk => g k (by omega)) hW), (in_c (fun k hk => g k (by omega)) hIn), (ti_c (fun k hk => g k (by omega)) hTi), (mk_c (fun k hk => g k (by omega)) hk), (sl_c (fun k hk => g k (by omega)) t12 hs), (or_c (fun k hk => g k (by omega)) t12 hO), (np_c (fun k hk => g k (by omega)) t12 hN), (ru_c (fun k hk => g k (by omega)) hru), (ba_c (fun k hk => g k (by omega)) hba), (ty_c (fun k hk => g k (by omega)) t12 hty), (ml_c (fun k hk => g k (by omega)) hml)⟩, (x_c (fun k hk => g k (by omega)) hx)⟩ ⟨?_, ?_, ?_, ?_, ?_, ?_, ?_, ?_, ?_, ?_, ?_, ?_, ?_⟩ (by rw [if_pos q, if_pos q1, if_pos q2]) (by rw [if_pos q, if_pos q1, if_pos q2])
        · unfold loS hiS at q1
          have hc : w = 0 ∨ w = 1 ∨ w = 2 := by omega
          unfold stI
          rw [g 3 (by omega), g 4 (by omega), g 6 (by omega), g 7 (by omega), g 8 (by omega)]
          rcases hc with rfl | rfl | rfl
          · rw [gi, g 1 (by omega), g 2 (by omega)]
            have q1 : 3 ≤ v ∧ v ≤ 7 := q1
            exact ⟨q1, t1, t2, t3, t4, t6, t7, t8⟩
          · rw [gi, g 0 (by omega), g 2 (by omega)]
            have q1 : 1 ≤ v ∧ v ≤ 4 := q1
            exact ⟨t0, q1, t2, t3, t4, t6, t7, t8⟩
          · rw [gi, g 0 (by omega), g 1 (by omega)]
            have q1 : 0 ≤ v ∧ v ≤ 100 := q1
            exact ⟨t0, t1, q1, t3, t4, t6, t7, t8⟩
        all_goals unfold chC
        · rw [g 3 (by omega)]
          repeat' split
          all_goals exact c3
        · rw [g 4 (by omega)]
          repeat' split
          all_goals exact c4
        · by_cases q3 : w = 0
          · rw [if_pos q3, g 1 (by omega)]; exact c1
          · rw [if_neg q3]
            by_cases q4 : w = 1
            · rw [if_pos q4, ← q4, gi]; rfl
            · rw [if_neg q4, g 1 (by omega)]; exact c1
        · by_cases q3 : w = 0
          · rw [if_pos q3, g 2 (by omega)]; exact c2
          · rw [if_neg q3]
            by_cases q4 : w = 1
            · rw [if_pos q4, g 2 (by omega)]; exact c2
            · rw [if_neg q4, show (2 : Int) = w by omega, gi]; rfl
        · have := cW_c (N := N) (fun k hk => g k (by omega)) h5.2 cw
          repeat' split
          all_goals exact this
        · have := cE_c (N := N) (fun k hk => g k (by omega)) ce
          repeat' split
          all_goals exact this
        · have := cR_c (N := N) (fun k hk => g k (by omega)) cr
          repeat' split
          all_goals exact this
        · have := cP_c (N := N) (fun k hk => g k (by omega)) hW cp
          repeat' split
          all_goals exact this
        · by_cases q3 : w = 0
          · rw [if_pos q3]
            refine ⟨by rw [← q3, gi]; rfl, fun j e a b d f => ?_⟩
            rw [g _ (by omega)]
            exact cj.2 j e a b d f
          · have := cJ_c (N := N) (fun k hk => g k (by omega)) cj
            rw [if_neg q3]
            split
            all_goals exact this
        · have := cS_c (N := N) (fun k hk => g k (by omega)) t12 cs
          repeat' split
          all_goals exact this
        · have := cH_c (N := N) (fun k hk => g k (by omega)) ch
          repeat' split
          all_goals exact this
        · have := cT_c (N := N) (fun k hk => g k (by omega)) ct
          repeat' split
          all_goals exact this
        · have := cC_c (N := N) (fun k hk => g k (by omega)) cc
          repeat' split
          all_goals exact this
      · exact ans_x h' 1 3 rfl (by rw [if_pos q, if_pos q1, if_neg q2]) (by rw [if_pos q, if_pos q1, if_neg q2]; rfl)
    · exact ans_x h' 0 2 rfl (by rw [if_pos q, if_neg q1]) (by rw [if_pos q, if_neg q1]; rfl)
  · exact ans_x h' 0 2 rfl (by rw [if_neg q]) (by rw [if_neg q]; rfl)
def loR (i : Int) : Int := if i = 2 ∨ i = 4 then 0 else 1
def hiR (i : Int) : Int := if i = 0 ∨ i = 1 then 180 else if i = 2 then 31 else if i = 3 then 4 else if i = 4 then 1 else 12
theorem tab23 {w : Int} (h : 0 ≤ w) (h' : w ≤ 5) : tab2 (iI w).toNatClampNeg = iI (loR w) ∧ tab3 (iI w).toNatClampNeg = iI (hiR w) := by
  have hc : w = 0 ∨ w = 1 ∨ w = 2 ∨ w = 3 ∨ w = 4 ∨ w = 5 := by omega
  rcases hc with rfl | rfl | rfl | rfl | rfl | rfl <;> exact ⟨rfl, rfl⟩
theorem loR_b (w : Int) : 0 ≤ loR w ∧ loR w ≤ 1 ∧ 1 ≤ hiR w ∧ hiR w ≤ 180 := by
  unfold loR hiR
  repeat' split
  all_goals omega
theorem R_isRule {w v : Int} (hw : -2147483648 ≤ w) (hw' : w < 2147483648) (hv : -2147483648 ≤ v) (hv' : v < 2147483648) : DX12_isRule (iI w) (iI v) = some (bI (decide ((0 ≤ w ∧ w ≤ 5) ∧ loR w ≤ v ∧ v ≤ hiR w))) := by
  unfold DX12_isRule
  simp only [iI_lit]
  rw [R_in hv hv' (by omega) (by omega) (by omega) (by omega), R_in hv hv' (by omega) (by omega) (by omega) (by omega), R_in hv hv' (by omega) (by omega) (by omega) (by omega), R_in hv hv' (by omega) (by omega) (by omega) (by omega), R_in hv hv' (by omega) (by omega) (by omega) (by omega)]
  simp only [Option.bind_some, gd_bI]
  rw [if_eq (by omega) (by omega) (by omega) (by omega), if_eq (by omega) (by omega) (by omega) (by omega), if_eq (by omega) (by omega) (by omega) (by omega), if_eq (by omega) (by omega) (by omega) (by omega), if_eq (by omega) (by omega) (by omega) (by omega), if_eq (by omega) (by omega) (by omega) (by omega)]
  by_cases q : 0 ≤ w ∧ w ≤ 5
  · have hc : w = 0 ∨ w = 1 ∨ w = 2 ∨ w = 3 ∨ w = 4 ∨ w = 5 := by omega
    have e : decide ((0 ≤ w ∧ w ≤ 5) ∧ loR w ≤ v ∧ v ≤ hiR w) = decide (loR w ≤ v ∧ v ≤ hiR w) := decide_eq_decide.mpr ⟨fun h => h.2, fun h => ⟨q, h⟩⟩
    rw [e]
    rcases hc with rfl | rfl | rfl | rfl | rfl | rfl <;> rfl
  · rw [if_neg (by omega), if_neg (by omega), if_neg (by omega), if_neg (by omega), if_neg (by omega), if_neg (by omega), decide_eq_false (fun h => q h.1)]
    rfl
theorem K_setRule (h : GG T S) {r w v : Int} (hr : -2147483648 ≤ r) (hr' : r < 2147483648) (hw : -2147483648 ≤ w) (hw' : w < 2147483648) (hv : -2147483648 ≤ v) (hv' : v < 2147483648) : Ans [1, 2, 3] T (DX11_setRule T (iI r) (iI w) (iI v)) (DX12_setRule S (iI r) (iI w) (iI v)) := by
  obtain ⟨M, V, c, h⟩ := h
  have h' := h
  obtain ⟨gm, gv, gc, hz, hMK, hC, hK, hX⟩ := h
  have hMK' := hMK
  have hC' := hC
  obtain ⟨hMI, hx⟩ := hMK
  have hMI' := hMI
  obtain ⟨hR, hT, hW, hIn, hTi, hk, hs, hO, hN, hru, hba, hty, hml⟩ := hMI
  obtain ⟨c3, c4, c1, c2, cw, ce, cr, cp, cj, cs, ch, ct, cc⟩ := hC
  have hT' := hT
  obtain ⟨t0, t1, t2, t3, t4, t6, t7, t8⟩ := hT
  have h5 := hW.1
  have t12 : M 7 ≤ 12 := by omega
  obtain ⟨K', k1, k2⟩ := C_keep hK hC' hMK' hz
  have lb := loR_b w
  have ec : DX11_setRule T (iI r) (iI w) (iI v) = if 0 ≤ r ∧ r ≤ 3 then if 0 ≤ w ∧ w ≤ 5 then if loR w ≤ v ∧ v ≤ hiR w then if M 3 = 0 then some (Sum.inr (iI (M (ruleZ r w)), uX11_now (uX11_records T K') (uX0_rules (gX11_now T) (upd2 (gX0_rules (gX11_now T)) r.toNat (upd (gX0_rules (gX11_now T) r.toNat) w.toNat (iI v)))))) else some (Sum.inl 3) else some (Sum.inl 2) else some (Sum.inl 2) else some (Sum.inl 1) := by
    unfold DX11_setRule
    rw [C_reqRound hr hr', tx_p]
    simp only [iI_lit, jn_eq, lt_eq]
    rw [C_between hw hw' (by omega) (by omega) (by omega) (by omega), c3]
    simp only [Option.bind_some, C_reqA, tx_d, reqS0, reqS1, tx_l, tx_r, k1, ur_now]
    by_cases q : 0 ≤ r ∧ r ≤ 3
    · rw [if_pos q, if_pos q]
      by_cases q1 : 0 ≤ w ∧ w ≤ 5
      · obtain ⟨e0, e1⟩ := tab23 q1.1 q1.2
        rw [if_pos q1, if_pos q1, gd_iI (by omega) (by omega) (by omega), gd_iI (by omega) (by omega) (by omega), e0, e1, C_between hv hv' (by omega) (by omega) (by omega) (by omega)]
        simp only [Option.bind_some, C_reqA, tx_d]
        rw [gd_iI (by omega) (by omega) (by omega), gd_iI (by omega) (by omega) (by omega), gd_iI (by omega) (by omega) (by omega), gd_iI (by omega) (by omega) (by omega), iI_nat (by omega) (by omega), iI_nat (by omega) (by omega), if_eq (by omega) (by omega) (by omega) (by omega), cr r w (by omega) (by omega) (by omega) (by omega)]
      · rw [if_neg q1, if_neg q1]
    · rw [if_neg q, if_neg q]
  have er : DX12_setRule S (iI r) (iI w) (iI v) = if 0 ≤ r ∧ r ≤ 3 then if (0 ≤ w ∧ w ≤ 5) ∧ loR w ≤ v ∧ v ≤ hiR w then if M 3 = 0 then some (iI (M (ruleZ r w)), uX12_m (kS S M V c (iI 0)) (mI (updI M (ruleZ r w) v))) else some (iI 0, uX12_code S (iI 3)) else some (iI 0, uX12_code S (iI 2)) else some (iI 0, uX12_code S (iI 1)) := by
    unfold DX12_setRule
    simp only [iI_lit, jn_eq, lt_eq, uc_code, gm]
    rw [R_isRound hr hr', R_isRule hw hw' hv hv']
    simp only [show mI M 3 = iI (M 3) from rfl, Option.bind_some, if_bz, decide_eq_true_eq, iI_mul, iI_add, if_neg (show ¬ iI 1 = iI 0 by decide), if_neg (show ¬ iI 2 = iI 0 by decide), if_neg (show ¬ iI 3 = iI 0 by decide), if_pos (show iI 0 = iI 0 from rfl), if_true]
    rw [if_eq (by omega) (by omega) (by omega) (by omega)]
    by_cases q : 0 ≤ r ∧ r ≤ 3
    · rw [if_pos q, if_pos q]
      by_cases q1 : (0 ≤ w ∧ w ≤ 5) ∧ loR w ≤ v ∧ v ≤ hiR w
      · rw [if_pos q1, if_pos q1, R_put h' _ (by omega) (by omega)]
        rfl
      · rw [if_neg q1, if_neg q1]
    · rw [if_neg q, if_neg q]
  rw [ec, er]
  by_cases q : 0 ≤ r ∧ r ≤ 3
  · by_cases q1 : 0 ≤ w ∧ w ≤ 5
    · by_cases q2 : loR w ≤ v ∧ v ≤ hiR w
      · by_cases q3 : M 3 = 0
        · have hz9 : ruleZ r w = 102 + 6 * r + w := rfl
          have g : ∀ k : Int, ¬ (k = ruleZ r w) → updI M (ruleZ r w) v k = M k := fun k p => u_ne p
          have gi : updI M (ruleZ r w) v (ruleZ r w) = v := updI_self _ _ _
          have grg : rg (updI M (ruleZ r w) v) := rg_upd hR (by omega) (by omega)
          have gnz : nz (updI M (ruleZ r w) v) := nz_upd hz (by omega) (by omega)
          generalize updI M (ruleZ r w) v = N at *
          refine ans_v h' (iI (M (ruleZ r w))) k2 (N := N) (C' := uX0_rules (gX11_now T) (upd2 (gX0_rules (gX11_now T)) r.toNat (upd (gX0_rules (gX11_now T) r.toNat) w.toNat (iI v)))) gnz ⟨⟨grg, (st_c (fun k _ _ => g k (by omega)) hT'), (wk_c (fun k hk => g k (by omega)) hW), (in_c (fun k hk => g k (by omega)) hIn), (ti_c (fun k hk => g k (by omega)) hTi), (mk_c (fun k hk => g k (by omega)) hk), (sl_c (fun k hk => g k (by omega)) t12 hs), (or_c (fun k hk => g k (by omega)) t12 hO), (np_c (fun k hk => g k (by omega)) t12 hN), ?_, (ba_c (fun k hk => g k (by omega)) hba), (ty_c (fun k hk => g k (by omega)) t12 hty), (ml_c (fun k hk => g k (by omega)) hml)⟩, (x_c (fun k hk => g k (by omega)) hx)⟩ ⟨(by rw [g 3 (by omega)]; exact c3), (by rw [g 4 (by omega)]; exact c4), (by rw [g 1 (by omega)]; exact c1), (by rw [g 2 (by omega)]; exact c2), (cW_c (fun k hk => g k (by omega)) h5.2 cw), (cE_c (fun k hk => g k (by omega)) ce), ?_, (cP_c (fun k hk => g k (by omega)) hW cp), (cJ_c (fun k hk => g k (by omega)) cj), (cS_c (fun k hk => g k (by omega)) t12 cs), (cH_c (fun k hk => g k (by omega)) ch), (cT_c (fun k hk => g k (by omega)) ct), (cC_c (fun k hk => g k (by omega)) cc)⟩ (by rw [if_pos q, if_pos q1, if_pos q2, if_pos q3]) (by rw [if_pos q, if_pos ⟨q1, q2⟩, if_pos q3])
          · intro r1 a b
            by_cases q4 : ruleZ r1 5 = ruleZ r w
            · rw [q4, gi]
              unfold ruleZ at q4
              have q5 : w = 5 := by omega
              unfold loR hiR at q2
              rw [q5] at q2
              rw [if_neg (by omega), if_neg (by omega), if_neg (by omega), if_neg (by omega), if_neg (by omega)] at q2
              exact q2
            · rw [g _ q4]
              exact hru r1 a b
          · intro r1 i a b d f
            show upd2 (gX0_rules (gX11_now T)) r.toNat (upd (gX0_rules (gX11_now T) r.toNat) w.toNat (iI v)) r1.toNat i.toNat = _
            unfold upd2 upd
            by_cases q4 : r1 = r
            · rw [if_pos (by omega)]
              by_cases q5 : i = w
              · rw [if_pos (by omega), q4, q5, gi]
              · rw [if_neg (by omega), q4, g _ (by unfold ruleZ; omega)]
                exact cr r i (by omega) (by omega) d f
            · rw [if_neg (by omega), g _ (by unfold ruleZ; omega)]
              exact cr r1 i a b d f
        · exact ans_x h' 2 3 rfl (by rw [if_pos q, if_pos q1, if_pos q2, if_neg q3]) (by rw [if_pos q, if_pos ⟨q1, q2⟩, if_neg q3]; rfl)
      · exact ans_x h' 1 2 rfl (by rw [if_pos q, if_pos q1, if_neg q2]) (by rw [if_pos q, if_neg (fun h => q2 h.2)]; rfl)
    · exact ans_x h' 1 2 rfl (by rw [if_pos q, if_neg q1]) (by rw [if_pos q, if_neg (fun h => q1 h.1)]; rfl)
  · exact ans_x h' 0 1 rfl (by rw [if_neg q]) (by rw [if_neg q]; rfl)
end WC
