section WB
variable {M V : Int → Int} {T : SX11} {S : SX12} {C : SX0} {c : Int}
theorem gd_0 {α : Type} {x : Option α} : gd (isB (iI 0)) x = x := id rfl
theorem gd_1 {α : Type} {x : Option α} : gd (isB (iI 1)) x = x := id rfl
theorem R_put (h : Gc T S M V c) {z v : Int} (w : Int32) (h0 : 0 ≤ z) (h1 : z < 714) : DX12_put (uX12_code S w) (iI z) (iI v) = some (iI (M z), uX12_m (kS S M V c w) (mI (updI M z v))) := by
  unfold DX12_put
  rw [R_kS h]
  simp only [Option.bind_some, lt_eq, kS_m, h.1]
  rw [gd_iI (by omega) (by omega) (by omega), gd_iI (by omega) (by omega) (by omega), mI_at (by omega) (by omega), mI_upd (by omega) (by omega)]
theorem K_addEntrant (h : GG T S) : Ans [3] T (DX11_addEntrant T) (DX12_addEntrant S) := by
  obtain ⟨M, V, c, h⟩ := h
  have h' := h
  obtain ⟨gm, gv, gc, hz, hMK, hC, hK, hX⟩ := h
  have hMK' := hMK
  have hC' := hC
  obtain ⟨hMI, hx⟩ := hMK
  have hMI' := hMI
  obtain ⟨hR, hT, hW, hIn, hTi, hk, hs, hO, hN, hru, hba, hty, hml⟩ := hMI
  obtain ⟨c3, c4, c1, c2, cw, ce, cr, cp, cj, cs, ch, ct, cc⟩ := hC
  have hT' := hT
  obtain ⟨t0, t1, t2, t3, t4, t6, t7, t8⟩ := hT
  have h5 := hW.1
  have t12 : M 7 ≤ 12 := by omega
  obtain ⟨K', k1, k2⟩ := C_keep hK hC' hMK' hz
  have ec : DX11_addEntrant T = if M 3 = 0 then if 12 ≤ M 6 then some (Sum.inl 3) else some (Sum.inr (iI (M 6), uX11_now (uX11_records T K') (uX0_entrants (gX11_now T) (iI (M 6 + 1), upd (gX2_in (gX0_entrants (gX11_now T))) (M 6).toNat (iI 1))))) else some (Sum.inl 3) := by
    unfold DX11_addEntrant
    simp only [iI_lit, jn_eq, lt_eq]
    rw [c3, ce.1]
    simp only [Option.bind_some, reqS0, reqS1, tx_l, tx_r, k1, ur_now]
    rw [if_eq (by omega) (by omega) (by omega) (by omega), if_le (by omega) (by omega) (by omega) (by omega)]
    by_cases q : 12 ≤ M 6
    · rw [if_pos q, if_pos q]
    · unfold DX2_append
      simp only [iI_lit, lt_eq, ce.1]
      rw [if_neg q, if_neg q, if_lt (by omega) (by omega) (by omega) (by omega), if_pos (show M 6 < 12 by omega), gd_iI (by omega) (by omega) (by omega), iI_nat (by omega) (by omega)]
      simp only [Option.bind_some, iI_add]
      rfl
  have er : DX12_addEntrant S = if M 3 = 0 then if M 6 = 12 then some (iI 0, uX12_code S (iI 1)) else some (iI (M 6), uX12_m (kS S M V c (iI 0)) (mI (updI (updI M (126 + M 6) 1) 6 (M 6 + 1)))) else some (iI 0, uX12_code S (iI 1)) := by
    unfold DX12_addEntrant
    simp only [iI_lit, jn_eq, lt_eq, uc_code, gm]
    simp only [show mI M 3 = iI (M 3) from rfl, show mI M 6 = iI (M 6) from rfl, Option.bind_some, R_kS h', kS_m, um_m, um_um, gm, iI_add, if_neg (show ¬ iI 1 = iI 0 by decide), if_neg (show ¬ iI 2 = iI 0 by decide), if_neg (show ¬ iI 3 = iI 0 by decide), if_pos (show iI 0 = iI 0 from rfl), if_true]
    rw [if_eq (by omega) (by omega) (by omega) (by omega), if_eq (by omega) (by omega) (by omega) (by omega), gd_iI (by omega) (by omega) (by omega), mI_upd (by omega) (by omega)]
    simp only [show mI (updI M (126 + M 6) 1) 6 = iI (M 6) from congrArg iI (show updI M (126 + M 6) 1 6 = M 6 from u_ne (by omega)), iI_add]
    rw [mI_updN 6 _ rfl]
    simp only [show ∀ X : Int → Int, mI (updI X 6 (M 6 + 1)) 6 = iI (M 6 + 1) from fun X => congrArg iI (updI_self X 6 _), iI_sub, show M 6 + 1 - 1 = M 6 by omega]
  rw [ec, er]
  by_cases q4 : M 3 = 0
  · by_cases q5 : M 6 = 12
    · exact ans_x h' 0 3 rfl (by rw [if_pos q4, if_pos (by omega)]) (by rw [if_pos q4, if_pos q5]; rfl)
    · have g : ∀ k : Int, ¬ (k = 6 ∨ k = 126 + M 6) → updI (updI M (126 + M 6) 1) 6 (M 6 + 1) k = M k := fun k p => by rw [u_ne (by omega), u_ne (by omega)]
      have g6 : updI (updI M (126 + M 6) 1) 6 (M 6 + 1) 6 = M 6 + 1 := updI_self _ _ _
      have gi : updI (updI M (126 + M 6) 1) 6 (M 6 + 1) (126 + M 6) = 1 := by rw [u_ne (by omega), updI_self]
      have grg : rg (updI (updI M (126 + M 6) 1) 6 (M 6 + 1)) := rg_upd (rg_upd hR (by omega) (by omega)) (by omega) (by omega)
      have gnz : nz (updI (updI M (126 + M 6) 1) 6 (M 6 + 1)) := nz_upd (nz_upd hz (by omega) (by omega)) (by omega) (by omega)
      generalize updI (updI M (126 + M 6) 1) 6 (M 6 + 1) = N at *
      refine ans_v h' (iI (M 6)) k2 (N := N) (C' := uX0_entrants (gX11_now T) (iI (M 6 + 1), upd (gX2_in (gX0_entrants (gX11_now T))) (M 6).toNat (iI 1))) gnz ⟨⟨grg, ?_, (wk_c (fun k hk => g k (by omega)) hW), ?_, (ti_c (fun k hk => g k (by omega)) hTi), (mk_c (fun k hk => g k (by omega)) hk), (sl_c (fun k hk => g k (by omega)) t12 hs), ?_, (np_c (fun k hk => g k (by omega)) t12 hN), (ru_c (fun k hk => g k (by omega)) hru), (ba_c (fun k hk => g k (by omega)) hba), (ty_c (fun k hk => g k (by omega)) t12 hty), (ml_c (fun k hk => g k (by omega)) hml)⟩, ?_⟩ ⟨(by rw [g 3 (by omega)]; exact c3), (by rw [g 4 (by omega)]; exact c4), (by rw [g 1 (by omega)]; exact c1), (by rw [g 2 (by omega)]; exact c2), (cW_c (fun k hk => g k (by omega)) h5.2 cw), ?_, (cR_c (fun k hk => g k (by omega)) cr), (cP_c (fun k hk => g k (by omega)) hW cp), (cJ_c (fun k hk => g k (by omega)) cj), (cS_c (fun k hk => g k (by omega)) t12 cs), (cH_c (fun k hk => g k (by omega)) ch), (cT_c (fun k hk => g k (by omega)) ct), (cC_c (fun k hk => g k (by omega)) cc)⟩ (by rw [if_pos q4, if_neg (by omega)]) (by rw [if_pos q4, if_neg q5])
      · unfold stI
        rw [g 0 (by omega), g 1 (by omega), g 2 (by omega), g 3 (by omega), g 4 (by omega), g6, g 7 (by omega), g 8 (by omega)]
        exact ⟨t0, t1, t2, t3, t4, by omega, by omega, t8⟩
      · intro e a b
        rw [g6]
        by_cases q : e = M 6
        · rw [q, gi]
          exact ⟨Or.inr rfl, fun h => by omega⟩
        · rw [g (126 + e) (by omega)]
          have := hIn e a b
          exact ⟨this.1, fun h => this.2 (by omega)⟩
      · refine ⟨fun k a b => ?_, fun i k a b d => ?_⟩
        · rw [g 7 (by omega)] at b
          rw [g (462 + k) (by omega), g6]
          have := hO.1 k a b
          omega
        · rw [g 7 (by omega)] at d
          rw [g (462 + i) (by omega), g (462 + k) (by omega)]
          exact hO.2 i k a b d
      · refine ⟨fun h => ?_, fun e r a b d f hq => ?_⟩
        · rw [g 3 (by omega)] at h
          rw [g 7 (by omega)]
          exact hx.1 h
        · rw [g6] at hq
          rw [g (666 + 4 * e + r) (by omega)]
          exact hx.2 e r a b d f (by omega)
      · refine ⟨by rw [g6]; rfl, fun e a b => ?_⟩
        show upd (gX2_in (gX0_entrants (gX11_now T))) (M 6).toNat (iI 1) e.toNat = _
        unfold upd
        by_cases q : e = M 6
        · rw [if_pos (by omega), q, gi]
        · rw [if_neg (by omega), g (126 + e) (by omega)]
          exact ce.2 e a b
  · exact ans_x h' 0 3 rfl (by rw [if_neg q4]) (by rw [if_neg q4]; rfl)
theorem C_has3 {J : SX3} (h : cJ J M) (h0 : 0 ≤ M 0) (h0' : M 0 ≤ 7) {j : Int} (hj : -2147483648 ≤ j) (hj' : j < 2147483648) : DX3_has J (iI j) = some (bI (decide (0 ≤ j ∧ j < M 0))) := by
  unfold DX3_has
  rw [h.1]
  simp only [iI_lit, jn_eq]
  simp (disch := omega) only [if_lt, if_le]
  by_cases q1 : j < 0
  · rw [if_pos q1, decide_eq_false (by omega)]; rfl
  · rw [if_neg q1]
    by_cases q2 : M 0 ≤ j
    · rw [if_pos q2, decide_eq_false (by omega)]; rfl
    · rw [if_neg q2, if_neg (by omega), decide_eq_true (by omega)]; rfl
theorem C_reqJE (h : Cp C M) (hI : MI M) {j e : Int} (hj : -2147483648 ≤ j) (hj' : j < 2147483648) (he : -2147483648 ≤ e) (he' : e < 2147483648) : DX11_requireJurorAndEntrant C (iI j) (iI e) = some (if (0 ≤ j ∧ j < M 0) ∧ (0 ≤ e ∧ e < M 6) then Sum.inr () else Sum.inl 1) := by
  have t0 := hI.2.1.1
  have cj := h.2.2.2.2.2.2.2.2.1
  unfold DX11_requireJurorAndEntrant
  simp only [show gX11n_now C = C from rfl]
  rw [C_has3 cj (by omega) (by omega) hj hj', C_reqEntrant h hI he he']
  simp only [Option.bind_some, C_reqI, tx_d]
  by_cases q : 0 ≤ j ∧ j < M 0
  · rw [if_pos q, tx_p]
    by_cases q2 : 0 ≤ e ∧ e < M 6
    · rw [if_pos q2, if_pos ⟨q, q2⟩]
    · rw [if_neg q2, if_neg (fun h => q2 h.2)]
  · rw [if_neg q, if_neg (fun h => q h.1)]
theorem K_bar (h : GG T S) {j e : Int} {β : Bool} (hj : -2147483648 ≤ j) (hj' : j < 2147483648) (he : -2147483648 ≤ e) (he' : e < 2147483648) : Ans [1] T (DX11_bar T (iI j) (iI e) (bI β)) (DX12_bar S (iI j) (iI e) (bI β)) := by
  obtain ⟨M, V, c, h⟩ := h
  have h' := h
  obtain ⟨gm, gv, gc, hz, hMK, hC, hK, hX⟩ := h
  have hMK' := hMK
  have hC' := hC
  obtain ⟨hMI, hx⟩ := hMK
  have hMI' := hMI
  obtain ⟨hR, hT, hW, hIn, hTi, hk, hs, hO, hN, hru, hba, hty, hml⟩ := hMI
  obtain ⟨c3, c4, c1, c2, cw, ce, cr, cp, cj, cs, ch, ct, cc⟩ := hC
  have hT' := hT
  obtain ⟨t0, t1, t2, t3, t4, t6, t7, t8⟩ := hT
  have h5 := hW.1
  have t12 : M 7 ≤ 12 := by omega
  obtain ⟨K', k1, k2⟩ := C_keep hK hC' hMK' hz
  have ec : DX11_bar T (iI j) (iI e) (bI β) = if (0 ≤ j ∧ j < M 0) ∧ (0 ≤ e ∧ e < M 6) then some (Sum.inr (bI (isBarredZ M j e), uX11_now (uX11_records T K') (uX0_jury (gX11_now T) (uX3_barred (gX0_jury (gX11_now T)) (upd2 (gX3_barred (gX0_jury (gX11_now T))) j.toNat (upd (gX3_barred (gX0_jury (gX11_now T)) j.toNat) e.toNat (bI β))))))) else some (Sum.inl 1) := by
    unfold DX11_bar
    rw [C_reqJE hC' hMI' hj hj' he he', tx_p]
    simp only [lt_eq, k1, Option.bind_some, ur_now]
    by_cases q : (0 ≤ j ∧ j < M 0) ∧ (0 ≤ e ∧ e < M 6)
    · rw [if_pos q, if_pos q, C_isBarred cj hR q.1.1 (by omega) q.2.1 (by omega)]
      unfold DX3_setBarred
      simp only [iI_lit, jn_eq, lt_eq, Option.bind_some]
      rw [if_lt (by omega) (by omega) (by omega) (by omega), if_neg (by omega), if_le (by omega) (by omega) (by omega) (by omega), if_neg (by omega), if_lt (by omega) (by omega) (by omega) (by omega), if_neg (by omega), if_le (by omega) (by omega) (by omega) (by omega), if_neg (by omega), gd_iI (by omega) (by omega) (by omega), gd_iI (by omega) (by omega) (by omega), gd_iI (by omega) (by omega) (by omega), iI_nat (by omega) (by omega), iI_nat (by omega) (by omega)]
      cases β <;> rw [if_bz] <;> simp only [Option.bind_some, gd_bI, reduceIte, Bool.false_eq_true] <;> rfl
    · rw [if_neg q, if_neg q]
  have er : DX12_bar S (iI j) (iI e) (bI β) = if (0 ≤ j ∧ j < M 0) ∧ (0 ≤ e ∧ e < M 6) then some (bI (isBarredZ M j e), uX12_m (kS S M V c (iI 0)) (mI (updI M (378 + (12 * j + e)) (if β = true then 1 else 0)))) else some (iI 0, uX12_code S (iI 1)) := by
    unfold DX12_bar
    simp only [iI_lit, jn_eq, lt_eq, uc_code]
    rw [R_isJuror gm hT' hj hj', R_isEntrant gm hT' he he']
    simp only [Option.bind_some, if_bz, decide_eq_true_eq, R_seat, iI_add, gd_0, gd_1, if_neg (show ¬ iI 1 = iI 0 by decide), if_neg (show ¬ iI 2 = iI 0 by decide), if_neg (show ¬ iI 3 = iI 0 by decide), if_pos (show iI 0 = iI 0 from rfl), if_true]
    by_cases q : (0 ≤ j ∧ j < M 0) ∧ (0 ≤ e ∧ e < M 6)
    · rw [if_pos q.1, if_pos q.2, if_pos q, R_put h' _ (by omega) (by omega), R_put h' _ (by omega) (by omega)]
      have r1 := hR (378 + (12 * j + e))
      simp only [Option.bind_some]
      rw [if_eq (by omega) (by omega) (by omega) (by omega), if_eq (by omega) (by omega) (by omega) (by omega)]
      unfold isBarredZ
      cases β with
      | true =>
        rw [if_pos rfl]
        by_cases q2 : M (378 + (12 * j + e)) = 1
        · rw [if_pos q2, decide_eq_true q2]; rfl
        · rw [if_neg q2, decide_eq_false q2]; rfl
      | false =>
        rw [if_neg (show ¬ false = true by decide), if_neg (show ¬ false = true by decide)]
        by_cases q2 : M (378 + (12 * j + e)) = 1
        · rw [if_pos q2, decide_eq_true q2]; rfl
        · rw [if_neg q2, decide_eq_false q2]; rfl
    · rw [if_neg q]
      by_cases q1 : 0 ≤ j ∧ j < M 0
      · rw [if_pos q1, if_neg (fun h => q ⟨q1, h⟩)]
      · rw [if_neg q1]
  rw [ec, er]
  by_cases q : (0 ≤ j ∧ j < M 0) ∧ (0 ≤ e ∧ e < M 6)
  · obtain ⟨v, hv, hv9⟩ : ∃ v : Int, (if β = true then (1 : Int) else 0) = v ∧ (v = 0 ∨ v = 1) ∧ bI β = iI v := by
      cases β
      · exact ⟨0, rfl, Or.inl rfl, rfl⟩
      · exact ⟨1, rfl, Or.inr rfl, rfl⟩
    rw [hv]
    have g : ∀ k : Int, ¬ (k = 378 + (12 * j + e)) → updI M (378 + (12 * j + e)) v k = M k := fun k p => u_ne p
    have gi : updI M (378 + (12 * j + e)) v (378 + (12 * j + e)) = v := updI_self _ _ _
    have grg : rg (updI M (378 + (12 * j + e)) v) := rg_upd hR (by omega) (by omega)
    have gnz : nz (updI M (378 + (12 * j + e)) v) := nz_upd hz (by omega) (by omega)
    generalize updI M (378 + (12 * j + e)) v = N at *
    refine ans_v h' (bI (isBarredZ M j e)) k2 (N := N) (C' := uX0_jury (gX11_now T) (uX3_barred (gX0_jury (gX11_now T)) (upd2 (gX3_barred (gX0_jury (gX11_now T))) j.toNat (upd (gX3_barred (gX0_jury (gX11_now T)) j.toNat) e.toNat (bI β))))) gnz ⟨⟨grg, (st_c (fun k _ _ => g k (by omega)) hT'), (wk_c (fun k hk => g k (by omega)) hW), (in_c (fun k hk => g k (by omega)) hIn), (ti_c (fun k hk => g k (by omega)) hTi), (mk_c (fun k hk => g k (by omega)) hk), (sl_c (fun k hk => g k (by omega)) t12 hs), (or_c (fun k hk => g k (by omega)) t12 hO), (np_c (fun k hk => g k (by omega)) t12 hN), (ru_c (fun k hk => g k (by omega)) hru), ?_, (ty_c (fun k hk => g k (by omega)) t12 hty), (ml_c (fun k hk => g k (by omega)) hml)⟩, (x_c (fun k hk => g k (by omega)) hx)⟩ ⟨(by rw [g 3 (by omega)]; exact c3), (by rw [g 4 (by omega)]; exact c4), (by rw [g 1 (by omega)]; exact c1), (by rw [g 2 (by omega)]; exact c2), (cW_c (fun k hk => g k (by omega)) h5.2 cw), (cE_c (fun k hk => g k (by omega)) ce), (cR_c (fun k hk => g k (by omega)) cr), (cP_c (fun k hk => g k (by omega)) hW cp), ?_, (cS_c (fun k hk => g k (by omega)) t12 cs), (cH_c (fun k hk => g k (by omega)) ch), (cT_c (fun k hk => g k (by omega)) ct), (cC_c (fun k hk => g k (by omega)) cc)⟩ (by rw [if_pos q]) (by rw [if_pos q])
    · intro j1 e1 a b d f
      by_cases q1 : 378 + (12 * j1 + e1) = 378 + (12 * j + e)
      · rw [q1, gi]; exact hv9.1
      · rw [g _ q1]; exact hba j1 e1 a b d f
    · refine ⟨by rw [g 0 (by omega)]; exact cj.1, fun j1 e1 a b d f => ?_⟩
      show upd2 (gX3_barred (gX0_jury (gX11_now T))) j.toNat (upd (gX3_barred (gX0_jury (gX11_now T)) j.toNat) e.toNat (bI β)) j1.toNat e1.toNat = _
      unfold upd2 upd
      by_cases q1 : j1 = j
      · rw [if_pos (by omega)]
        by_cases q2 : e1 = e
        · rw [if_pos (by omega), q1, q2, gi]; exact hv9.2
        · rw [if_neg (by omega), q1, g _ (by omega)]; exact cj.2 j e1 (by omega) (by omega) d f
      · rw [if_neg (by omega), g _ (by omega)]; exact cj.2 j1 e1 a b d f
  · exact ans_x h' 0 1 rfl (by rw [if_neg q]) (by rw [if_neg q]; rfl)
end WB
