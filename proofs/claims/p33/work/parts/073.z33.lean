section WD
variable {M N V : Int → Int} {T : SX11} {S : SX12} {C : SX0} {c : Int}
theorem C_put4 {P : SX4} {e r k v : Int} (he : 0 ≤ e) (he' : e < 12) (hr : 0 ≤ r) (hr' : r < 4) (hk : 0 ≤ k) (hk' : k < 4) : DX4_put P (iI e) (iI r) (iI k) (iI v) = some (uX4_places P (upd (gX4_places P) ((e * 4 + r) * 4 + k).toNat (iI v))) := by
  unfold DX4_put
  simp only [iI_lit, jn_eq, lt_eq, iI_mul, iI_add]
  rw [if_lt (by omega) (by omega) (by omega) (by omega), if_neg (by omega), if_le (by omega) (by omega) (by omega) (by omega), if_neg (by omega), if_lt (by omega) (by omega) (by omega) (by omega), if_neg (by omega), if_le (by omega) (by omega) (by omega) (by omega), if_neg (by omega), if_lt (by omega) (by omega) (by omega) (by omega), if_neg (by omega), if_le (by omega) (by omega) (by omega) (by omega), if_neg (by omega), if_eq (by omega) (by omega) (by omega) (by omega), if_neg (by omega), gd_iI (by omega) (by omega) (by omega), iI_nat (by omega) (by omega)]
theorem C_empty4 {P : SX4} {e r : Int} (he : 0 ≤ e) (he' : e < 12) (hr : 0 ≤ r) (hr' : r < 4) : DX4_empty P (iI e) (iI r) = some (fun q : Nat => if ((e * 4 + r) * 4).toNat ≤ q ∧ q < ((e * 4 + r) * 4).toNat + 4 then iI (-1) else P q) := by
  unfold DX4_empty
  simp only [iI_lit]
  have base : P = (fun q : Nat => if ((e * 4 + r) * 4).toNat ≤ q ∧ q < ((e * 4 + r) * 4).toNat + 0 then iI (-1) else P q) := funext fun q => (if_neg (by omega)).symm
  have := upL (fun f j => DX4_empty_L2 (iI e) (iI r) (fun S6 => some S6) f (iI j) ((fun q : Nat => if ((e * 4 + r) * 4).toNat ≤ q ∧ q < ((e * 4 + r) * 4).toNat + j then iI (-1) else P q) : SX4)) (some (fun q : Nat => if ((e * 4 + r) * 4).toNat ≤ q ∧ q < ((e * 4 + r) * 4).toNat + 4 then iI (-1) else P q)) 4 ?_ ?_ fu (by unfold fu; omega)
  · rw [← base] at this
    exact this
  · intro f j hj
    show DX4_empty_L2 _ _ _ _ _ _ = _
    rw [DX4_empty_L2]
    simp only [iI_lit, iI_add, iI_neg]
    rw [if_le (by omega) (by omega) (by omega) (by omega), if_neg (by omega), C_put4 he he' hr hr' (by omega) (by omega), show ((j + 1 : Nat) : Int) = (j : Int) + 1 by omega]
    simp only [Option.bind_some]
    congr 1
    show upd (fun q : Nat => if ((e * 4 + r) * 4).toNat ≤ q ∧ q < ((e * 4 + r) * 4).toNat + j then iI (-1) else P q) ((e * 4 + r) * 4 + j).toNat (iI (-1)) = _
    funext q
    unfold upd
    by_cases q1 : q = ((e * 4 + r) * 4 + j).toNat
    · rw [if_pos q1, if_pos (by omega)]
    · rw [if_neg q1]
      show (if ((e * 4 + r) * 4).toNat ≤ q ∧ q < ((e * 4 + r) * 4).toNat + j then iI (-1) else P q) = _
      by_cases q2 : ((e * 4 + r) * 4).toNat ≤ q ∧ q < ((e * 4 + r) * 4).toNat + j
      · rw [if_pos q2, if_pos (by omega)]
      · rw [if_neg q2, if_neg (by omega)]
  · intro f
    show DX4_empty_L2 _ _ _ _ _ _ = _
    rw [DX4_empty_L2]
    simp only [iI_lit]
    rw [if_le (by omega) (by omega) (by omega) (by omega), if_pos (by omega)]
theorem K_clearProgram (h : GG T S) {e r : Int} (he : -2147483648 ≤ e) (he' : e < 2147483648) (hr : -2147483648 ≤ r) (hr' : r < 2147483648) : Ans [1] T (DX11_clearProgram T (iI e) (iI r)) (DX12_clearProgram S (iI e) (iI r)) := by
  obtain ⟨M, V, c, h⟩ := h
  have h' := h
  obtain ⟨gm, gv, gc, hz, hMK, hC, hK, hX⟩ := h
  have hMK' := hMK
  have hC' := hC
  obtain ⟨hMI, hx⟩ := hMK
  have hMI' := hMI
  obtain ⟨hR, hT, hW, hIn, hTi, hk, hs, hO, hN, hru, hba, hty, hml⟩ := hMI
  obtain ⟨c3, c4, c1, c2, cw, ce, cr, cp, cj, cs, ch, ct, cc⟩ := hC
  have hT' := hT
  obtain ⟨t0, t1, t2, t3, t4, t6, t7, t8⟩ := hT
  have h5 := hW.1
  have t12 : M 7 ≤ 12 := by omega
  obtain ⟨K', k1, k2⟩ := C_keep hK hC' hMK' hz
  have ec : DX11_clearProgram T (iI e) (iI r) = if (0 ≤ e ∧ e < M 6) ∧ (0 ≤ r ∧ r ≤ 3) then some (Sum.inr (iI (M (cellZ e r)), uX11_now (uX11_records T K') (uX0_programs (gX11_now T) (fun q : Nat => if ((e * 4 + r) * 4).toNat ≤ q ∧ q < ((e * 4 + r) * 4).toNat + 4 then iI (-1) else gX0_programs (gX11_now T) q)))) else some (Sum.inl 1) := by
    unfold DX11_clearProgram
    rw [C_reqER hC' hMI' he he' hr hr', tx_p]
    simp only [lt_eq, k1, Option.bind_some, ur_now]
    by_cases q : (0 ≤ e ∧ e < M 6) ∧ (0 ≤ r ∧ r ≤ 3)
    · rw [if_pos q, if_pos q, C_sizeOf cp hW (by omega) (by omega) (by omega) (by omega), C_empty4 (by omega) (by omega) (by omega) (by omega)]
      rfl
    · rw [if_neg q, if_neg q]
  have er : DX12_clearProgram S (iI e) (iI r) = if (0 ≤ e ∧ e < M 6) ∧ (0 ≤ r ∧ r ≤ 3) then some (iI (M (cellZ e r)), uX12_m (kS S M V c (iI 0)) (mI (updI M (cellZ e r) 0))) else some (iI 0, uX12_code S (iI 1)) := by
    unfold DX12_clearProgram
    simp only [iI_lit, jn_eq, lt_eq, uc_code]
    rw [R_isEntrant gm hT' he he', R_isRound hr hr']
    simp only [Option.bind_some, if_bz, decide_eq_true_eq, R_programAt, if_neg (show ¬ iI 1 = iI 0 by decide), if_neg (show ¬ iI 2 = iI 0 by decide), if_neg (show ¬ iI 3 = iI 0 by decide), if_pos (show iI 0 = iI 0 from rfl), if_true]
    by_cases q : (0 ≤ e ∧ e < M 6) ∧ (0 ≤ r ∧ r ≤ 3)
    · rw [if_pos q.1, if_pos q.2, if_pos q, R_put h' _ (by unfold cellZ; omega) (by unfold cellZ; omega)]
      rfl
    · rw [if_neg q]
      by_cases q1 : 0 ≤ e ∧ e < M 6
      · rw [if_pos q1, if_neg (fun h => q ⟨q1, h⟩)]
      · rw [if_neg q1]
  rw [ec, er]
  by_cases q : (0 ≤ e ∧ e < M 6) ∧ (0 ≤ r ∧ r ≤ 3)
  · have hz9 : cellZ e r = 138 + 5 * (4 * e + r) := rfl
    have g : ∀ k : Int, ¬ (k = cellZ e r) → updI M (cellZ e r) 0 k = M k := fun k p => u_ne p
    have gi : updI M (cellZ e r) 0 (cellZ e r) = 0 := updI_self _ _ _
    have grg : rg (updI M (cellZ e r) 0) := rg_upd hR (by omega) (by omega)
    have gnz : nz (updI M (cellZ e r) 0) := nz_upd hz (by omega) (by omega)
    generalize updI M (cellZ e r) 0 = N at *
    refine ans_v h' (iI (M (cellZ e r))) k2 (N := N) (C' := uX0_programs (gX11_now T) (fun q : Nat => if ((e * 4 + r) * 4).toNat ≤ q ∧ q < ((e * 4 + r) * 4).toNat + 4 then iI (-1) else gX0_programs (gX11_now T) q)) gnz ⟨⟨grg, (st_c (fun k _ _ => g k (by omega)) hT'), ?_, (in_c (fun k hk => g k (by omega)) hIn), (ti_c (fun k hk => g k (by omega)) hTi), (mk_c (fun k hk => g k (by omega)) hk), (sl_c (fun k hk => g k (by omega)) t12 hs), (or_c (fun k hk => g k (by omega)) t12 hO), (np_c (fun k hk => g k (by omega)) t12 hN), (ru_c (fun k hk => g k (by omega)) hru), (ba_c (fun k hk => g k (by omega)) hba), (ty_c (fun k hk => g k (by omega)) t12 hty), (ml_c (fun k hk => g k (by omega)) hml)⟩, (x_c (fun k hk => g k (by omega)) hx)⟩ ⟨(by rw [g 3 (by omega)]; exact c3), (by rw [g 4 (by omega)]; exact c4), (by rw [g 1 (by omega)]; exact c1), (by rw [g 2 (by omega)]; exact c2), (cW_c (fun k hk => g k (by omega)) h5.2 cw), (cE_c (fun k hk => g k (by omega)) ce), (cR_c (fun k hk => g k (by omega)) cr), ?_, (cJ_c (fun k hk => g k (by omega)) cj), (cS_c (fun k hk => g k (by omega)) t12 cs), (cH_c (fun k hk => g k (by omega)) ch), (cT_c (fun k hk => g k (by omega)) ct), (cC_c (fun k hk => g k (by omega)) cc)⟩ (by rw [if_pos q]) (by rw [if_pos q])
    · refine ⟨by rw [g 5 (by omega)]; exact h5, fun k a b => ?_, fun e1 r1 a b d f => ?_⟩
      · rw [g 5 (by omega)] at b
        rw [g (12 + 3 * k) (by omega), g (12 + 3 * k + 1) (by omega), g (12 + 3 * k + 2) (by omega)]
        exact hW.2.1 k a b
      · obtain ⟨p5, p6⟩ := hW.2.2 e1 r1 a b d f
        by_cases q1 : cellZ e1 r1 = cellZ e r
        · rw [q1, gi]
          exact ⟨by omega, fun k p7 p8 => by omega⟩
        · rw [g 5 (by omega), g _ q1]
          refine ⟨p5, fun k p7 p8 => ?_⟩
          rw [g (cellZ e1 r1 + 1 + k) (by unfold cellZ at *; omega)]
          exact p6 k p7 p8
    · intro e1 r1 k a b d f p7 p8
      show (if ((e * 4 + r) * 4).toNat ≤ ((e1 * 4 + r1) * 4 + k).toNat ∧ ((e1 * 4 + r1) * 4 + k).toNat < ((e * 4 + r) * 4).toNat + 4 then iI (-1) else gX0_programs (gX11_now T) ((e1 * 4 + r1) * 4 + k).toNat) = _
      by_cases q1 : cellZ e1 r1 = cellZ e r
      · have q2 : 4 * e1 + r1 = 4 * e + r := by unfold cellZ at q1; omega
        rw [if_pos (by omega)]
        unfold workAtZ
        rw [q1, gi, if_neg (by omega)]
      · have q2 : 4 * e1 + r1 ≠ 4 * e + r := by unfold cellZ at q1; omega
        rw [if_neg (by omega)]
        have ew : workAtZ N e1 r1 k = workAtZ M e1 r1 k := by
          unfold workAtZ
          rw [g _ q1]
          by_cases q3 : 0 ≤ k ∧ k ≤ M (cellZ e1 r1) - 1
          · rw [if_pos q3, if_pos q3, g (cellZ e1 r1 + 1 + k) (by unfold cellZ at *; omega)]
          · rw [if_neg q3, if_neg q3]
        rw [ew]
        exact cp e1 r1 k a b d f p7 p8
  · exact ans_x h' 0 1 rfl (by rw [if_neg q]) (by rw [if_neg q]; rfl)
theorem K_play (h : GG T S) {s : Int} (hs1 : -2147483648 ≤ s) (hs2 : s < 2147483648) : Ans [2, 3] T (DX11_play T (iI s)) (DX12_play S (iI s)) := by
  obtain ⟨M, V, c, h⟩ := h
  have h' := h
  obtain ⟨gm, gv, gc, hz, hMK, hC, hK, hX⟩ := h
  have hMK' := hMK
  have hC' := hC
  obtain ⟨hMI, hx⟩ := hMK
  have hMI' := hMI
  obtain ⟨hR, hT, hW, hIn, hTi, hk, hs, hO, hN, hru, hba, hty, hml⟩ := hMI
  obtain ⟨c3, c4, c1, c2, cw, ce, cr, cp, cj, cs, ch, ct, cc⟩ := hC
  have hT' := hT
  obtain ⟨t0, t1, t2, t3, t4, t6, t7, t8⟩ := hT
  have h5 := hW.1
  have t12 : M 7 ≤ 12 := by omega
  obtain ⟨K', k1, k2⟩ := C_keep hK hC' hMK' hz
  have ec : DX11_play T (iI s) = if 0 ≤ s ∧ s ≤ 20 then if M 3 = 1 then if M 7 ≤ M 8 then some (Sum.inl 3) else some (Sum.inr (iI (M (462 + M 8)), uX11_now (uX11_records T K') (uX0_stage (gX11_now T) (uX7_played (uX7_slips (gX0_stage (gX11_now T)) (upd (gX7_slips (gX0_stage (gX11_now T))) (M (462 + M 8)).toNat (iI s))) (iI (M 8 + 1)))))) else some (Sum.inl 3) else some (Sum.inl 2) := by
    unfold DX11_play
    simp only [iI_lit, jn_eq, lt_eq]
    rw [C_between hs1 hs2 (by omega) (by omega) (by omega) (by omega), c3, cs.1, cs.2.1]
    simp only [Option.bind_some, C_reqA, tx_d, reqS0, reqS1, tx_l, tx_r, k1, ur_now]
    rw [if_eq (by omega) (by omega) (by omega) (by omega), if_le (by omega) (by omega) (by omega) (by omega)]
    by_cases q : M 7 ≤ M 8
    · rw [if_pos q, if_pos q]
    · have o := hO.1 (M 8) (by omega) (by omega)
      unfold DX7_letNextPlay
      rw [if_neg q, if_neg q, cs.2.1, C_playerAt cs hT' (by omega) (by omega), if_pos (show 0 ≤ M 8 ∧ M 8 < M 7 by omega)]
      simp only [Option.bind_some, iI_lit, jn_eq, lt_eq]
      rw [C_between (by omega) (by omega) (by omega) (by omega) (by omega) (by omega)]
      simp only [Option.bind_some, if_bz, decide_eq_true_eq]
      rw [if_pos (show 0 ≤ M (462 + M 8) ∧ M (462 + M 8) ≤ 11 by omega), gd_iI (by omega) (by omega) (by omega), iI_nat (by omega) (by omega), show ∀ v, gX7_played (uX7_slips (gX0_stage (gX11_now T)) v) = gX7_played (gX0_stage (gX11_now T)) from fun _ => rfl, cs.2.1, iI_add]
      rfl
  have er : DX12_play S (iI s) = if 0 ≤ s ∧ s ≤ 20 then if M 3 = 1 then if M 8 = M 7 then some (iI 0, uX12_code S (iI 2)) else some (iI (M (462 + M 8)), uX12_m (kS S M V c (iI 0)) (mI (updI (updI M (474 + M (462 + M 8)) s) 8 (M 8 + 1)))) else some (iI 0, uX12_code S (iI 2)) else some (iI 0, uX12_code S (iI 1)) := by
    unfold DX12_play
    simp only [iI_lit, jn_eq, lt_eq, uc_code, gm]
    rw [R_in hs1 hs2 (by omega) (by omega) (by omega) (by omega)]
    simp only [show mI M 3 = iI (M 3) from rfl, show mI M 8 = iI (M 8) from rfl, show mI M 7 = iI (M 7) from rfl, Option.bind_some, if_bz, decide_eq_true_eq, R_kS h', kS_m, um_m, um_um, gm, iI_add, if_neg (show ¬ iI 1 = iI 0 by decide), if_neg (show ¬ iI 2 = iI 0 by decide), if_neg (show ¬ iI 3 = iI 0 by decide), if_pos (show iI 0 = iI 0 from rfl), if_true]
    rw [if_eq (by omega) (by omega) (by omega) (by omega), if_eq (by omega) (by omega) (by omega) (by omega)]
    by_cases q : M 8 = M 7
    · rw [if_pos q, if_pos q]
    · have o := hO.1 (M 8) (by omega) (by omega)
      rw [if_neg q, if_neg q, gd_iI (by omega) (by omega) (by omega), mI_at (by omega) (by omega)]
      simp only [iI_add]
      rw [gd_iI (by omega) (by omega) (by omega), mI_upd (by omega) (by omega)]
      simp only [show mI (updI M (474 + M (462 + M 8)) s) 8 = iI (M 8) from congrArg iI (show updI M (474 + M (462 + M 8)) s 8 = M 8 from u_ne (by omega)), iI_add]
      rw [mI_updN 8 _ rfl]
  rw [ec, er]
  by_cases q1 : 0 ≤ s ∧ s ≤ 20
  · by_cases q2 : M 3 = 1
    · by_cases q3 : M 8 = M 7
      · exact ans_x h' 1 3 rfl (by rw [if_pos q1, if_pos q2, if_pos (by omega)]) (by rw [if_pos q1, if_pos q2, if_pos q3]; rfl)
      · have o := hO.1 (M 8) (by omega) (by omega)
        have op := plc_ord hO (k := M 8) (by omega) (by omega)
        obtain ⟨p, hp⟩ : ∃ p : Int, M (462 + M 8) = p := ⟨_, rfl⟩
        rw [hp] at o op ⊢
        have g : ∀ k : Int, ¬ (k = 8 ∨ k = 474 + p) → updI (updI M (474 + p) s) 8 (M 8 + 1) k = M k := fun k h => by rw [u_ne (by omega), u_ne (by omega)]
        have g8 : updI (updI M (474 + p) s) 8 (M 8 + 1) 8 = M 8 + 1 := updI_self _ _ _
        have gi : updI (updI M (474 + p) s) 8 (M 8 + 1) (474 + p) = s := by rw [u_ne (by omega), updI_self]
        have grg : rg (updI (updI M (474 + p) s) 8 (M 8 + 1)) := rg_upd (rg_upd hR (by omega) (by omega)) (by omega) (by omega)
        have gnz : nz (updI (updI M (474 + p) s) 8 (M 8 + 1)) := nz_upd (nz_upd hz (by omega) (by omega)) (by omega) (by omega)
        generalize updI (updI M (474 + p) s) 8 (M 8 + 1) = N at *
        have gp : ∀ e : Int, plcZ N e = plcZ M e := fun e => plc_c (fun k hk => g k (by omega)) t12 e
        have gh1 : hpZ N p = true := by unfold hpZ; rw [gp, op, g8]; exact decide_eq_true (by omega)
        have gh2 : ∀ e : Int, e ≠ p → hpZ N e = hpZ M e := fun e he => by
          unfold hpZ
          rw [gp, g8]
          refine decide_eq_decide.mpr ⟨fun h => ⟨h.1, ?_⟩, fun h => ⟨h.1, by omega⟩⟩
          have : plcZ M e ≠ M 8 := fun h9 => he (by rw [← plc_at (M := M) (e := e) (by omega), h9]; exact hp)
          omega
        refine ans_v h' (iI p) k2 (N := N) (C' := uX0_stage (gX11_now T) (uX7_played (uX7_slips (gX0_stage (gX11_now T)) (upd (gX7_slips (gX0_stage (gX11_now T))) p.toNat (iI s))) (iI (M 8 + 1)))) gnz ⟨⟨grg, ?_, (wk_c (fun k hk => g k (by omega)) hW), (in_c (fun k hk => g k (by omega)) hIn), (ti_c (fun k hk => g k (by omega)) hTi), (mk_c (fun k hk => g k (by omega)) hk), ?_, (or_c (fun k hk => g k (by omega)) t12 hO), ?_, (ru_c (fun k hk => g k (by omega)) hru), (ba_c (fun k hk => g k (by omega)) hba), (ty_c (fun k hk => g k (by omega)) t12 hty), (ml_c (fun k hk => g k (by omega)) hml)⟩, (x_c (fun k hk => g k (by omega)) hx)⟩ ⟨(by rw [g 3 (by omega)]; exact c3), (by rw [g 4 (by omega)]; exact c4), (by rw [g 1 (by omega)]; exact c1), (by rw [g 2 (by omega)]; exact c2), (cW_c (fun k hk => g k (by omega)) h5.2 cw), (cE_c (fun k hk => g k (by omega)) ce), (cR_c (fun k hk => g k (by omega)) cr), (cP_c (fun k hk => g k (by omega)) hW cp), (cJ_c (fun k hk => g k (by omega)) cj), ?_, (cH_c (fun k hk => g k (by omega)) ch), (cT_c (fun k hk => g k (by omega)) ct), (cC_c (fun k hk => g k (by omega)) cc)⟩ (by rw [if_pos q1, if_pos q2, if_neg (by omega)]) (by rw [if_pos q1, if_pos q2, if_neg q3])
        · unfold stI
          rw [g 0 (by omega), g 1 (by omega), g 2 (by omega), g 3 (by omega), g 4 (by omega), g 6 (by omega), g 7 (by omega), g8]
          exact ⟨t0, t1, t2, t3, t4, t6, t7, by omega⟩
        · intro e a b d
          by_cases q4 : e = p
          · rw [q4, gi]; exact q1
          · rw [gh2 e q4] at d
            rw [g (474 + e) (by omega)]
            exact hs e a b d
        · intro j e a b d f d9
          by_cases q4 : e = p
          · rw [q4, gh1] at d9; cases d9
          · rw [gh2 e q4] at d9
            rw [g _ (by omega)]
            exact hN j e a b d f d9
        · obtain ⟨s1, s2, s3, s4, s5⟩ := cs
          refine ⟨by rw [g 7 (by omega)]; exact s1, by rw [g8]; rfl, by rw [g 11 (by omega)]; exact s3, fun k a b => ?_, fun e a b => ?_⟩
          · rw [g 7 (by omega)] at b
            rw [g (462 + k) (by omega)]
            exact s4 k a b
          · show upd (gX7_slips (gX0_stage (gX11_now T))) p.toNat (iI s) e.toNat = _
            unfold upd
            by_cases q4 : e = p
            · rw [if_pos (by omega), q4, gh1, gi, if_pos rfl]
            · rw [if_neg (by omega), gh2 e q4, g (474 + e) (by omega)]
              exact s5 e a b
    · exact ans_x h' 1 3 rfl (by rw [if_pos q1, if_neg q2]) (by rw [if_pos q1, if_neg q2]; rfl)
  · exact ans_x h' 0 2 rfl (by rw [if_neg q1]) (by rw [if_neg q1]; rfl)
end WD
