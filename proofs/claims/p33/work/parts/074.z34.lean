section WE
variable {M N V : Int → Int} {T : SX11} {S : SX12} {C : SX0} {c : Int}
theorem C_put6 {H : SX6} {j e v : Int} (hj : 0 ≤ j) (hj' : j < 7) (he : 0 ≤ e) (he' : e < 12) : DX6_put H (iI j) (iI e) (iI v) = some (uX6_rows H (upd2 (gX6_rows H) j.toNat (upd (gX6_rows H j.toNat) e.toNat (iI v)))) := by
  unfold DX6_put
  simp only [iI_lit, jn_eq, lt_eq]
  rw [if_lt (by omega) (by omega) (by omega) (by omega), if_neg (by omega), if_le (by omega) (by omega) (by omega) (by omega), if_neg (by omega), if_lt (by omega) (by omega) (by omega) (by omega), if_neg (by omega), if_le (by omega) (by omega) (by omega) (by omega), if_neg (by omega), gd_iI (by omega) (by omega) (by omega), gd_iI (by omega) (by omega) (by omega), iI_nat (by omega) (by omega), iI_nat (by omega) (by omega)]
/-- the row of marks that is open -/
def opZ (M : Int → Int) : Int := if M 3 = 2 then 570 else 486
theorem opZ_b (M : Int → Int) : opZ M = 570 ∨ opZ M = 486 := by unfold opZ; split <;> omega
/-- the class once a mark is entered -/
def enC (C : SX0) (M : Int → Int) (j e v : Int) : SX0 := if M 3 = 2 then uX0_tie C (uX9_sheet (gX0_tie C) (uX6_rows (gX9_sheet (gX0_tie C)) (upd2 (gX6_rows (gX9_sheet (gX0_tie C))) j.toNat (upd (gX6_rows (gX9_sheet (gX0_tie C)) j.toNat) e.toNat (iI v))))) else uX0_sheet C (uX6_rows (gX0_sheet C) (upd2 (gX6_rows (gX0_sheet C)) j.toNat (upd (gX6_rows (gX0_sheet C) j.toNat) e.toNat (iI v))))
theorem may_st {j e : Int} (h : mayMarkZ M j e = true) : (M 3 = 1 ∧ hpZ M e = true ∨ M 3 = 2 ∧ M (654 + e) = 1) ∧ isBarredZ M j e = false := by
  unfold mayMarkZ at h
  simp only [Bool.and_eq_true, Bool.or_eq_true, decide_eq_true_eq, Bool.not_eq_true'] at h
  exact h
theorem G_enter (h : Gc T S M V c) {K' : SX5} {j e v : Int} (hj : 0 ≤ j) (hj' : j < 7) (he : 0 ≤ e) (he' : e < 12) (hv : -2 ≤ v) (hv' : v ≤ 100) (hm : mayMarkZ M j e = true) : nz (updI M (opZ M + (12 * j + e)) v) ∧ MK (updI M (opZ M + (12 * j + e)) v) ∧ Cp (enC (gX11_now T) M j e v) (updI M (opZ M + (12 * j + e)) v) := by
  obtain ⟨gm, gv, gc, hz, hMK, hC, hK, hX⟩ := h
  obtain ⟨hMI, hx⟩ := hMK
  obtain ⟨hR, hT, hW, hIn, hTi, hk, hs, hO, hN, hru, hba, hty, hml⟩ := hMI
  obtain ⟨c3, c4, c1, c2, cw, ce, cr, cp, cj, cs, ch, ct, cc⟩ := hC
  have hT' := hT
  obtain ⟨t0, t1, t2, t3, t4, t6, t7, t8⟩ := hT
  have h5 := hW.1
  have t12 : M 7 ≤ 12 := by omega
  have hst := (may_st hm).1
  have ob := opZ_b M
  have g : ∀ k : Int, ¬ (k = opZ M + (12 * j + e)) → updI M (opZ M + (12 * j + e)) v k = M k := fun k p => u_ne p
  have gi : updI M (opZ M + (12 * j + e)) v (opZ M + (12 * j + e)) = v := updI_self _ _ _
  have grg : rg (updI M (opZ M + (12 * j + e)) v) := rg_upd hR (by omega) (by omega)
  have gnz : nz (updI M (opZ M + (12 * j + e)) v) := nz_upd hz (by omega) (by omega)
  have o2 : M 3 = 2 → opZ M = 570 := fun h => if_pos h
  have o1 : M 3 ≠ 2 → opZ M = 486 := fun h => if_neg h
  generalize updI M (opZ M + (12 * j + e)) v = N at *
  have gh : ∀ e : Int, hpZ N e = hpZ M e := fun e => hp_c (fun k hk => g k (by omega)) t12 e
  have gv9 : ∀ k : Int, N k = M k ∨ (k = opZ M + (12 * j + e) ∧ N k = v) := fun k => by
    by_cases q : k = opZ M + (12 * j + e)
    · right; exact ⟨q, by rw [q]; exact gi⟩
    · left; exact g k q
  refine ⟨gnz, ⟨⟨grg, (st_c (fun k _ _ => g k (by omega)) hT'), (wk_c (fun k hk => g k (by omega)) hW), (in_c (fun k hk => g k (by omega)) hIn), (ti_c (fun k hk => g k (by omega)) hTi), ?_, (sl_c (fun k hk => g k (by omega)) t12 hs), (or_c (fun k hk => g k (by omega)) t12 hO), ?_, (ru_c (fun k hk => g k (by omega)) hru), (ba_c (fun k hk => g k (by omega)) hba), ?_, ?_⟩, (x_c (fun k hk => g k (by omega)) hx)⟩, ?_⟩
  · intro j1 e1 a b d f
    have h1 := hk j1 e1 a b d f
    have h2 := gv9 (486 + (12 * j1 + e1))
    have h3 := gv9 (570 + (12 * j1 + e1))
    omega
  · intro j1 e1 a b d f d9
    rw [gh] at d9
    have h2 := hN j1 e1 a b d f d9
    rw [g _ ?_]
    · exact h2
    · intro q
      rcases hst with ⟨q1, q2⟩ | ⟨q1, q2⟩
      · rw [o1 (by omega)] at q
        have : e1 = e := by omega
        rw [this, q2] at d9
        cases d9
      · rw [o2 q1] at q
        omega
  · obtain ⟨y1, y2, y3, y4, y5, y6, y8, y9⟩ := hty
    unfold tyI
    rw [g 3 (by omega), g 7 (by omega), g 9 (by omega), g 10 (by omega), g 11 (by omega)]
    refine ⟨fun e1 a b d => ?_, fun j1 e1 a b d f d9 => ?_, y3, y4, y5, y6, y8, y9⟩
    · rw [g _ (by omega)] at d
      rw [plc_c (fun k hk => g k (by omega)) t12]
      exact y1 e1 a b d
    · rw [g _ (by omega)] at d9
      rw [g _ ?_]
      · exact y2 j1 e1 a b d f d9
      · intro q
        rcases hst with ⟨q1, q2⟩ | ⟨q1, q2⟩
        · rw [o1 (by omega)] at q
          omega
        · rw [o2 q1] at q
          have : e1 = e := by omega
          rw [this] at d9
          exact d9 q2
  · intro j1 e1 a b d f
    have h1 := hml j1 e1 a b d f
    have h2 := gv9 (486 + (12 * j1 + e1))
    have h3 := gv9 (570 + (12 * j1 + e1))
    omega
  · unfold enC
    by_cases q : M 3 = 2
    · rw [if_pos q]
      rw [o2 q] at g gi
      refine ⟨(by rw [g 3 (by omega)]; exact c3), (by rw [g 4 (by omega)]; exact c4), (by rw [g 1 (by omega)]; exact c1), (by rw [g 2 (by omega)]; exact c2), (cW_c (fun k hk => g k (by omega)) h5.2 cw), (cE_c (fun k hk => g k (by omega)) ce), (cR_c (fun k hk => g k (by omega)) cr), (cP_c (fun k hk => g k (by omega)) hW cp), (cJ_c (fun k hk => g k (by omega)) cj), (cS_c (fun k hk => g k (by omega)) t12 cs), (cH_c (fun k hk => g k (by omega)) ch), ?_, (cC_c (fun k hk => g k (by omega)) cc)⟩
      obtain ⟨u1, u2, u3, u4⟩ := ct
      refine ⟨by rw [g 10 (by omega)]; exact u1, by rw [g 9 (by omega)]; exact u2, fun e1 a b => by rw [g _ (by omega)]; exact u3 e1 a b, fun j1 e1 a b d f => ?_⟩
      show upd2 (gX6_rows (gX9_sheet (gX0_tie (gX11_now T)))) j.toNat (upd (gX6_rows (gX9_sheet (gX0_tie (gX11_now T))) j.toNat) e.toNat (iI v)) j1.toNat e1.toNat = _
      unfold upd2 upd
      by_cases q1 : j1 = j
      · rw [if_pos (by omega)]
        by_cases q2 : e1 = e
        · rw [if_pos (by omega), q1, q2, gi]
        · rw [if_neg (by omega), q1, g _ (by omega)]; exact u4 j e1 hj hj' d f
      · rw [if_neg (by omega), g _ (by omega)]; exact u4 j1 e1 a b d f
    · rw [if_neg q]
      rw [o1 q] at g gi
      refine ⟨(by rw [g 3 (by omega)]; exact c3), (by rw [g 4 (by omega)]; exact c4), (by rw [g 1 (by omega)]; exact c1), (by rw [g 2 (by omega)]; exact c2), (cW_c (fun k hk => g k (by omega)) h5.2 cw), (cE_c (fun k hk => g k (by omega)) ce), (cR_c (fun k hk => g k (by omega)) cr), (cP_c (fun k hk => g k (by omega)) hW cp), (cJ_c (fun k hk => g k (by omega)) cj), (cS_c (fun k hk => g k (by omega)) t12 cs), ?_, (cT_c (fun k hk => g k (by omega)) ct), (cC_c (fun k hk => g k (by omega)) cc)⟩
      intro j1 e1 a b d f
      show upd2 (gX6_rows (gX0_sheet (gX11_now T))) j.toNat (upd (gX6_rows (gX0_sheet (gX11_now T)) j.toNat) e.toNat (iI v)) j1.toNat e1.toNat = _
      unfold upd2 upd
      by_cases q1 : j1 = j
      · rw [if_pos (by omega)]
        by_cases q2 : e1 = e
        · rw [if_pos (by omega), q1, q2, gi]
        · rw [if_neg (by omega), q1, g _ (by omega)]; exact ch j e1 hj hj' d f
      · rw [if_neg (by omega), g _ (by omega)]; exact ch j1 e1 a b d f
theorem C_enter (h : Gc T S M V c) {K' : SX5} (k1 : DX5_keep (gX11_records T) (gX11_now T) = some K') {j e v : Int} (hj : 0 ≤ j) (hj' : j < 7) (he : 0 ≤ e) (he' : e < 12) (hv : -2 ≤ v) (hv' : v ≤ 100) : DX11_enter T (iI j) (iI e) (iI v) = if mayMarkZ M j e = true then some (Sum.inr (iI (countingZ (updI M (opZ M + (12 * j + e)) v) (opZ M) e), uX11_now (uX11_records T K') (enC (gX11_now T) M j e v))) else some (Sum.inl 3) := by
  have h' := h
  obtain ⟨gm, gv, gc, hz, hMK, hC, hK, hX⟩ := h
  have hC' := hC
  obtain ⟨hMI, hx⟩ := hMK
  have hMI' := hMI
  obtain ⟨hR, hT, hW, hIn, hTi, hk, hs, hO, hN, hru, hba, hty, hml⟩ := hMI
  obtain ⟨c3, c4, c1, c2, cw, ce, cr, cp, cj, cs, ch, ct, cc⟩ := hC
  have t3 := hT.2.2.2.1
  unfold DX11_enter
  rw [C_canBeMarked hC' hMI' he he', C_isBarred cj hR hj hj' he he']
  simp only [iI_lit, jn_eq, lt_eq, Option.bind_some, if_bz, reqS0, reqS1, tx_l, tx_r, k1, ur_now]
  have em : mayMarkZ M j e = (((decide (M 3 = 1) && hpZ M e) || (decide (M 3 = 2) && decide (M (654 + e) = 1))) && !isBarredZ M j e) := rfl
  by_cases qm : mayMarkZ M j e = true
  · have gE := G_enter h' (K' := K') hj hj' he he' hv hv' qm
    rw [if_pos qm]
    have hst := may_st qm
    have q1 : ((decide (M 3 = 1) && hpZ M e) || (decide (M 3 = 2) && decide (M (654 + e) = 1))) = true := by
      rw [em] at qm
      exact (Bool.and_eq_true _ _ ▸ qm).1
    rw [if_pos q1, hst.2, if_neg (show ¬ false = true by decide), c3, if_eq (by omega) (by omega) (by omega) (by omega), C_put6 hj hj' he he', C_put6 hj hj' he he']
    simp only [Option.bind_some]
    have fin : DX0_countedMarks (enC (gX11_now T) M j e v) (iI e) = some (iI (countingZ (updI M (opZ M + (12 * j + e)) v) (opZ M) e)) := by
      have ob := opZ_b M
      rw [C_countedMarks gE.2.2 gE.2.1.1 he he', show updI M (opZ M + (12 * j + e)) v 3 = M 3 from u_ne (by omega)]
      rfl
    unfold enC at fin
    unfold enC
    by_cases q : M 3 = 2
    · rw [if_pos q]
      rw [if_pos q] at fin
      rw [if_pos q]
      show (DX0_countedMarks (uX0_tie (gX11_now T) (uX9_sheet (gX0_tie (gX11_now T)) _)) (iI e)).bind _ = _
      rw [fin]
      rfl
    · rw [if_neg q]
      rw [if_neg q] at fin
      rw [if_neg q]
      show (DX0_countedMarks (uX0_sheet (gX11_now T) _) (iI e)).bind _ = _
      rw [fin]
      rfl
  · rw [if_neg qm]
    rw [em] at qm
    by_cases q1 : ((decide (M 3 = 1) && hpZ M e) || (decide (M 3 = 2) && decide (M (654 + e) = 1))) = true
    · rw [if_pos q1]
      rw [q1, Bool.true_and] at qm
      rw [if_pos (by revert qm; cases isBarredZ M j e <;> decide)]
    · rw [if_neg q1]
theorem R_marks (h : Gc T S M V c) {j e v : Int} (hj : 0 ≤ j) (hj' : j < 7) (he : 0 ≤ e) (he' : e < 12) (hv : -2 ≤ v) (hv' : v ≤ 100) (hm : mayMarkZ M j e = true) : DX12_marks (uX12_code S (iI 0)) (iI j) (iI e) (iI v) = some (iI (countingZ (updI M (opZ M + (12 * j + e)) v) (opZ M) e), uX12_m (kS S M V c (iI 0)) (mI (updI M (opZ M + (12 * j + e)) v))) := by
  have h' := h
  have gE := G_enter h' (K' := gX11_records T) hj hj' he he' hv hv' hm
  obtain ⟨gm, gv, gc, hz, hMK, hC, hK, hX⟩ := h
  have hst := (may_st hm).1
  have ob := opZ_b M
  have t3 := hMK.1.2.1.2.2.2.1
  have t0 := hMK.1.2.1.1
  have hcnt := R_counting (S := uX12_m (kS S M V c (iI 0)) (mI (updI M (opZ M + (12 * j + e)) v))) (M := updI M (opZ M + (12 * j + e)) v) (row := opZ M) (e := e) um_m gE.2.1.1.1 (by rw [u_ne (by omega)]; omega) (by rw [u_ne (by omega)]; omega) (by omega) (by omega) he he'
  unfold DX12_marks
  rw [R_kS h']
  simp only [Option.bind_some, iI_lit, jn_eq, lt_eq, kS_m, gm, R_seat, iI_add, show mI M 3 = iI (M 3) from rfl]
  rw [if_eq (by omega) (by omega) (by omega) (by omega)]
  have e1 : opZ M = if M 3 = 1 then 486 else 570 := by unfold opZ; split <;> split <;> omega
  by_cases q : M 3 = 1
  · rw [if_pos q] at e1 ⊢
    rw [gd_iI (by omega) (by omega) (by omega), mI_upd (by omega) (by omega), ← e1, hcnt]
    rfl
  · rw [if_neg q] at e1 ⊢
    rw [gd_iI (by omega) (by omega) (by omega), mI_upd (by omega) (by omega), ← e1, hcnt]
    rfl
theorem K_mark (h : GG T S) {j e v : Int} (hj : -2147483648 ≤ j) (hj' : j < 2147483648) (he : -2147483648 ≤ e) (he' : e < 2147483648) (hv : -2147483648 ≤ v) (hv' : v < 2147483648) : Ans [1, 2, 3] T (DX11_mark T (iI j) (iI e) (iI v)) (DX12_mark S (iI j) (iI e) (iI v)) := by
  obtain ⟨M, V, c, h⟩ := h
  have h' := h
  obtain ⟨gm, gv, gc, hz, hMK, hC, hK, hX⟩ := h
  have hMK' := hMK
  have hC' := hC
  obtain ⟨hMI, hx⟩ := hMK
  have hMI' := hMI
  obtain ⟨hR, hT, hW, hIn, hTi, hk, hs, hO, hN, hru, hba, hty, hml⟩ := hMI
  obtain ⟨c3, c4, c1, c2, cw, ce, cr, cp, cj, cs, ch, ct, cc⟩ := hC
  have hT' := hT
  obtain ⟨t0, t1, t2, t3, t4, t6, t7, t8⟩ := hT
  have h5 := hW.1
  have t12 : M 7 ≤ 12 := by omega
  obtain ⟨K', k1, k2⟩ := C_keep hK hC' hMK' hz
  obtain ⟨mo, hmo⟩ : ∃ mo : Int, mo = if M 3 = 2 then 10 else 100 := ⟨_, rfl⟩
  have mob : mo ≤ 100 ∧ 10 ≤ mo := by rw [hmo]; split <;> omega
  have ec : DX11_mark T (iI j) (iI e) (iI v) = if (0 ≤ j ∧ j < M 0) ∧ (0 ≤ e ∧ e < M 6) then if 0 ≤ v ∧ v ≤ mo then if mayMarkZ M j e = true then some (Sum.inr (iI (countingZ (updI M (opZ M + (12 * j + e)) v) (opZ M) e), uX11_now (uX11_records T K') (enC (gX11_now T) M j e v))) else some (Sum.inl 3) else some (Sum.inl 2) else some (Sum.inl 1) := by
    unfold DX11_mark
    rw [C_reqJE hC' hMI' hj hj' he he', tx_p, c3]
    simp only [iI_lit, jn_eq]
    rw [if_eq (by omega) (by omega) (by omega) (by omega)]
    by_cases q : (0 ≤ j ∧ j < M 0) ∧ (0 ≤ e ∧ e < M 6)
    · rw [if_pos q, if_pos q]
      have core : ((DX11_isBetween (iI v) (iI 0) (iI mo)).bind fun x5 => tx (DX11_requireArgument x5) (fun x7 => tx (DX11_enter T (iI j) (iI e) (iI v)) (fun x9 => some (Sum.inr (x9.1, x9.2))))) = if 0 ≤ v ∧ v ≤ mo then if mayMarkZ M j e = true then some (Sum.inr (iI (countingZ (updI M (opZ M + (12 * j + e)) v) (opZ M) e), uX11_now (uX11_records T K') (enC (gX11_now T) M j e v))) else some (Sum.inl 3) else some (Sum.inl 2) := by
        rw [C_between hv hv' (by omega) (by omega) (by omega) (by omega)]
        simp only [Option.bind_some, C_reqA, tx_d]
        by_cases q1 : 0 ≤ v ∧ v ≤ mo
        · rw [if_pos q1, if_pos q1, C_enter h' k1 (by omega) (by omega) (by omega) (by omega) (by omega) (by omega)]
          by_cases q2 : mayMarkZ M j e = true
          · rw [if_pos q2]; rfl
          · rw [if_neg q2]; rfl
        · rw [if_neg q1, if_neg q1]
      by_cases q3 : M 3 = 2
      · rw [if_pos q3] at hmo ⊢
        rw [hmo] at core ⊢
        exact core
      · rw [if_neg q3] at hmo ⊢
        rw [hmo] at core ⊢
        exact core
    · rw [if_neg q, if_neg q]
  have er : DX12_mark S (iI j) (iI e) (iI v) = if (0 ≤ j ∧ j < M 0) ∧ (0 ≤ e ∧ e < M 6) then if 0 ≤ v ∧ v ≤ mo then if mayMarkZ M j e = true then some (iI (countingZ (updI M (opZ M + (12 * j + e)) v) (opZ M) e), uX12_m (kS S M V c (iI 0)) (mI (updI M (opZ M + (12 * j + e)) v))) else some (iI 0, uX12_code S (iI 3)) else some (iI 0, uX12_code S (iI 2)) else some (iI 0, uX12_code S (iI 1)) := by
    unfold DX12_mark
    simp only [iI_lit, jn_eq, lt_eq, uc_code, gm]
    rw [R_isJuror gm hT' hj hj', R_isEntrant gm hT' he he']
    simp only [show mI M 3 = iI (M 3) from rfl, Option.bind_some, if_bz, decide_eq_true_eq, if_neg (show ¬ iI 1 = iI 0 by decide), if_neg (show ¬ iI 2 = iI 0 by decide), if_neg (show ¬ iI 3 = iI 0 by decide), if_pos (show iI 0 = iI 0 from rfl), if_true]
    rw [if_eq (by omega) (by omega) (by omega) (by omega)]
    by_cases q : (0 ≤ j ∧ j < M 0) ∧ (0 ≤ e ∧ e < M 6)
    · rw [if_pos q.1, if_pos q.2, if_pos q.1, if_pos q.2, if_pos q, R_in hv hv' (by omega) (by omega) (by omega) (by omega), R_in hv hv' (by omega) (by omega) (by omega) (by omega), R_mayMark gm hR hT' (by omega) (by omega) (by omega) (by omega)]
      simp only [Option.bind_some, if_bz, decide_eq_true_eq]
      have fin : (if 0 ≤ v ∧ v ≤ mo then if mayMarkZ M j e = true then (DX12_marks (uX12_code S (iI 0)) (iI j) (iI e) (iI v)).bind fun x12 => some (x12.1, x12.2) else some (iI 0, uX12_code S (iI 3)) else some (iI 0, uX12_code S (iI 2))) = if 0 ≤ v ∧ v ≤ mo then if mayMarkZ M j e = true then some (iI (countingZ (updI M (opZ M + (12 * j + e)) v) (opZ M) e), uX12_m (kS S M V c (iI 0)) (mI (updI M (opZ M + (12 * j + e)) v))) else some (iI 0, uX12_code S (iI 3)) else some (iI 0, uX12_code S (iI 2)) := by
        by_cases q1 : 0 ≤ v ∧ v ≤ mo
        · rw [if_pos q1, if_pos q1]
          by_cases q2 : mayMarkZ M j e = true
          · rw [if_pos q2, if_pos q2, R_marks h' (by omega) (by omega) (by omega) (by omega) (by omega) (by omega) q2]
            rfl
          · rw [if_neg q2, if_neg q2]
        · rw [if_neg q1, if_neg q1]
      rw [← fin]
      by_cases q3 : M 3 = 2
      · rw [if_pos q3] at hmo
        rw [if_pos q3, hmo]
      · rw [if_neg q3] at hmo
        rw [if_neg q3, hmo]
    · rw [if_neg q]
      by_cases q1 : 0 ≤ j ∧ j < M 0
      · have q2 : ¬ (0 ≤ e ∧ e < M 6) := fun h => q ⟨q1, h⟩
        rw [if_pos q1, if_neg q2, if_pos q1, if_neg q2]
        split <;> rfl
      · rw [if_neg q1, if_neg q1]
        split <;> rfl
  rw [ec, er]
  by_cases q : (0 ≤ j ∧ j < M 0) ∧ (0 ≤ e ∧ e < M 6)
  · by_cases q1 : 0 ≤ v ∧ v ≤ mo
    · by_cases q2 : mayMarkZ M j e = true
      · have gE := G_enter h' (K' := K') (j := j) (e := e) (v := v) (by omega) (by omega) (by omega) (by omega) (by omega) (by omega) q2
        exact ans_v h' _ k2 gE.1 gE.2.1 gE.2.2 (by rw [if_pos q, if_pos q1, if_pos q2]) (by rw [if_pos q, if_pos q1, if_pos q2])
      · exact ans_x h' 2 3 rfl (by rw [if_pos q, if_pos q1, if_neg q2]) (by rw [if_pos q, if_pos q1, if_neg q2]; rfl)
    · exact ans_x h' 1 2 rfl (by rw [if_pos q, if_neg q1]) (by rw [if_pos q, if_neg q1]; rfl)
  · exact ans_x h' 0 1 rfl (by rw [if_neg q]) (by rw [if_neg q]; rfl)
theorem K_abstain (h : GG T S) {j e : Int} (hj : -2147483648 ≤ j) (hj' : j < 2147483648) (he : -2147483648 ≤ e) (he' : e < 2147483648) : Ans [1, 3] T (DX11_abstain T (iI j) (iI e)) (DX12_abstain S (iI j) (iI e)) := by
  obtain ⟨M, V, c, h⟩ := h
  have h' := h
  obtain ⟨gm, gv, gc, hz, hMK, hC, hK, hX⟩ := h
  have hMK' := hMK
  have hC' := hC
  obtain ⟨hMI, hx⟩ := hMK
  have hMI' := hMI
  obtain ⟨hR, hT, hW, hIn, hTi, hk, hs, hO, hN, hru, hba, hty, hml⟩ := hMI
  obtain ⟨c3, c4, c1, c2, cw, ce, cr, cp, cj, cs, ch, ct, cc⟩ := hC
  have hT' := hT
  obtain ⟨t0, t1, t2, t3, t4, t6, t7, t8⟩ := hT
  have h5 := hW.1
  have t12 : M 7 ≤ 12 := by omega
  obtain ⟨K', k1, k2⟩ := C_keep hK hC' hMK' hz
  have ec : DX11_abstain T (iI j) (iI e) = if (0 ≤ j ∧ j < M 0) ∧ (0 ≤ e ∧ e < M 6) then if mayMarkZ M j e = true then some (Sum.inr (iI (countingZ (updI M (opZ M + (12 * j + e)) (-2)) (opZ M) e), uX11_now (uX11_records T K') (enC (gX11_now T) M j e (-2)))) else some (Sum.inl 3) else some (Sum.inl 1) := by
    unfold DX11_abstain
    rw [C_reqJE hC' hMI' hj hj' he he', tx_p]
    simp only [iI_lit, iI_neg]
    by_cases q : (0 ≤ j ∧ j < M 0) ∧ (0 ≤ e ∧ e < M 6)
    · rw [if_pos q, if_pos q, C_enter h' k1 (by omega) (by omega) (by omega) (by omega) (by omega) (by omega)]
      by_cases q2 : mayMarkZ M j e = true
      · rw [if_pos q2]; rfl
      · rw [if_neg q2]; rfl
    · rw [if_neg q, if_neg q]
  have er : DX12_abstain S (iI j) (iI e) = if (0 ≤ j ∧ j < M 0) ∧ (0 ≤ e ∧ e < M 6) then if mayMarkZ M j e = true then some (iI (countingZ (updI M (opZ M + (12 * j + e)) (-2)) (opZ M) e), uX12_m (kS S M V c (iI 0)) (mI (updI M (opZ M + (12 * j + e)) (-2)))) else some (iI 0, uX12_code S (iI 2)) else some (iI 0, uX12_code S (iI 1)) := by
    unfold DX12_abstain
    simp only [iI_lit, iI_neg, jn_eq, lt_eq, uc_code]
    rw [R_isJuror gm hT' hj hj', R_isEntrant gm hT' he he']
    simp only [Option.bind_some, if_bz, decide_eq_true_eq, if_neg (show ¬ iI 1 = iI 0 by decide), if_neg (show ¬ iI 2 = iI 0 by decide), if_neg (show ¬ iI 3 = iI 0 by decide), if_pos (show iI 0 = iI 0 from rfl), if_true]
    by_cases q : (0 ≤ j ∧ j < M 0) ∧ (0 ≤ e ∧ e < M 6)
    · rw [if_pos q.1, if_pos q.2, if_pos q, R_mayMark gm hR hT' (by omega) (by omega) (by omega) (by omega)]
      simp only [Option.bind_some, if_bz]
      by_cases q2 : mayMarkZ M j e = true
      · rw [if_pos q2, if_pos q2, R_marks h' (by omega) (by omega) (by omega) (by omega) (by omega) (by omega) q2]
        rfl
      · rw [if_neg q2, if_neg q2]
    · rw [if_neg q]
      by_cases q1 : 0 ≤ j ∧ j < M 0
      · rw [if_pos q1, if_neg (fun h => q ⟨q1, h⟩)]
      · rw [if_neg q1]
  rw [ec, er]
  by_cases q : (0 ≤ j ∧ j < M 0) ∧ (0 ≤ e ∧ e < M 6)
  · by_cases q2 : mayMarkZ M j e = true
    · have gE := G_enter h' (K' := K') (j := j) (e := e) (v := -2) (by omega) (by omega) (by omega) (by omega) (by omega) (by omega) q2
      exact ans_v h' _ k2 gE.1 gE.2.1 gE.2.2 (by rw [if_pos q, if_pos q2]) (by rw [if_pos q, if_pos q2])
    · exact ans_x h' 1 3 rfl (by rw [if_pos q, if_neg q2]) (by rw [if_pos q, if_neg q2]; rfl)
  · exact ans_x h' 0 1 rfl (by rw [if_neg q]) (by rw [if_neg q]; rfl)
end WE
