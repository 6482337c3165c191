section LC
variable {M N V X : Int → Int} {S : SX12} {C : SX0} {s : Int → Int} {p : Int} {T : SX11} {c : Int}
theorem C_decR (hC : Cp C M) (hI : MI M) {K' : SX1} (k1 : DX0_judgeRound C = some (uX0_cut C K')) {b : Bool} {C' : SX0} (ha : DX0_applyCut (uX0_closedScores (uX0_cut C K') (upd2 (gX0_closedScores C) (M 4).toNat (gX1_scores K'))) = some (bI b, C')) : DX0_decideRound C = some (bI b, C') := by
  have t4 := hI.2.1.2.2.2.2.1
  have c4 := hC.2.1
  unfold DX0_decideRound
  rw [k1]
  simp only [Option.bind_some, jn_eq, lt_eq, iI_lit]
  rw [show gX0_round (uX0_cut C K') = gX0_round C from rfl, c4, C_between (by omega) (by omega) (by omega) (by omega) (by omega) (by omega)]
  simp only [Option.bind_some, if_bz]
  rw [decide_eq_true (show 0 ≤ M 4 ∧ M 4 ≤ 3 by omega), if_pos rfl, gd_iI (by omega) (by omega) (by omega), iI_nat (by omega) (by omega), show gX0_closedScores (uX0_cut C K') = gX0_closedScores C from rfl, show gX1_scores (gX0_cut (uX0_cut C K')) = gX1_scores K' from rfl, ha]
  simp only [Option.bind_some]
  exact gd_bI
theorem C_decT (hC : Cp C M) (hI : MI M) {K' : SX1} (k1 : DX0_judgeTieRound C = some (uX0_cut C K')) (h10 : M 10 ≠ 3) {b : Bool} {C' : SX0} (ha : DX0_applyCut (uX0_cut C K') = some (bI b, C')) : DX0_decideTieRound C = some (bI b, C') := by
  have ty := hI.2.2.2.2.2.2.2.2.2.2.2.1.2.2.2.2.2.1
  have c10 := hC.2.2.2.2.2.2.2.2.2.2.2.1.1
  unfold DX0_decideTieRound
  rw [k1]
  simp only [Option.bind_some, iI_lit]
  rw [show gX0_tie (uX0_cut C K') = gX0_tie C from rfl, c10, if_le (by omega) (by omega) (by omega) (by omega), if_neg (by omega), ha]
  simp only [Option.bind_some]
  exact gd_bI
theorem C_decT3 (hC : Cp C M) {K' : SX1} (k1 : DX0_judgeTieRound C = some (uX0_cut C K')) (h10 : M 10 = 3) {C1 C' : SX0} (ha : DX0_putOutThoseBelow (uX0_cut C K') = some C1) (hb : DX0_breakTieByStageOrder C1 = some C') : DX0_decideTieRound C = some (bI true, C') := by
  have c10 := hC.2.2.2.2.2.2.2.2.2.2.2.1.1
  unfold DX0_decideTieRound
  rw [k1]
  simp only [Option.bind_some, iI_lit]
  rw [show gX0_tie (uX0_cut C K') = gX0_tie C from rfl, c10, if_le (by omega) (by omega) (by omega) (by omega), if_pos (by omega), ha]
  simp only [Option.bind_some]
  rw [hb]
  rfl
theorem C_clA (hc : DX0_canBeClosed (gX11_now T) = some (bI true)) {K' : SX5} (hk : DX5_keep (gX11_records T) (gX11_now T) = some K') {b : Bool} {C' C2 : SX0} (hd : (gX0_state (gX11_now T) = iI 1 ∧ DX0_decideRound (gX11_now T) = some (bI b, C')) ∨ (gX0_state (gX11_now T) = iI 2 ∧ DX0_decideTieRound (gX11_now T) = some (bI b, C'))) (hg : if b = true then DX0_goOn C' = some C2 else C' = C2) : DX11_close T = some (Sum.inr (gX0_state C2, uX11_now (uX11_records T K') C2)) := by
  have fin : ∀ (b : Bool), (if b = true then DX0_goOn C' = some C2 else C' = C2) → (if b = true then (DX0_goOn C').bind fun x14 => some (Sum.inr (α := Nat) (gX0_state x14, uX11_now (uX11_records T K') x14)) else some (Sum.inr (gX0_state C', uX11_now (uX11_records T K') C'))) = some (Sum.inr (gX0_state C2, uX11_now (uX11_records T K') C2)) := fun b hg => by
    cases b with
    | true => rw [if_pos rfl] at hg ⊢; rw [hg]; rfl
    | false => rw [if_neg (by decide)] at hg ⊢; rw [hg]
  unfold DX11_close
  simp only [lt_eq, jn_eq, iI_lit]
  rw [hc, hk]
  simp only [Option.bind_some]
  rw [show DX11_requireState (bI true) = some (Sum.inr ()) from reqS1, tx_r]
  simp only [ur_now, un_now, un_un]
  rcases hd with ⟨h1, h2⟩ | ⟨h1, h2⟩
  · rw [h1, if_pos rfl, h2]
    simp only [Option.bind_some, if_bz, un_now, un_un]
    exact fin b hg
  · rw [h1, if_neg (by decide), h2]
    simp only [Option.bind_some, if_bz, un_now, un_un]
    exact fin b hg
theorem K_close (h : GG T S) : Ans [3] T (DX11_close T) (DX12_close S) := by
  obtain ⟨M, V, c, h⟩ := h
  have h' := h
  obtain ⟨gm, gv, gc, hz, hMK, hC, hK, hX⟩ := h
  have hMK' := hMK
  have hC' := hC
  obtain ⟨hMI, hx⟩ := hMK
  have hMI' := hMI
  obtain ⟨hR, hT, hW, hIn, hTi, hk, hs, hO, hN, hru, hba, hty, hml⟩ := hMI
  obtain ⟨c3, c4, c1, c2, cw, ce, cr, cp, cj, cs, ch, ct, cc⟩ := hC
  have hT' := hT
  obtain ⟨t0, t1, t2, t3, t4, t6, t7, t8⟩ := hT
  have h5 := hW.1
  have t12 : M 7 ≤ 12 := by omega
  obtain ⟨K', k1, k2⟩ := C_keep hK hC' hMK' hz
  have hcc := C_canBeClosed hC' hMI'
  have hrc := R_isClosable gm hR hT'
  cases hq : isClosableZ M with
  | false =>
    refine ans_x (v := iI 0) h' 0 3 rfl ?_ ?_
    · unfold DX11_close
      rw [hcc, hq]
      simp only [Option.bind_some]
      rw [show DX11_requireState (bI false) = some (Sum.inl 3) from reqS0]
      rfl
    · unfold DX12_close
      simp only [iI_lit, jn_eq, lt_eq]
      rw [hrc, hq]
      simp only [Option.bind_some, if_bz, uc_code, if_neg (show ¬ iI 1 = iI 0 by decide), if_neg (show ¬ iI 2 = iI 0 by decide), if_neg (show ¬ iI 3 = iI 0 by decide), if_pos (show iI 0 = iI 0 from rfl), if_true]
      rfl
  | true =>
    have h3 : M 3 = 1 ∨ M 3 = 2 := by
      have := hq
      unfold isClosableZ at this
      rw [Bool.and_eq_true] at this
      exact of_decide_eq_true this.1
    rw [hq] at hcc hrc
    have er : DX12_close S = (if M 3 = 1 then DX12_close_L71 (iI (M (ruleZ (M 4) 5))) (fun S11 => (if gX12_m S11 3 = iI 1 then (DX12_decide S11 (iI 486) (iI (M (ruleZ (M 4) 5)))).bind fun x15 => (DX12_settle x15 (iI (M (ruleZ (M 4) 5)))).bind fun x17 => some (gX12_m x17 3, x17) else (DX12_decide S11 (iI 570) (iI (M (ruleZ (M 4) 5)))).bind fun x15 => (DX12_settle x15 (iI (M (ruleZ (M 4) 5)))).bind fun x17 => some (gX12_m x17 3, x17))) fu (iI 0) (kS S M V c (iI 0)) else DX12_close_L71 (iI (M 9)) (fun S11 => (if gX12_m S11 3 = iI 1 then (DX12_decide S11 (iI 486) (iI (M 9))).bind fun x15 => (DX12_settle x15 (iI (M 9))).bind fun x17 => some (gX12_m x17 3, x17) else (DX12_decide S11 (iI 570) (iI (M 9))).bind fun x15 => (DX12_settle x15 (iI (M 9))).bind fun x17 => some (gX12_m x17 3, x17))) fu (iI 0) (kS S M V c (iI 0))) := by
      unfold DX12_close
      simp only [iI_lit, jn_eq, lt_eq]
      rw [hrc]
      simp only [Option.bind_some, if_bz, uc_code, R_kS h', kS_m, gm, iI_mul, iI_add, if_neg (show ¬ iI 1 = iI 0 by decide), if_neg (show ¬ iI 2 = iI 0 by decide), if_neg (show ¬ iI 3 = iI 0 by decide), if_pos (show iI 0 = iI 0 from rfl), if_true]
      rw [show mI M 3 = iI (M 3) from rfl, show mI M 4 = iI (M 4) from rfl, show mI M 9 = iI (M 9) from rfl, if_eq (by omega) (by omega) (by omega) (by omega)]
      simp only [iI_mul, iI_add]
      rw [gd_iI (by omega) (by omega) (by omega), mI_at (by omega) (by omega)]
      rfl
    have ty := hty.2.2.2.2.2.1
    by_cases q3 : M 3 = 1
    · -- the round
      have hru' := hru (M 4) (by omega) (by omega)
      obtain ⟨J, j1, j2⟩ := C_judgeRound hC' hMI'
      obtain ⟨xMK, xz⟩ := cls_MK hMK' hz
      have xC := cls_Cp hMK' hC' (K' := J) j2.2.2.2.2.2
      have g : ∀ k : Int, ¬ (666 ≤ k ∧ k < 666 + 4 * M 6) → clsZ M (M 6) k = M k := fun k hk => cls_fr hk
      have sa : sR (clsZ M (M 6)) = sR M := sR_all (fun k a b => g k (by omega)) hT' hO
      have x3 := g 3 (by omega)
      have x10 := g 10 (by omega)
      have m10 := (hty.2.2.1 (by omega)).2
      have hpl : ∀ e : Int, 0 ≤ e → e < 12 → sR M e ≠ -1 → plcZ (clsZ M (M 6)) e ≠ -1 := fun e a b h9 => by
        rw [plc_c (M := M) (N := clsZ M (M 6)) (fun k hk => g k (by omega)) t12]
        exact fun h8 => h9 (if_pos h8)
      have hju : juI (clsZ M (M 6)) 486 := by
        intro e a b h9
        have h8 : plcZ (clsZ M (M 6)) e ≠ -1 := of_decide_eq_true h9
        have i := plc_in xMK.1.2.1 xMK.1.2.2.2.2.2.2.2.1 h8
        have h7 := h8
        rw [plc_c (M := M) (N := clsZ M (M 6)) (fun k hk => g k (by omega)) t12] at h7
        refine ⟨i.2, ?_⟩
        show 0 ≤ scoreZ (clsZ M (M 6)) e
        rw [sc_c (N := clsZ M (M 6)) (M := M) (fun k a b => g k (by omega)) (by omega) t12 a b]
        exact closable_1 hMI' q3 hq a b h7
      obtain ⟨b, C', C2, a1, a2, a3⟩ := C_settle (C := uX0_closedScores (uX0_cut (gX11_now T) J) (upd2 (gX0_closedScores (gX11_now T)) (M 4).toNat (gX1_scores J))) xMK xz xC j2 hru'.1 hru'.2 (sR_b hMI') hpl (by omega)
      have ec := C_clA hcc k1 (Or.inl ⟨by rw [c3, q3], C_decR hC' hMI' j1 a1⟩) a3
      have mk : gX12_m (kS S M V c (iI 0)) = mI M := gm
      obtain ⟨S1, d1, d2, d3, d4⟩ := R_decide (S := uX12_m (kS S M V c (iI 0)) (mI (clsZ M (M 6)))) (M := clsZ M (M 6)) um_m xMK.1 (Or.inl rfl) hju hru'.1 hru'.2
      rw [sV_R, sa] at d3 d4
      obtain ⟨S2, f1, f2, f3⟩ := R_settle (S := S1) (X := clsZ M (M 6)) xMK (d2.1.trans um_m) hru'.1 hru'.2 (sR_b hMI') hpl d3 d4
      obtain ⟨nn, nm⟩ := se_ok xMK xz (by omega) hru'.1 hru'.2 (sR_b hMI') hpl
      refine ans_m h' (iI (seZ (clsZ M (M 6)) (sR M) (M (ruleZ (M 4) 5)) 3)) k2 nn nm a2 (samM_t (samM_t samM_m (samM_s d2)) f2) f3 (by rw [ec, a2.1]) ?_
      rw [er, if_pos q3, R_clsL mk hMI' q3, um_m, show mI (clsZ M (M 6)) 3 = iI 1 from congrArg iI (show clsZ M (M 6) 3 = 1 by omega), if_pos rfl, d1]
      simp only [Option.bind_some]
      rw [f1]
      simp only [Option.bind_some]
      rw [f3]
      rfl
    · -- a tie round
      have q2 : M 3 = 2 := by omega
      have h9 := (hty.2.2.2.1 q2).1
      have h9' := hty.2.2.2.2.1.2
      obtain ⟨J, j1, j2⟩ := C_judgeTie hC' hMI'
      have hpl : ∀ e : Int, 0 ≤ e → e < 12 → sT M e ≠ -1 → plcZ M e ≠ -1 := fun e a b h9 => by
        refine (hty.1 e a b ?_).2
        refine Classical.byContradiction fun h8 => h9 ?_
        unfold sT
        rw [if_neg h8]
      have hju := ju_2 hMI' q2 hq
      have mk : gX12_m (kS S M V c (iI 0)) = mI M := gm
      obtain ⟨S1, d1, d2, d3, d4⟩ := R_decide (S := kS S M V c (iI 0)) (M := M) mk hMI' (Or.inr rfl) hju h9 h9'
      rw [sV_T] at d3 d4
      obtain ⟨S2, f1, f2, f3⟩ := R_settle (S := S1) (X := M) hMK' (d2.1.trans mk) h9 h9' (sT_b hMI') hpl d3 d4
      obtain ⟨nn, nm⟩ := se_ok hMK' hz (by omega) h9 h9' (sT_b hMI') hpl
      have ec : ∃ C2, DX11_close T = some (Sum.inr (gX0_state C2, uX11_now (uX11_records T K') C2)) ∧ Cp C2 (seZ M (sT M) (M 9)) := by
        by_cases q10 : M 10 = 3
        · obtain ⟨C1, C', C2, a1, a2, a3, a4⟩ := C_settle3 (C := uX0_cut (gX11_now T) J) hMK' hz (Cp_cut hC' J) j2 h9 h9' (sT_b hMI') hpl q10
          exact ⟨C2, C_clA (b := true) hcc k1 (Or.inr ⟨by rw [c3, q2], C_decT3 hC' j1 q10 a1 a2⟩) (by rw [if_pos rfl]; exact a4), a3⟩
        · obtain ⟨b, C', C2, a1, a2, a3⟩ := C_settle (C := uX0_cut (gX11_now T) J) hMK' hz (Cp_cut hC' J) j2 h9 h9' (sT_b hMI') hpl q10
          exact ⟨C2, C_clA hcc k1 (Or.inr ⟨by rw [c3, q2], C_decT hC' hMI' j1 q10 a1⟩) a3, a2⟩
      obtain ⟨C2, ec, a2⟩ := ec
      refine ans_m h' (iI (seZ M (sT M) (M 9) 3)) k2 nn nm a2 (samM_t (samM_s d2) f2) f3 (by rw [ec, a2.1]) ?_
      rw [er, if_neg q3, R_clsT mk q2, mk, show mI M 3 = iI 2 from congrArg iI q2, if_neg (by decide), d1]
      simp only [Option.bind_some]
      rw [f1]
      simp only [Option.bind_some]
      rw [f3]
      rfl
end LC
