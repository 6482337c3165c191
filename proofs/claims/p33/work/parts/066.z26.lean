section WA
variable {M V : Int → Int} {T : SX11} {S : SX12} {c : Int}
theorem u_ne {z v k : Int} (h : k ≠ z) : updI M z v k = M k := if_neg h
/-- what a write to one cell far from all others of the invariant leaves standing: the rest by frames -/
theorem K_addWork (h : GG T S) {a b m : Int} (ha : -2147483648 ≤ a) (ha' : a < 2147483648) (hb : -2147483648 ≤ b) (hb' : b < 2147483648) (hm : -2147483648 ≤ m) (hm' : m < 2147483648) : Ans [2, 3] T (DX11_addWork T (iI a) (iI b) (iI m)) (DX12_addWork S (iI a) (iI b) (iI m)) := by
  obtain ⟨M, V, c, h⟩ := h
  have h' := h
  obtain ⟨gm, gv, gc, hz, hMK, hC, hK, hX⟩ := h
  have hMK' := hMK
  obtain ⟨⟨hR, hT, hW, hIn, hTi, hk, hs, hO, hN, hru, hba, hty, hml⟩, hx⟩ := hMK
  obtain ⟨c3, c4, c1, c2, cw, ce, cr, cp, cj, cs, ch, ct, cc⟩ := hC
  have hC : Cp (gX11_now T) M := ⟨c3, c4, c1, c2, cw, ce, cr, cp, cj, cs, ch, ct, cc⟩
  have h5 := hW.1
  have t3 := hT.2.2.2.1
  obtain ⟨K', k1, k2⟩ := C_keep hK hC hMK' hz
  have ec : DX11_addWork T (iI a) (iI b) (iI m) = if 0 ≤ a ∧ a ≤ 9 then if 0 ≤ b ∧ b ≤ 4 then if 1 ≤ m ∧ m ≤ 60 then if M 3 = 0 then if 30 ≤ M 5 then some (Sum.inl 3) else some (Sum.inr (iI (M 5), uX11_now (uX11_records T K') (uX0_works (gX11_now T) (iI (M 5 + 1), upd (gX10_composers (gX0_works (gX11_now T))) (M 5).toNat (iI a), upd (gX10_eras (gX0_works (gX11_now T))) (M 5).toNat (iI b), upd (gX10_lengths (gX0_works (gX11_now T))) (M 5).toNat (iI m))))) else some (Sum.inl 3) else some (Sum.inl 2) else some (Sum.inl 2) else some (Sum.inl 2) := by
    unfold DX11_addWork
    simp only [iI_lit, jn_eq, lt_eq]
    rw [C_between ha ha' (by omega) (by omega) (by omega) (by omega), C_between hb hb' (by omega) (by omega) (by omega) (by omega), C_between hm hm' (by omega) (by omega) (by omega) (by omega), c3, cw.1]
    simp only [Option.bind_some, C_reqA, tx_d, reqS0, reqS1, tx_l, tx_r, k1, ur_now]
    rw [if_eq (by omega) (by omega) (by omega) (by omega), if_le (by omega) (by omega) (by omega) (by omega)]
    by_cases q : 30 ≤ M 5
    · rw [if_pos q, if_pos q]
    · unfold DX10_append
      simp only [iI_lit, lt_eq, cw.1]
      rw [if_neg q, if_neg q, if_lt (by omega) (by omega) (by omega) (by omega), if_pos (show M 5 < 30 by omega), gd_iI (by omega) (by omega) (by omega), gd_iI (by omega) (by omega) (by omega), gd_iI (by omega) (by omega) (by omega), iI_nat (by omega) (by omega)]
      simp only [Option.bind_some, iI_add]
      rfl
  have er : DX12_addWork S (iI a) (iI b) (iI m) = if 0 ≤ a ∧ a ≤ 9 then if 0 ≤ b ∧ b ≤ 4 then if 1 ≤ m ∧ m ≤ 60 then if M 3 = 0 then if M 5 = 30 then some (iI 0, uX12_code S (iI 2)) else some (iI (M 5), uX12_m (kS S M V c (iI 0)) (mI (updI (updI (updI (updI M (12 + 3 * M 5) a) (12 + 3 * M 5 + 1) b) (12 + 3 * M 5 + 2) m) 5 (M 5 + 1)))) else some (iI 0, uX12_code S (iI 2)) else some (iI 0, uX12_code S (iI 1)) else some (iI 0, uX12_code S (iI 1)) else some (iI 0, uX12_code S (iI 1)) := by
    unfold DX12_addWork
    simp only [iI_lit, jn_eq, lt_eq, uc_code, gm]
    rw [R_in ha ha' (by omega) (by omega) (by omega) (by omega), R_in hb hb' (by omega) (by omega) (by omega) (by omega), R_in hm hm' (by omega) (by omega) (by omega) (by omega)]
    simp only [show mI M 3 = iI (M 3) from rfl, show mI M 5 = iI (M 5) from rfl, Option.bind_some, if_bz, decide_eq_true_eq, R_kS h', kS_m, um_m, um_um, gm, iI_mul, iI_add, if_neg (show ¬ iI 1 = iI 0 by decide), if_neg (show ¬ iI 2 = iI 0 by decide), if_pos (show iI 0 = iI 0 from rfl), if_true]
    rw [if_eq (by omega) (by omega) (by omega) (by omega), if_eq (by omega) (by omega) (by omega) (by omega), gd_iI (by omega) (by omega) (by omega), gd_iI (by omega) (by omega) (by omega), gd_iI (by omega) (by omega) (by omega), mI_upd (by omega) (by omega), mI_upd (by omega) (by omega), mI_upd (by omega) (by omega)]
    simp only [show mI (updI (updI (updI M (12 + 3 * M 5) a) (12 + 3 * M 5 + 1) b) (12 + 3 * M 5 + 2) m) 5 = iI (M 5) from congrArg iI (by rw [show ((5 : Nat) : Int) = 5 from rfl, u_ne (by omega), u_ne (by omega), u_ne (by omega)]), iI_add]
    rw [mI_updN 5 _ rfl]
    simp only [show ∀ X : Int → Int, mI (updI X 5 (M 5 + 1)) 5 = iI (M 5 + 1) from fun X => congrArg iI (updI_self X 5 _), iI_sub, show M 5 + 1 - 1 = M 5 by omega]
  rw [ec, er]
  by_cases q1 : 0 ≤ a ∧ a ≤ 9
  · by_cases q2 : 0 ≤ b ∧ b ≤ 4
    · by_cases q3 : 1 ≤ m ∧ m ≤ 60
      · by_cases q4 : M 3 = 0
        · by_cases q5 : M 5 = 30
          · exact ans_x h' 1 3 rfl (by rw [if_pos q1, if_pos q2, if_pos q3, if_pos q4, if_pos (by omega)]) (by rw [if_pos q1, if_pos q2, if_pos q3, if_pos q4, if_pos q5]; rfl)
          · have g : ∀ k : Int, k ≠ 5 → ¬ (12 + 3 * M 5 ≤ k ∧ k ≤ 12 + 3 * M 5 + 2) → updI (updI (updI (updI M (12 + 3 * M 5) a) (12 + 3 * M 5 + 1) b) (12 + 3 * M 5 + 2) m) 5 (M 5 + 1) k = M k := fun k p1 p2 => by rw [u_ne p1, u_ne (by omega), u_ne (by omega), u_ne (by omega)]
            have g5 : updI (updI (updI (updI M (12 + 3 * M 5) a) (12 + 3 * M 5 + 1) b) (12 + 3 * M 5 + 2) m) 5 (M 5 + 1) 5 = M 5 + 1 := updI_self _ _ _
            have ga : updI (updI (updI (updI M (12 + 3 * M 5) a) (12 + 3 * M 5 + 1) b) (12 + 3 * M 5 + 2) m) 5 (M 5 + 1) (12 + 3 * M 5) = a := by rw [u_ne (by omega), u_ne (by omega), u_ne (by omega), updI_self]
            have gb : updI (updI (updI (updI M (12 + 3 * M 5) a) (12 + 3 * M 5 + 1) b) (12 + 3 * M 5 + 2) m) 5 (M 5 + 1) (12 + 3 * M 5 + 1) = b := by rw [u_ne (by omega), u_ne (by omega), updI_self]
            have gd9 : updI (updI (updI (updI M (12 + 3 * M 5) a) (12 + 3 * M 5 + 1) b) (12 + 3 * M 5 + 2) m) 5 (M 5 + 1) (12 + 3 * M 5 + 2) = m := by rw [u_ne (by omega), updI_self]
            have grg : rg (updI (updI (updI (updI M (12 + 3 * M 5) a) (12 + 3 * M 5 + 1) b) (12 + 3 * M 5 + 2) m) 5 (M 5 + 1)) := rg_upd (rg_upd (rg_upd (rg_upd hR ha ha') hb hb') hm hm') (by omega) (by omega)
            have gnz : nz (updI (updI (updI (updI M (12 + 3 * M 5) a) (12 + 3 * M 5 + 1) b) (12 + 3 * M 5 + 2) m) 5 (M 5 + 1)) := nz_upd (nz_upd (nz_upd (nz_upd hz (by omega) (by omega)) (by omega) (by omega)) (by omega) (by omega)) (by omega) (by omega)
            generalize updI (updI (updI (updI M (12 + 3 * M 5) a) (12 + 3 * M 5 + 1) b) (12 + 3 * M 5 + 2) m) 5 (M 5 + 1) = N at *
            have t7 : M 7 ≤ 12 := by have := hT.2.2.2.2.2.1; have := hT.2.2.2.2.2.2.1; omega
            refine ans_v h' (iI (M 5)) k2 (N := N) (C' := uX0_works (gX11_now T) (iI (M 5 + 1), upd (gX10_composers (gX0_works (gX11_now T))) (M 5).toNat (iI a), upd (gX10_eras (gX0_works (gX11_now T))) (M 5).toNat (iI b), upd (gX10_lengths (gX0_works (gX11_now T))) (M 5).toNat (iI m))) gnz ⟨⟨grg, ?_, ?_, in_c (fun k hk => g k (by omega) (by omega)) hIn, ti_c (fun k hk => g k (by omega) (by omega)) hTi, mk_c (fun k hk => g k (by omega) (by omega)) hk, sl_c (fun k hk => g k (by omega) (by omega)) t7 hs, or_c (fun k hk => g k (by omega) (by omega)) t7 hO, np_c (fun k hk => g k (by omega) (by omega)) t7 hN, ru_c (fun k hk => g k (by omega) (by omega)) hru, ba_c (fun k hk => g k (by omega) (by omega)) hba, ty_c (fun k hk => g k (by omega) (by omega)) t7 hty, ml_c (fun k hk => g k (by omega) (by omega)) hml⟩, x_c (fun k hk => g k (by omega) (by omega)) hx⟩ ⟨by rw [g 3 (by omega) (by omega)]; exact c3, by rw [g 4 (by omega) (by omega)]; exact c4, by rw [g 1 (by omega) (by omega)]; exact c1, by rw [g 2 (by omega) (by omega)]; exact c2, ?_, cE_c (fun k hk => g k (by omega) (by omega)) ce, cR_c (fun k hk => g k (by omega) (by omega)) cr, cP_c (fun k hk => g k (by omega) (by omega)) hW cp, cJ_c (fun k hk => g k (by omega) (by omega)) cj, cS_c (fun k hk => g k (by omega) (by omega)) t7 cs, cH_c (fun k hk => g k (by omega) (by omega)) ch, cT_c (fun k hk => g k (by omega) (by omega)) ct, cC_c (fun k hk => g k (by omega) (by omega)) cc⟩ (by rw [if_pos q1, if_pos q2, if_pos q3, if_pos q4, if_neg (by omega)]) (by rw [if_pos q1, if_pos q2, if_pos q3, if_pos q4, if_neg q5])
            · unfold stI
              rw [g 0 (by omega) (by omega), g 1 (by omega) (by omega), g 2 (by omega) (by omega), g 3 (by omega) (by omega), g 4 (by omega) (by omega), g 6 (by omega) (by omega), g 7 (by omega) (by omega), g 8 (by omega) (by omega)]
              exact hT
            · refine ⟨by rw [g5]; omega, fun k p1 p2 => ?_, fun e r p1 p2 p3 p4 => ?_⟩
              · rw [g5] at p2
                by_cases q6 : k = M 5
                · rw [q6, ga, gb, gd9]
                  exact ⟨q1, q2, q3⟩
                · rw [g (12 + 3 * k) (by omega) (by omega), g (12 + 3 * k + 1) (by omega) (by omega), g (12 + 3 * k + 2) (by omega) (by omega)]
                  exact hW.2.1 k p1 (by omega)
              · obtain ⟨p5, p6⟩ := hW.2.2 e r p1 p2 p3 p4
                rw [g5, g (cellZ e r) (by unfold cellZ; omega) (by unfold cellZ; omega)]
                refine ⟨p5, fun k p7 p8 => ?_⟩
                rw [g (cellZ e r + 1 + k) (by unfold cellZ; omega) (by unfold cellZ; omega)]
                have := p6 k p7 p8
                omega
            · refine ⟨by rw [g5]; rfl, fun k p1 p2 => ?_⟩
              rw [g5] at p2
              show upd (gX10_composers (gX0_works (gX11_now T))) (M 5).toNat (iI a) k.toNat = _ ∧ upd (gX10_eras (gX0_works (gX11_now T))) (M 5).toNat (iI b) k.toNat = _ ∧ upd (gX10_lengths (gX0_works (gX11_now T))) (M 5).toNat (iI m) k.toNat = _
              unfold upd
              by_cases q6 : k = M 5
              · rw [q6, ga, gb, gd9, if_pos rfl, if_pos rfl, if_pos rfl]
                exact ⟨rfl, rfl, rfl⟩
              · rw [if_neg (by omega), if_neg (by omega), if_neg (by omega), g (12 + 3 * k) (by omega) (by omega), g (12 + 3 * k + 1) (by omega) (by omega), g (12 + 3 * k + 2) (by omega) (by omega)]
                exact cw.2 k p1 (by omega)
        · exact ans_x h' 1 3 rfl (by rw [if_pos q1, if_pos q2, if_pos q3, if_neg q4]) (by rw [if_pos q1, if_pos q2, if_pos q3, if_neg q4]; rfl)
      · exact ans_x h' 0 2 rfl (by rw [if_pos q1, if_pos q2, if_neg q3]) (by rw [if_pos q1, if_pos q2, if_neg q3]; rfl)
    · exact ans_x h' 0 2 rfl (by rw [if_pos q1, if_neg q2]) (by rw [if_pos q1, if_neg q2]; rfl)
  · exact ans_x h' 0 2 rfl (by rw [if_neg q1]) (by rw [if_neg q1]; rfl)
end WA
