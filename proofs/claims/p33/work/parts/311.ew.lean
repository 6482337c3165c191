/-! what each call of the class does, told outright: its answer, and the cells behind it -/
/-- the class's state says what the cells M, the records V (c of them) and a text of L characters say -/
def AS (T : SX11) (M V : Int → Int) (c L : Int) : Prop := ∃ S, Gc T S M V c ∧ gX12_textLength S = iI L ∧ (0 ≤ L ∧ L ≤ 40)
def EW (M V : Int → Int) (c L : Int) (r : Option (Nat ⊕ (Int32 × SX11))) (o : Nat ⊕ (Int32 × (Int → Int))) : Prop := match o with
  | .inl n => r = some (Sum.inl n)
  | .inr (v, N) => ∃ T', r = some (Sum.inr (v, T')) ∧ AS T' N (keepV V M c) (keepC c) L
section EW1
variable {M N V : Int → Int} {T : SX11} {S : SX12} {C : SX0} {c L : Int}
theorem EW_x {r : Option (Nat ⊕ (Int32 × SX11))} {o : Nat ⊕ (Int32 × (Int → Int))} {n : Nat} (h1 : r = some (Sum.inl n)) (ho : o = Sum.inl n) : EW M V c L r o := by
  subst ho
  exact h1
theorem G_L (h : Gc T S M V c) (hL : gX12_textLength S = iI L) (hb : -2147483648 ≤ L ∧ L < 2147483648) : 0 ≤ L ∧ L ≤ 40 := by
  obtain ⟨gm, gv, gc, hz, hMK, hC, hK, L2, Tx, x1, x2, x3, x4⟩ := h
  have e : iI L = iI L2 := hL.symm.trans x2
  rw [iI_eq hb.1 hb.2 (by omega) (by omega)] at e
  omega
theorem EW_v {r : Option (Nat ⊕ (Int32 × SX11))} {o : Nat ⊕ (Int32 × (Int → Int))} (h : Gc T S M V c) (hL : gX12_textLength S = iI L ∧ (0 ≤ L ∧ L ≤ 40)) (v : Int32) {K' : SX5} (hK : Recs K' (keepV V M c) (keepC c)) {C' : SX0} (hz : nz N) (hM : MK N) (hC : Cp C' N) (h1 : r = some (Sum.inr (v, uX11_now (uX11_records T K') C'))) (ho : o = Sum.inr (v, N)) : EW M V c L r o := by
  subst ho
  exact ⟨_, h1, uX12_m (kS S M V c (iI 0)) (mI N), G_new h hK hz hM hC _, hL⟩
theorem F_addWork (h : Gc T S M V c) (hL : gX12_textLength S = iI L ∧ (0 ≤ L ∧ L ≤ 40)) {a b m : Int} (ha : -2147483648 ≤ a) (ha' : a < 2147483648) (hb : -2147483648 ≤ b) (hb' : b < 2147483648) (hm : -2147483648 ≤ m) (hm' : m < 2147483648) : EW M V c L (DX11_addWork T (iI a) (iI b) (iI m)) (if 0 ≤ a ∧ a ≤ 9 then if 0 ≤ b ∧ b ≤ 4 then if 1 ≤ m ∧ m ≤ 60 then if M 3 = 0 then if M 5 = 30 then Sum.inl 3 else Sum.inr (iI (M 5), (updI (updI (updI (updI M (12 + 3 * M 5) a) (12 + 3 * M 5 + 1) b) (12 + 3 * M 5 + 2) m) 5 (M 5 + 1))) else Sum.inl 3 else Sum.inl 2 else Sum.inl 2 else Sum.inl 2) := by
  have h' := h
  obtain ⟨gm, gv, gc, hz, hMK, hC, hK, hX⟩ := h
  have hMK' := hMK
  obtain ⟨⟨hR, hT, hW, hIn, hTi, hk, hs, hO, hN, hru, hba, hty, hml⟩, hx⟩ := hMK
  obtain ⟨c3, c4, c1, c2, cw, ce, cr, cp, cj, cs, ch, ct, cc⟩ := hC
  have hC : Cp (gX11_now T) M := ⟨c3, c4, c1, c2, cw, ce, cr, cp, cj, cs, ch, ct, cc⟩
  have h5 := hW.1
  have t3 := hT.2.2.2.1
  obtain ⟨K', k1, k2⟩ := C_keep hK hC hMK' hz
  have ec : DX11_addWork T (iI a) (iI b) (iI m) = if 0 ≤ a ∧ a ≤ 9 then if 0 ≤ b ∧ b ≤ 4 then if 1 ≤ m ∧ m ≤ 60 then if M 3 = 0 then if 30 ≤ M 5 then some (Sum.inl 3) else some (Sum.inr (iI (M 5), uX11_now (uX11_records T K') (uX0_works (gX11_now T) (iI (M 5 + 1), upd (gX10_composers (gX0_works (gX11_now T))) (M 5).toNat (iI a), upd (gX10_eras (gX0_works (gX11_now T))) (M 5).toNat (iI b), upd (gX10_lengths (gX0_works (gX11_now T))) (M 5).toNat (iI m))))) else some (Sum.inl 3) else some (Sum.inl 2) else some (Sum.inl 2) else some (Sum.inl 2) := by
    unfold DX11_addWork
    simp only [iI_lit, jn_eq, lt_eq]
    rw [C_between ha ha' (by omega) (by omega) (by omega) (by omega), C_between hb hb' (by omega) (by omega) (by omega) (by omega), C_between hm hm' (by omega) (by omega) (by omega) (by omega), c3, cw.1]
    simp only [Option.bind_some, C_reqA, tx_d, reqS0, reqS1, tx_l, tx_r, k1, ur_now]
    rw [if_eq (by omega) (by omega) (by omega) (by omega), if_le (by omega) (by omega) (by omega) (by omega)]
    by_cases q : 30 ≤ M 5
    · rw [if_pos q, if_pos q]
    · unfold DX10_append
      simp only [iI_lit, lt_eq, cw.1]
      rw [if_neg q, if_neg q, if_lt (by omega) (by omega) (by omega) (by omega), if_pos (show M 5 < 30 by omega), gd_iI (by omega) (by omega) (by omega), gd_iI (by omega) (by omega) (by omega), gd_iI (by omega) (by omega) (by omega), iI_nat (by omega) (by omega)]
      simp only [Option.bind_some, iI_add]
      rfl
  rw [ec]
  by_cases q1 : 0 ≤ a ∧ a ≤ 9
  · by_cases q2 : 0 ≤ b ∧ b ≤ 4
    · by_cases q3 : 1 ≤ m ∧ m ≤ 60
      · by_cases q4 : M 3 = 0
        · by_cases q5 : M 5 = 30
          · exact EW_x (by rw [if_pos q1, if_pos q2, if_pos q3, if_pos q4, if_pos (by omega)]) (by rw [if_pos q1, if_pos q2, if_pos q3, if_pos q4, if_pos q5])
          · have g : ∀ k : Int, k ≠ 5 → ¬ (12 + 3 * M 5 ≤ k ∧ k ≤ 12 + 3 * M 5 + 2) → updI (updI (updI (updI M (12 + 3 * M 5) a) (12 + 3 * M 5 + 1) b) (12 + 3 * M 5 + 2) m) 5 (M 5 + 1) k = M k := fun k p1 p2 => by rw [u_ne p1, u_ne (by omega), u_ne (by omega), u_ne (by omega)]
            have g5 : updI (updI (updI (updI M (12 + 3 * M 5) a) (12 + 3 * M 5 + 1) b) (12 + 3 * M 5 + 2) m) 5 (M 5 + 1) 5 = M 5 + 1 := updI_self _ _ _
            have ga : updI (updI (updI (updI M (12 + 3 * M 5) a) (12 + 3 * M 5 + 1) b) (12 + 3 * M 5 + 2) m) 5 (M 5 + 1) (12 + 3 * M 5) = a := by rw [u_ne (by omega), u_ne (by omega), u_ne (by omega), updI_self]
            have gb : updI (updI (updI (updI M (12 + 3 * M 5) a) (12 + 3 * M 5 + 1) b) (12 + 3 * M 5 + 2) m) 5 (M 5 + 1) (12 + 3 * M 5 + 1) = b := by rw [u_ne (by omega), u_ne (by omega), updI_self]
            have gd9 : updI (updI (updI (updI M (12 + 3 * M 5) a) (12 + 3 * M 5 + 1) b) (12 + 3 * M 5 + 2) m) 5 (M 5 + 1) (12 + 3 * M 5 + 2) = m := by rw [u_ne (by omega), updI_self]
            have grg : rg (updI (updI (updI (updI M (12 + 3 * M 5) a) (12 + 3 * M 5 + 1) b) (12 + 3 * M 5 + 2) m) 5 (M 5 + 1)) := rg_upd (rg_upd (rg_upd (rg_upd hR ha ha') hb hb') hm hm') (by omega) (by omega)
            have gnz : nz (updI (updI (updI (updI M (12 + 3 * M 5) a) (12 + 3 * M 5 + 1) b) (12 + 3 * M 5 + 2) m) 5 (M 5 + 1)) := nz_upd (nz_upd (nz_upd (nz_upd hz (by omega) (by omega)) (by omega) (by omega)) (by omega) (by omega)) (by omega) (by omega)
            generalize updI (updI (updI (updI M (12 + 3 * M 5) a) (12 + 3 * M 5 + 1) b) (12 + 3 * M 5 + 2) m) 5 (M 5 + 1) = N at *
            have t7 : M 7 ≤ 12 := by have := hT.2.2.2.2.2.1; have := hT.2.2.2.2.2.2.1; omega
            refine EW_v h' hL (iI (M 5)) k2 (N := N) (C' := uX0_works (gX11_now T) (iI (M 5 + 1), upd (gX10_composers (gX0_works (gX11_now T))) (M 5).toNat (iI a), upd (gX10_eras (gX0_works (gX11_now T))) (M 5).toNat (iI b), upd (gX10_lengths (gX0_works (gX11_now T))) (M 5).toNat (iI m))) gnz ⟨⟨grg, ?_, ?_, in_c (fun k hk => g k (by omega) (by omega)) hIn, ti_c (fun k hk => g k (by omega) (by omega)) hTi, mk_c (fun k hk => g k (by omega) (by omega)) hk, sl_c (fun k hk => g k (by omega) (by omega)) t7 hs, or_c (fun k hk => g k (by omega) (by omega)) t7 hO, np_c (fun k hk => g k (by omega) (by omega)) t7 hN, ru_c (fun k hk => g k (by omega) (by omega)) hru, ba_c (fun k hk => g k (by omega) (by omega)) hba, ty_c (fun k hk => g k (by omega) (by omega)) t7 hty, ml_c (fun k hk => g k (by omega) (by omega)) hml⟩, x_c (fun k hk => g k (by omega) (by omega)) hx⟩ ⟨by rw [g 3 (by omega) (by omega)]; exact c3, by rw [g 4 (by omega) (by omega)]; exact c4, by rw [g 1 (by omega) (by omega)]; exact c1, by rw [g 2 (by omega) (by omega)]; exact c2, ?_, cE_c (fun k hk => g k (by omega) (by omega)) ce, cR_c (fun k hk => g k (by omega) (by omega)) cr, cP_c (fun k hk => g k (by omega) (by omega)) hW cp, cJ_c (fun k hk => g k (by omega) (by omega)) cj, cS_c (fun k hk => g k (by omega) (by omega)) t7 cs, cH_c (fun k hk => g k (by omega) (by omega)) ch, cT_c (fun k hk => g k (by omega) (by omega)) ct, cC_c (fun k hk => g k (by omega) (by omega)) cc⟩ (by rw [if_pos q1, if_pos q2, if_pos q3, if_pos q4, if_neg (by omega)]) (by rw [if_pos q1, if_pos q2, if_pos q3, if_pos q4, if_neg q5])
            · unfold stI
              rw [g 0 (by omega) (by omega), g 1 (by omega) (by omega), g 2 (by omega) (by omega), g 3 (by omega) (by omega), g 4 (by omega) (by omega), g 6 (by omega) (by omega), g 7 (by omega) (by omega), g 8 (by omega) (by omega)]
              exact hT
            · refine ⟨by rw [g5]; omega, fun k p1 p2 => ?_, fun e r p1 p2 p3 p4 => ?_⟩
              · rw [g5] at p2
                by_cases q6 : k = M 5
                · rw [q6, ga, gb, gd9]
                  exact ⟨q1, q2, q3⟩
                · rw [g (12 + 3 * k) (by omega) (by omega), g (12 + 3 * k + 1) (by omega) (by omega), g (12 + 3 * k + 2) (by omega) (by omega)]
                  exact hW.2.1 k p1 (by omega)
              · obtain ⟨p5, p6⟩ := hW.2.2 e r p1 p2 p3 p4
                rw [g5, g (cellZ e r) (by unfold cellZ; omega) (by unfold cellZ; omega)]
                refine ⟨p5, fun k p7 p8 => ?_⟩
                rw [g (cellZ e r + 1 + k) (by unfold cellZ; omega) (by unfold cellZ; omega)]
                have := p6 k p7 p8
                omega
            · refine ⟨by rw [g5]; rfl, fun k p1 p2 => ?_⟩
              rw [g5] at p2
              show upd (gX10_composers (gX0_works (gX11_now T))) (M 5).toNat (iI a) k.toNat = _ ∧ upd (gX10_eras (gX0_works (gX11_now T))) (M 5).toNat (iI b) k.toNat = _ ∧ upd (gX10_lengths (gX0_works (gX11_now T))) (M 5).toNat (iI m) k.toNat = _
              unfold upd
              by_cases q6 : k = M 5
              · rw [q6, ga, gb, gd9, if_pos rfl, if_pos rfl, if_pos rfl]
                exact ⟨rfl, rfl, rfl⟩
              · rw [if_neg (by omega), if_neg (by omega), if_neg (by omega), g (12 + 3 * k) (by omega) (by omega), g (12 + 3 * k + 1) (by omega) (by omega), g (12 + 3 * k + 2) (by omega) (by omega)]
                exact cw.2 k p1 (by omega)
        · exact EW_x (by rw [if_pos q1, if_pos q2, if_pos q3, if_neg q4]) (by rw [if_pos q1, if_pos q2, if_pos q3, if_neg q4])
      · exact EW_x (by rw [if_pos q1, if_pos q2, if_neg q3]) (by rw [if_pos q1, if_pos q2, if_neg q3])
    · exact EW_x (by rw [if_pos q1, if_neg q2]) (by rw [if_pos q1, if_neg q2])
  · exact EW_x (by rw [if_neg q1]) (by rw [if_neg q1])
theorem F_addEntrant (h : Gc T S M V c) (hL : gX12_textLength S = iI L ∧ (0 ≤ L ∧ L ≤ 40)) : EW M V c L (DX11_addEntrant T) (if M 3 = 0 then if M 6 = 12 then Sum.inl 3 else Sum.inr (iI (M 6), (updI (updI M (126 + M 6) 1) 6 (M 6 + 1))) else Sum.inl 3) := by
  have h' := h
  obtain ⟨gm, gv, gc, hz, hMK, hC, hK, hX⟩ := h
  have hMK' := hMK
  have hC' := hC
  obtain ⟨hMI, hx⟩ := hMK
  have hMI' := hMI
  obtain ⟨hR, hT, hW, hIn, hTi, hk, hs, hO, hN, hru, hba, hty, hml⟩ := hMI
  obtain ⟨c3, c4, c1, c2, cw, ce, cr, cp, cj, cs, ch, ct, cc⟩ := hC
  have hT' := hT
  obtain ⟨t0, t1, t2, t3, t4, t6, t7, t8⟩ := hT
  have h5 := hW.1
  have t12 : M 7 ≤ 12 := by omega
  obtain ⟨K', k1, k2⟩ := C_keep hK hC' hMK' hz
  have ec : DX11_addEntrant T = if M 3 = 0 then if 12 ≤ M 6 then some (Sum.inl 3) else some (Sum.inr (iI (M 6), uX11_now (uX11_records T K') (uX0_entrants (gX11_now T) (iI (M 6 + 1), upd (gX2_in (gX0_entrants (gX11_now T))) (M 6).toNat (iI 1))))) else some (Sum.inl 3) := by
    unfold DX11_addEntrant
    simp only [iI_lit, jn_eq, lt_eq]
    rw [c3, ce.1]
    simp only [Option.bind_some, reqS0, reqS1, tx_l, tx_r, k1, ur_now]
    rw [if_eq (by omega) (by omega) (by omega) (by omega), if_le (by omega) (by omega) (by omega) (by omega)]
    by_cases q : 12 ≤ M 6
    · rw [if_pos q, if_pos q]
    · unfold DX2_append
      simp only [iI_lit, lt_eq, ce.1]
      rw [if_neg q, if_neg q, if_lt (by omega) (by omega) (by omega) (by omega), if_pos (show M 6 < 12 by omega), gd_iI (by omega) (by omega) (by omega), iI_nat (by omega) (by omega)]
      simp only [Option.bind_some, iI_add]
      rfl
  rw [ec]
  by_cases q4 : M 3 = 0
  · by_cases q5 : M 6 = 12
    · exact EW_x (by rw [if_pos q4, if_pos (by omega)]) (by rw [if_pos q4, if_pos q5])
    · have g : ∀ k : Int, ¬ (k = 6 ∨ k = 126 + M 6) → updI (updI M (126 + M 6) 1) 6 (M 6 + 1) k = M k := fun k p => by rw [u_ne (by omega), u_ne (by omega)]
      have g6 : updI (updI M (126 + M 6) 1) 6 (M 6 + 1) 6 = M 6 + 1 := updI_self _ _ _
      have gi : updI (updI M (126 + M 6) 1) 6 (M 6 + 1) (126 + M 6) = 1 := by rw [u_ne (by omega), updI_self]
      have grg : rg (updI (updI M (126 + M 6) 1) 6 (M 6 + 1)) := rg_upd (rg_upd hR (by omega) (by omega)) (by omega) (by omega)
      have gnz : nz (updI (updI M (126 + M 6) 1) 6 (M 6 + 1)) := nz_upd (nz_upd hz (by omega) (by omega)) (by omega) (by omega)
      generalize updI (updI M (126 + M 6) 1) 6 (M 6 + 1) = N at *
      refine EW_v h' hL (iI (M 6)) k2 (N := N) (C' := uX0_entrants (gX11_now T) (iI (M 6 + 1), upd (gX2_in (gX0_entrants (gX11_now T))) (M 6).toNat (iI 1))) gnz ⟨⟨grg, ?_, (wk_c (fun k hk => g k (by omega)) hW), ?_, (ti_c (fun k hk => g k (by omega)) hTi), (mk_c (fun k hk => g k (by omega)) hk), (sl_c (fun k hk => g k (by omega)) t12 hs), ?_, (np_c (fun k hk => g k (by omega)) t12 hN), (ru_c (fun k hk => g k (by omega)) hru), (ba_c (fun k hk => g k (by omega)) hba), (ty_c (fun k hk => g k (by omega)) t12 hty), (ml_c (fun k hk => g k (by omega)) hml)⟩, ?_⟩ ⟨(by rw [g 3 (by omega)]; exact c3), (by rw [g 4 (by omega)]; exact c4), (by rw [g 1 (by omega)]; exact c1), (by rw [g 2 (by omega)]; exact c2), (cW_c (fun k hk => g k (by omega)) h5.2 cw), ?_, (cR_c (fun k hk => g k (by omega)) cr), (cP_c (fun k hk => g k (by omega)) hW cp), (cJ_c (fun k hk => g k (by omega)) cj), (cS_c (fun k hk => g k (by omega)) t12 cs), (cH_c (fun k hk => g k (by omega)) ch), (cT_c (fun k hk => g k (by omega)) ct), (cC_c (fun k hk => g k (by omega)) cc)⟩ (by rw [if_pos q4, if_neg (by omega)]) (by rw [if_pos q4, if_neg q5])
      · unfold stI
        rw [g 0 (by omega), g 1 (by omega), g 2 (by omega), g 3 (by omega), g 4 (by omega), g6, g 7 (by omega), g 8 (by omega)]
        exact ⟨t0, t1, t2, t3, t4, by omega, by omega, t8⟩
      · intro e a b
        rw [g6]
        by_cases q : e = M 6
        · rw [q, gi]
          exact ⟨Or.inr rfl, fun h => by omega⟩
        · rw [g (126 + e) (by omega)]
          have := hIn e a b
          exact ⟨this.1, fun h => this.2 (by omega)⟩
      · refine ⟨fun k a b => ?_, fun i k a b d => ?_⟩
        · rw [g 7 (by omega)] at b
          rw [g (462 + k) (by omega), g6]
          have := hO.1 k a b
          omega
        · rw [g 7 (by omega)] at d
          rw [g (462 + i) (by omega), g (462 + k) (by omega)]
          exact hO.2 i k a b d
      · refine ⟨fun h => ?_, fun e r a b d f hq => ?_⟩
        · rw [g 3 (by omega)] at h
          rw [g 7 (by omega)]
          exact hx.1 h
        · rw [g6] at hq
          rw [g (666 + 4 * e + r) (by omega)]
          exact hx.2 e r a b d f (by omega)
      · refine ⟨by rw [g6]; rfl, fun e a b => ?_⟩
        show upd (gX2_in (gX0_entrants (gX11_now T))) (M 6).toNat (iI 1) e.toNat = _
        unfold upd
        by_cases q : e = M 6
        · rw [if_pos (by omega), q, gi]
        · rw [if_neg (by omega), g (126 + e) (by omega)]
          exact ce.2 e a b
  · exact EW_x (by rw [if_neg q4]) (by rw [if_neg q4])
theorem F_bar (h : Gc T S M V c) (hL : gX12_textLength S = iI L ∧ (0 ≤ L ∧ L ≤ 40)) {j e : Int} {β : Bool} (hj : -2147483648 ≤ j) (hj' : j < 2147483648) (he : -2147483648 ≤ e) (he' : e < 2147483648) : EW M V c L (DX11_bar T (iI j) (iI e) (bI β)) (if (0 ≤ j ∧ j < M 0) ∧ (0 ≤ e ∧ e < M 6) then Sum.inr (bI (isBarredZ M j e), (updI M (378 + (12 * j + e)) (if β = true then 1 else 0))) else Sum.inl 1) := by
  have h' := h
  obtain ⟨gm, gv, gc, hz, hMK, hC, hK, hX⟩ := h
  have hMK' := hMK
  have hC' := hC
  obtain ⟨hMI, hx⟩ := hMK
  have hMI' := hMI
  obtain ⟨hR, hT, hW, hIn, hTi, hk, hs, hO, hN, hru, hba, hty, hml⟩ := hMI
  obtain ⟨c3, c4, c1, c2, cw, ce, cr, cp, cj, cs, ch, ct, cc⟩ := hC
  have hT' := hT
  obtain ⟨t0, t1, t2, t3, t4, t6, t7, t8⟩ := hT
  have h5 := hW.1
  have t12 : M 7 ≤ 12 := by omega
  obtain ⟨K', k1, k2⟩ := C_keep hK hC' hMK' hz
  have ec : DX11_bar T (iI j) (iI e) (bI β) = if (0 ≤ j ∧ j < M 0) ∧ (0 ≤ e ∧ e < M 6) then some (Sum.inr (bI (isBarredZ M j e), uX11_now (uX11_records T K') (uX0_jury (gX11_now T) (uX3_barred (gX0_jury (gX11_now T)) (upd2 (gX3_barred (gX0_jury (gX11_now T))) j.toNat (upd (gX3_barred (gX0_jury (gX11_now T)) j.toNat) e.toNat (bI β))))))) else some (Sum.inl 1) := by
    unfold DX11_bar
    rw [C_reqJE hC' hMI' hj hj' he he', tx_p]
    simp only [lt_eq, k1, Option.bind_some, ur_now]
    by_cases q : (0 ≤ j ∧ j < M 0) ∧ (0 ≤ e ∧ e < M 6)
    · rw [if_pos q, if_pos q, C_isBarred cj hR q.1.1 (by omega) q.2.1 (by omega)]
      unfold DX3_setBarred
      simp only [iI_lit, jn_eq, lt_eq, Option.bind_some]
      rw [if_lt (by omega) (by omega) (by omega) (by omega), if_neg (by omega), if_le (by omega) (by omega) (by omega) (by omega), if_neg (by omega), if_lt (by omega) (by omega) (by omega) (by omega), if_neg (by omega), if_le (by omega) (by omega) (by omega) (by omega), if_neg (by omega), gd_iI (by omega) (by omega) (by omega), gd_iI (by omega) (by omega) (by omega), gd_iI (by omega) (by omega) (by omega), iI_nat (by omega) (by omega), iI_nat (by omega) (by omega)]
      cases β <;> rw [if_bz] <;> simp only [Option.bind_some, gd_bI, reduceIte, Bool.false_eq_true] <;> rfl
    · rw [if_neg q, if_neg q]
  rw [ec]
  by_cases q : (0 ≤ j ∧ j < M 0) ∧ (0 ≤ e ∧ e < M 6)
  · obtain ⟨v, hv, hv9⟩ : ∃ v : Int, (if β = true then (1 : Int) else 0) = v ∧ (v = 0 ∨ v = 1) ∧ bI β = iI v := by
      cases β
      · exact ⟨0, rfl, Or.inl rfl, rfl⟩
      · exact ⟨1, rfl, Or.inr rfl, rfl⟩
    rw [hv]
    have g : ∀ k : Int, ¬ (k = 378 + (12 * j + e)) → updI M (378 + (12 * j + e)) v k = M k := fun k p => u_ne p
    have gi : updI M (378 + (12 * j + e)) v (378 + (12 * j + e)) = v := updI_self _ _ _
    have grg : rg (updI M (378 + (12 * j + e)) v) := rg_upd hR (by omega) (by omega)
    have gnz : nz (updI M (378 + (12 * j + e)) v) := nz_upd hz (by omega) (by omega)
    generalize updI M (378 + (12 * j + e)) v = N at *
    refine EW_v h' hL (bI (isBarredZ M j e)) k2 (N := N) (C' := uX0_jury (gX11_now T) (uX3_barred (gX0_jury (gX11_now T)) (upd2 (gX3_barred (gX0_jury (gX11_now T))) j.toNat (upd (gX3_barred (gX0_jury (gX11_now T)) j.toNat) e.toNat (bI β))))) gnz ⟨⟨grg, (st_c (fun k _ _ => g k (by omega)) hT'), (wk_c (fun k hk => g k (by omega)) hW), (in_c (fun k hk => g k (by omega)) hIn), (ti_c (fun k hk => g k (by omega)) hTi), (mk_c (fun k hk => g k (by omega)) hk), (sl_c (fun k hk => g k (by omega)) t12 hs), (or_c (fun k hk => g k (by omega)) t12 hO), (np_c (fun k hk => g k (by omega)) t12 hN), (ru_c (fun k hk => g k (by omega)) hru), ?_, (ty_c (fun k hk => g k (by omega)) t12 hty), (ml_c (fun k hk => g k (by omega)) hml)⟩, (x_c (fun k hk => g k (by omega)) hx)⟩ ⟨(by rw [g 3 (by omega)]; exact c3), (by rw [g 4 (by omega)]; exact c4), (by rw [g 1 (by omega)]; exact c1), (by rw [g 2 (by omega)]; exact c2), (cW_c (fun k hk => g k (by omega)) h5.2 cw), (cE_c (fun k hk => g k (by omega)) ce), (cR_c (fun k hk => g k (by omega)) cr), (cP_c (fun k hk => g k (by omega)) hW cp), ?_, (cS_c (fun k hk => g k (by omega)) t12 cs), (cH_c (fun k hk => g k (by omega)) ch), (cT_c (fun k hk => g k (by omega)) ct), (cC_c (fun k hk => g k (by omega)) cc)⟩ (by rw [if_pos q]) (by rw [if_pos q])
    · intro j1 e1 a b d f
      by_cases q1 : 378 + (12 * j1 + e1) = 378 + (12 * j + e)
      · rw [q1, gi]; exact hv9.1
      · rw [g _ q1]; exact hba j1 e1 a b d f
    · refine ⟨by rw [g 0 (by omega)]; exact cj.1, fun j1 e1 a b d f => ?_⟩
      show upd2 (gX3_barred (gX0_jury (gX11_now T))) j.toNat (upd (gX3_barred (gX0_jury (gX11_now T)) j.toNat) e.toNat (bI β)) j1.toNat e1.toNat = _
      unfold upd2 upd
      by_cases q1 : j1 = j
      · rw [if_pos (by omega)]
        by_cases q2 : e1 = e
        · rw [if_pos (by omega), q1, q2, gi]; exact hv9.2
        · rw [if_neg (by omega), q1, g _ (by omega)]; exact cj.2 j e1 (by omega) (by omega) d f
      · rw [if_neg (by omega), g _ (by omega)]; exact cj.2 j1 e1 a b d f
  · exact EW_x (by rw [if_neg q]) (by rw [if_neg q])
theorem F_set (h : Gc T S M V c) (hL : gX12_textLength S = iI L ∧ (0 ≤ L ∧ L ≤ 40)) {w v : Int} (hw : -2147483648 ≤ w) (hw' : w < 2147483648) (hv : -2147483648 ≤ v) (hv' : v < 2147483648) : EW M V c L (DX11_set T (iI w) (iI v)) (if 0 ≤ w ∧ w ≤ 2 then if loS w ≤ v ∧ v ≤ hiS w then if w = 2 ∨ M 3 = 0 then Sum.inr (iI (M w), (updI M w v)) else Sum.inl 3 else Sum.inl 2 else Sum.inl 2) := by
  have h' := h
  obtain ⟨gm, gv, gc, hz, hMK, hC, hK, hX⟩ := h
  have hMK' := hMK
  have hC' := hC
  obtain ⟨hMI, hx⟩ := hMK
  have hMI' := hMI
  obtain ⟨hR, hT, hW, hIn, hTi, hk, hs, hO, hN, hru, hba, hty, hml⟩ := hMI
  obtain ⟨c3, c4, c1, c2, cw, ce, cr, cp, cj, cs, ch, ct, cc⟩ := hC
  have hT' := hT
  obtain ⟨t0, t1, t2, t3, t4, t6, t7, t8⟩ := hT
  have h5 := hW.1
  have t12 : M 7 ≤ 12 := by omega
  obtain ⟨K', k1, k2⟩ := C_keep hK hC' hMK' hz
  have lb := loS_b w
  have ec : DX11_set T (iI w) (iI v) = if 0 ≤ w ∧ w ≤ 2 then if loS w ≤ v ∧ v ≤ hiS w then if w = 2 ∨ M 3 = 0 then some (Sum.inr (iI (M w), uX11_now (uX11_records T K') (chC (gX11_now T) w v))) else some (Sum.inl 3) else some (Sum.inl 2) else some (Sum.inl 2) := by
    unfold DX11_set
    simp only [iI_lit, jn_eq, lt_eq]
    rw [C_between hw hw' (by omega) (by omega) (by omega) (by omega), c3]
    simp only [Option.bind_some, C_reqA, tx_d, reqS0, reqS1, tx_l, tx_r, k1, ur_now]
    by_cases q : 0 ≤ w ∧ w ≤ 2
    · obtain ⟨e0, e1⟩ := tab01 q.1 q.2
      rw [if_pos q, if_pos q, gd_iI (by omega) (by omega) (by omega), gd_iI (by omega) (by omega) (by omega), e0, e1, C_between hv hv' (by omega) (by omega) (by omega) (by omega), C_tell hC' hMI' (by omega) (by omega), C_change q.1 q.2]
      simp only [Option.bind_some, C_reqA, tx_d]
      rw [if_eq (by omega) (by omega) (by omega) (by omega), if_eq (by omega) (by omega) (by omega) (by omega)]
      have ei : infoZ M w = M w := by unfold infoZ; rw [if_neg (by omega), if_neg (by omega), if_neg (by omega), if_neg (by omega), if_neg (by omega), if_neg (by omega)]
      rw [ei]
      by_cases q1 : w = 2
      · rw [if_pos q1, if_pos (Or.inl q1)]
      · rw [if_neg q1]
        by_cases q2 : M 3 = 0
        · rw [if_pos q2, if_pos (show w = 2 ∨ M 3 = 0 from Or.inr q2)]
        · rw [if_neg q2, if_neg (show ¬ (w = 2 ∨ M 3 = 0) by omega)]
    · rw [if_neg q, if_neg q]
  rw [ec]
  by_cases q : 0 ≤ w ∧ w ≤ 2
  · by_cases q1 : loS w ≤ v ∧ v ≤ hiS w
    · by_cases q2 : w = 2 ∨ M 3 = 0
      · have g : ∀ k : Int, ¬ (k = w) → updI M w v k = M k := fun k p => u_ne p
        have gi : updI M w v w = v := updI_self _ _ _
        have grg : rg (updI M w v) := rg_upd hR (by omega) (by omega)
        have gnz : nz (updI M w v) := nz_upd hz (by omega) (by omega)
        generalize updI M w v = N at *
        refine EW_v h' hL (iI (M w)) k2 (N := N) (C' := chC (gX11_now T) w v) gnz ⟨⟨grg, ?_, (wk_c (fun k hk => g k (by omega)) hW), (in_c (fun k hk => g k (by omega)) hIn), (ti_c (fun k hk => g k (by omega)) hTi), (mk_c (fun k hk => g k (by omega)) hk), (sl_c (fun k hk => g k (by omega)) t12 hs), (or_c (fun k hk => g k (by omega)) t12 hO), (np_c (fun k hk => g k (by omega)) t12 hN), (ru_c (fun k hk => g k (by omega)) hru), (ba_c (fun k hk => g k (by omega)) hba), (ty_c (fun k hk => g k (by omega)) t12 hty), (ml_c (fun k hk => g k (by omega)) hml)⟩, (x_c (fun k hk => g k (by omega)) hx)⟩ ⟨?_, ?_, ?_, ?_, ?_, ?_, ?_, ?_, ?_, ?_, ?_, ?_, ?_⟩ (by rw [if_pos q, if_pos q1, if_pos q2]) (by rw [if_pos q, if_pos q1, if_pos q2])
        · unfold loS hiS at q1
          have hc : w = 0 ∨ w = 1 ∨ w = 2 := by omega
          unfold stI
          rw [g 3 (by omega), g 4 (by omega), g 6 (by omega), g 7 (by omega), g 8 (by omega)]
          rcases hc with rfl | rfl | rfl
          · rw [gi, g 1 (by omega), g 2 (by omega)]
            have q1 : 3 ≤ v ∧ v ≤ 7 := q1
            exact ⟨q1, t1, t2, t3, t4, t6, t7, t8⟩
          · rw [gi, g 0 (by omega), g 2 (by omega)]
            have q1 : 1 ≤ v ∧ v ≤ 4 := q1
            exact ⟨t0, q1, t2, t3, t4, t6, t7, t8⟩
          · rw [gi, g 0 (by omega), g 1 (by omega)]
            have q1 : 0 ≤ v ∧ v ≤ 100 := q1
            exact ⟨t0, t1, q1, t3, t4, t6, t7, t8⟩
        all_goals unfold chC
        · rw [g 3 (by omega)]
          repeat' split
          all_goals exact c3
        · rw [g 4 (by omega)]
          repeat' split
          all_goals exact c4
        · by_cases q3 : w = 0
          · rw [if_pos q3, g 1 (by omega)]; exact c1
          · rw [if_neg q3]
            by_cases q4 : w = 1
            · rw [if_pos q4, ← q4, gi]; rfl
            · rw [if_neg q4, g 1 (by omega)]; exact c1
        · by_cases q3 : w = 0
          · rw [if_pos q3, g 2 (by omega)]; exact c2
          · rw [if_neg q3]
            by_cases q4 : w = 1
            · rw [if_pos q4, g 2 (by omega)]; exact c2
            · rw [if_neg q4, show (2 : Int) = w by omega, gi]; rfl
        · have := cW_c (N := N) (fun k hk => g k (by omega)) h5.2 cw
          repeat' split
          all_goals exact this
        · have := cE_c (N := N) (fun k hk => g k (by omega)) ce
          repeat' split
          all_goals exact this
        · have := cR_c (N := N) (fun k hk => g k (by omega)) cr
          repeat' split
          all_goals exact this
        · have := cP_c (N := N) (fun k hk => g k (by omega)) hW cp
          repeat' split
          all_goals exact this
        · by_cases q3 : w = 0
          · rw [if_pos q3]
            refine ⟨by rw [← q3, gi]; rfl, fun j e a b d f => ?_⟩
            rw [g _ (by omega)]
            exact cj.2 j e a b d f
          · have := cJ_c (N := N) (fun k hk => g k (by omega)) cj
            rw [if_neg q3]
            split
            all_goals exact this
        · have := cS_c (N := N) (fun k hk => g k (by omega)) t12 cs
          repeat' split
          all_goals exact this
        · have := cH_c (N := N) (fun k hk => g k (by omega)) ch
          repeat' split
          all_goals exact this
        · have := cT_c (N := N) (fun k hk => g k (by omega)) ct
          repeat' split
          all_goals exact this
        · have := cC_c (N := N) (fun k hk => g k (by omega)) cc
          repeat' split
          all_goals exact this
      · exact EW_x (by rw [if_pos q, if_pos q1, if_neg q2]) (by rw [if_pos q, if_pos q1, if_neg q2])
    · exact EW_x (by rw [if_pos q, if_neg q1]) (by rw [if_pos q, if_neg q1])
  · exact EW_x (by rw [if_neg q]) (by rw [if_neg q])
theorem F_setRule (h : Gc T S M V c) (hL : gX12_textLength S = iI L ∧ (0 ≤ L ∧ L ≤ 40)) {r w v : Int} (hr : -2147483648 ≤ r) (hr' : r < 2147483648) (hw : -2147483648 ≤ w) (hw' : w < 2147483648) (hv : -2147483648 ≤ v) (hv' : v < 2147483648) : EW M V c L (DX11_setRule T (iI r) (iI w) (iI v)) (if 0 ≤ r ∧ r ≤ 3 then if (0 ≤ w ∧ w ≤ 5) ∧ loR w ≤ v ∧ v ≤ hiR w then if M 3 = 0 then Sum.inr (iI (M (ruleZ r w)), (updI M (ruleZ r w) v)) else Sum.inl 3 else Sum.inl 2 else Sum.inl 1) := by
  have h' := h
  obtain ⟨gm, gv, gc, hz, hMK, hC, hK, hX⟩ := h
  have hMK' := hMK
  have hC' := hC
  obtain ⟨hMI, hx⟩ := hMK
  have hMI' := hMI
  obtain ⟨hR, hT, hW, hIn, hTi, hk, hs, hO, hN, hru, hba, hty, hml⟩ := hMI
  obtain ⟨c3, c4, c1, c2, cw, ce, cr, cp, cj, cs, ch, ct, cc⟩ := hC
  have hT' := hT
  obtain ⟨t0, t1, t2, t3, t4, t6, t7, t8⟩ := hT
  have h5 := hW.1
  have t12 : M 7 ≤ 12 := by omega
  obtain ⟨K', k1, k2⟩ := C_keep hK hC' hMK' hz
  have lb := loR_b w
  have ec : DX11_setRule T (iI r) (iI w) (iI v) = if 0 ≤ r ∧ r ≤ 3 then if 0 ≤ w ∧ w ≤ 5 then if loR w ≤ v ∧ v ≤ hiR w then if M 3 = 0 then some (Sum.inr (iI (M (ruleZ r w)), uX11_now (uX11_records T K') (uX0_rules (gX11_now T) (upd2 (gX0_rules (gX11_now T)) r.toNat (upd (gX0_rules (gX11_now T) r.toNat) w.toNat (iI v)))))) else some (Sum.inl 3) else some (Sum.inl 2) else some (Sum.inl 2) else some (Sum.inl 1) := by
    unfold DX11_setRule
    rw [C_reqRound hr hr', tx_p]
    simp only [iI_lit, jn_eq, lt_eq]
    rw [C_between hw hw' (by omega) (by omega) (by omega) (by omega), c3]
    simp only [Option.bind_some, C_reqA, tx_d, reqS0, reqS1, tx_l, tx_r, k1, ur_now]
    by_cases q : 0 ≤ r ∧ r ≤ 3
    · rw [if_pos q, if_pos q]
      by_cases q1 : 0 ≤ w ∧ w ≤ 5
      · obtain ⟨e0, e1⟩ := tab23 q1.1 q1.2
        rw [if_pos q1, if_pos q1, gd_iI (by omega) (by omega) (by omega), gd_iI (by omega) (by omega) (by omega), e0, e1, C_between hv hv' (by omega) (by omega) (by omega) (by omega)]
        simp only [Option.bind_some, C_reqA, tx_d]
        rw [gd_iI (by omega) (by omega) (by omega), gd_iI (by omega) (by omega) (by omega), gd_iI (by omega) (by omega) (by omega), gd_iI (by omega) (by omega) (by omega), iI_nat (by omega) (by omega), iI_nat (by omega) (by omega), if_eq (by omega) (by omega) (by omega) (by omega), cr r w (by omega) (by omega) (by omega) (by omega)]
      · rw [if_neg q1, if_neg q1]
    · rw [if_neg q, if_neg q]
  rw [ec]
  by_cases q : 0 ≤ r ∧ r ≤ 3
  · by_cases q1 : 0 ≤ w ∧ w ≤ 5
    · by_cases q2 : loR w ≤ v ∧ v ≤ hiR w
      · by_cases q3 : M 3 = 0
        · have hz9 : ruleZ r w = 102 + 6 * r + w := rfl
          have g : ∀ k : Int, ¬ (k = ruleZ r w) → updI M (ruleZ r w) v k = M k := fun k p => u_ne p
          have gi : updI M (ruleZ r w) v (ruleZ r w) = v := updI_self _ _ _
          have grg : rg (updI M (ruleZ r w) v) := rg_upd hR (by omega) (by omega)
          have gnz : nz (updI M (ruleZ r w) v) := nz_upd hz (by omega) (by omega)
          generalize updI M (ruleZ r w) v = N at *
          refine EW_v h' hL (iI (M (ruleZ r w))) k2 (N := N) (C' := uX0_rules (gX11_now T) (upd2 (gX0_rules (gX11_now T)) r.toNat (upd (gX0_rules (gX11_now T) r.toNat) w.toNat (iI v)))) gnz ⟨⟨grg, (st_c (fun k _ _ => g k (by omega)) hT'), (wk_c (fun k hk => g k (by omega)) hW), (in_c (fun k hk => g k (by omega)) hIn), (ti_c (fun k hk => g k (by omega)) hTi), (mk_c (fun k hk => g k (by omega)) hk), (sl_c (fun k hk => g k (by omega)) t12 hs), (or_c (fun k hk => g k (by omega)) t12 hO), (np_c (fun k hk => g k (by omega)) t12 hN), ?_, (ba_c (fun k hk => g k (by omega)) hba), (ty_c (fun k hk => g k (by omega)) t12 hty), (ml_c (fun k hk => g k (by omega)) hml)⟩, (x_c (fun k hk => g k (by omega)) hx)⟩ ⟨(by rw [g 3 (by omega)]; exact c3), (by rw [g 4 (by omega)]; exact c4), (by rw [g 1 (by omega)]; exact c1), (by rw [g 2 (by omega)]; exact c2), (cW_c (fun k hk => g k (by omega)) h5.2 cw), (cE_c (fun k hk => g k (by omega)) ce), ?_, (cP_c (fun k hk => g k (by omega)) hW cp), (cJ_c (fun k hk => g k (by omega)) cj), (cS_c (fun k hk => g k (by omega)) t12 cs), (cH_c (fun k hk => g k (by omega)) ch), (cT_c (fun k hk => g k (by omega)) ct), (cC_c (fun k hk => g k (by omega)) cc)⟩ (by rw [if_pos q, if_pos q1, if_pos q2, if_pos q3]) (by rw [if_pos q, if_pos ⟨q1, q2⟩, if_pos q3])
          · intro r1 a b
            by_cases q4 : ruleZ r1 5 = ruleZ r w
            · rw [q4, gi]
              unfold ruleZ at q4
              have q5 : w = 5 := by omega
              unfold loR hiR at q2
              rw [q5] at q2
              rw [if_neg (by omega), if_neg (by omega), if_neg (by omega), if_neg (by omega), if_neg (by omega)] at q2
              exact q2
            · rw [g _ q4]
              exact hru r1 a b
          · intro r1 i a b d f
            show upd2 (gX0_rules (gX11_now T)) r.toNat (upd (gX0_rules (gX11_now T) r.toNat) w.toNat (iI v)) r1.toNat i.toNat = _
            unfold upd2 upd
            by_cases q4 : r1 = r
            · rw [if_pos (by omega)]
              by_cases q5 : i = w
              · rw [if_pos (by omega), q4, q5, gi]
              · rw [if_neg (by omega), q4, g _ (by unfold ruleZ; omega)]
                exact cr r i (by omega) (by omega) d f
            · rw [if_neg (by omega), g _ (by unfold ruleZ; omega)]
              exact cr r1 i a b d f
        · exact EW_x (by rw [if_pos q, if_pos q1, if_pos q2, if_neg q3]) (by rw [if_pos q, if_pos ⟨q1, q2⟩, if_neg q3])
      · exact EW_x (by rw [if_pos q, if_pos q1, if_neg q2]) (by rw [if_pos q, if_neg (fun h => q2 h.2)])
    · exact EW_x (by rw [if_pos q, if_neg q1]) (by rw [if_pos q, if_neg (fun h => q1 h.1)])
  · exact EW_x (by rw [if_neg q]) (by rw [if_neg q])
theorem F_clearProgram (h : Gc T S M V c) (hL : gX12_textLength S = iI L ∧ (0 ≤ L ∧ L ≤ 40)) {e r : Int} (he : -2147483648 ≤ e) (he' : e < 2147483648) (hr : -2147483648 ≤ r) (hr' : r < 2147483648) : EW M V c L (DX11_clearProgram T (iI e) (iI r)) (if (0 ≤ e ∧ e < M 6) ∧ (0 ≤ r ∧ r ≤ 3) then Sum.inr (iI (M (cellZ e r)), (updI M (cellZ e r) 0)) else Sum.inl 1) := by
  have h' := h
  obtain ⟨gm, gv, gc, hz, hMK, hC, hK, hX⟩ := h
  have hMK' := hMK
  have hC' := hC
  obtain ⟨hMI, hx⟩ := hMK
  have hMI' := hMI
  obtain ⟨hR, hT, hW, hIn, hTi, hk, hs, hO, hN, hru, hba, hty, hml⟩ := hMI
  obtain ⟨c3, c4, c1, c2, cw, ce, cr, cp, cj, cs, ch, ct, cc⟩ := hC
  have hT' := hT
  obtain ⟨t0, t1, t2, t3, t4, t6, t7, t8⟩ := hT
  have h5 := hW.1
  have t12 : M 7 ≤ 12 := by omega
  obtain ⟨K', k1, k2⟩ := C_keep hK hC' hMK' hz
  have ec : DX11_clearProgram T (iI e) (iI r) = if (0 ≤ e ∧ e < M 6) ∧ (0 ≤ r ∧ r ≤ 3) then some (Sum.inr (iI (M (cellZ e r)), uX11_now (uX11_records T K') (uX0_programs (gX11_now T) (fun q : Nat => if ((e * 4 + r) * 4).toNat ≤ q ∧ q < ((e * 4 + r) * 4).toNat + 4 then iI (-1) else gX0_programs (gX11_now T) q)))) else some (Sum.inl 1) := by
    unfold DX11_clearProgram
    rw [C_reqER hC' hMI' he he' hr hr', tx_p]
    simp only [lt_eq, k1, Option.bind_some, ur_now]
    by_cases q : (0 ≤ e ∧ e < M 6) ∧ (0 ≤ r ∧ r ≤ 3)
    · rw [if_pos q, if_pos q, C_sizeOf cp hW (by omega) (by omega) (by omega) (by omega), C_empty4 (by omega) (by omega) (by omega) (by omega)]
      rfl
    · rw [if_neg q, if_neg q]
  rw [ec]
  by_cases q : (0 ≤ e ∧ e < M 6) ∧ (0 ≤ r ∧ r ≤ 3)
  · have hz9 : cellZ e r = 138 + 5 * (4 * e + r) := rfl
    have g : ∀ k : Int, ¬ (k = cellZ e r) → updI M (cellZ e r) 0 k = M k := fun k p => u_ne p
    have gi : updI M (cellZ e r) 0 (cellZ e r) = 0 := updI_self _ _ _
    have grg : rg (updI M (cellZ e r) 0) := rg_upd hR (by omega) (by omega)
    have gnz : nz (updI M (cellZ e r) 0) := nz_upd hz (by omega) (by omega)
    generalize updI M (cellZ e r) 0 = N at *
    refine EW_v h' hL (iI (M (cellZ e r))) k2 (N := N) (C' := uX0_programs (gX11_now T) (fun q : Nat => if ((e * 4 + r) * 4).toNat ≤ q ∧ q < ((e * 4 + r) * 4).toNat + 4 then iI (-1) else gX0_programs (gX11_now T) q)) gnz ⟨⟨grg, (st_c (fun k _ _ => g k (by omega)) hT'), ?_, (in_c (fun k hk => g k (by omega)) hIn), (ti_c (fun k hk => g k (by omega)) hTi), (mk_c (fun k hk => g k (by omega)) hk), (sl_c (fun k hk => g k (by omega)) t12 hs), (or_c (fun k hk => g k (by omega)) t12 hO), (np_c (fun k hk => g k (by omega)) t12 hN), (ru_c (fun k hk => g k (by omega)) hru), (ba_c (fun k hk => g k (by omega)) hba), (ty_c (fun k hk => g k (by omega)) t12 hty), (ml_c (fun k hk => g k (by omega)) hml)⟩, (x_c (fun k hk => g k (by omega)) hx)⟩ ⟨(by rw [g 3 (by omega)]; exact c3), (by rw [g 4 (by omega)]; exact c4), (by rw [g 1 (by omega)]; exact c1), (by rw [g 2 (by omega)]; exact c2), (cW_c (fun k hk => g k (by omega)) h5.2 cw), (cE_c (fun k hk => g k (by omega)) ce), (cR_c (fun k hk => g k (by omega)) cr), ?_, (cJ_c (fun k hk => g k (by omega)) cj), (cS_c (fun k hk => g k (by omega)) t12 cs), (cH_c (fun k hk => g k (by omega)) ch), (cT_c (fun k hk => g k (by omega)) ct), (cC_c (fun k hk => g k (by omega)) cc)⟩ (by rw [if_pos q]) (by rw [if_pos q])
    · refine ⟨by rw [g 5 (by omega)]; exact h5, fun k a b => ?_, fun e1 r1 a b d f => ?_⟩
      · rw [g 5 (by omega)] at b
        rw [g (12 + 3 * k) (by omega), g (12 + 3 * k + 1) (by omega), g (12 + 3 * k + 2) (by omega)]
        exact hW.2.1 k a b
      · obtain ⟨p5, p6⟩ := hW.2.2 e1 r1 a b d f
        by_cases q1 : cellZ e1 r1 = cellZ e r
        · rw [q1, gi]
          exact ⟨by omega, fun k p7 p8 => by omega⟩
        · rw [g 5 (by omega), g _ q1]
          refine ⟨p5, fun k p7 p8 => ?_⟩
          rw [g (cellZ e1 r1 + 1 + k) (by unfold cellZ at *; omega)]
          exact p6 k p7 p8
    · intro e1 r1 k a b d f p7 p8
      show (if ((e * 4 + r) * 4).toNat ≤ ((e1 * 4 + r1) * 4 + k).toNat ∧ ((e1 * 4 + r1) * 4 + k).toNat < ((e * 4 + r) * 4).toNat + 4 then iI (-1) else gX0_programs (gX11_now T) ((e1 * 4 + r1) * 4 + k).toNat) = _
      by_cases q1 : cellZ e1 r1 = cellZ e r
      · have q2 : 4 * e1 + r1 = 4 * e + r := by unfold cellZ at q1; omega
        rw [if_pos (by omega)]
        unfold workAtZ
        rw [q1, gi, if_neg (by omega)]
      · have q2 : 4 * e1 + r1 ≠ 4 * e + r := by unfold cellZ at q1; omega
        rw [if_neg (by omega)]
        have ew : workAtZ N e1 r1 k = workAtZ M e1 r1 k := by
          unfold workAtZ
          rw [g _ q1]
          by_cases q3 : 0 ≤ k ∧ k ≤ M (cellZ e1 r1) - 1
          · rw [if_pos q3, if_pos q3, g (cellZ e1 r1 + 1 + k) (by unfold cellZ at *; omega)]
          · rw [if_neg q3, if_neg q3]
        rw [ew]
        exact cp e1 r1 k a b d f p7 p8
  · exact EW_x (by rw [if_neg q]) (by rw [if_neg q])
theorem F_begin (h : Gc T S M V c) (hL : gX12_textLength S = iI L ∧ (0 ≤ L ∧ L ≤ 40)) {s : Int} (hs1 : -2147483648 ≤ s) (hs2 : s < 2147483648) : EW M V c L (DX11_begin T (iI s)) (if 0 ≤ s then if M 3 = 0 then Sum.inr (iI (brZ (updI M 11 s) 0 7), (brZ (updI M 11 s) 0)) else Sum.inl 3 else Sum.inl 2) := by
  have h' := h
  obtain ⟨gm, gv, gc, hz, hMK, hC, hK, hX⟩ := h
  have hMK' := hMK
  have hC' := hC
  obtain ⟨hMI, hx⟩ := hMK
  have hMI' := hMI
  obtain ⟨hR, hT, hW, hIn, hTi, hk, hs, hO, hN, hru, hba, hty, hml⟩ := hMI
  obtain ⟨c3, c4, c1, c2, cw, ce, cr, cp, cj, cs, ch, ct, cc⟩ := hC
  have hT' := hT
  obtain ⟨t0, t1, t2, t3, t4, t6, t7, t8⟩ := hT
  have h5 := hW.1
  have t12 : M 7 ≤ 12 := by omega
  obtain ⟨K', k1, k2⟩ := C_keep hK hC' hMK' hz
  by_cases q1 : 0 ≤ s
  · by_cases q2 : M 3 = 0
    · have e6 : updI M 11 s 6 = M 6 := u_ne (by omega)
      have e11 : updI M 11 s 11 = s := updI_self _ _ _
      have g : ∀ k : Int, ¬ (k = 11) → updI M 11 s k = M k := fun k p => u_ne p
      have hp : preI (updI M 11 s) := by
        refine ⟨rg_upd hR (by omega) (by omega), by rw [g 0 (by omega)]; exact t0, by rw [g 1 (by omega)]; exact t1, by rw [g 2 (by omega)]; exact t2, by rw [e6]; exact t6, wk_c (fun k hk => g k (by omega)) hW, in_c (fun k hk => g k (by omega)) hIn, ru_c (fun k hk => g k (by omega)) hru, ba_c (fun k hk => g k (by omega)) hba, by rw [e11]; exact q1, fun e r a b d f hq => ?_⟩
        rw [e6] at hq
        rw [g _ (by omega)]
        exact hx.2 e r a b d f hq
      obtain ⟨y1, y2, y3, y4, y5, y6, y8, y9⟩ := hty
      have hct : cT (gX0_tie (gX11_now T)) (m0Z (updI M 11 s) 0) := by
        obtain ⟨u1, u2, u3, u4⟩ := ct
        have nt : ∀ e : Int, 0 ≤ e → e < 12 → M (654 + e) = 0 := fun e a b => by
          rcases hTi e a b with h9 | h9
          · exact h9
          · have := (y1 e a b h9).1; omega
        have y3' := y3 (by omega)
        refine ⟨?_, ?_, fun e a b => ?_, fun j e a b d f => ?_⟩
        · rw [(m0_at 0 10).2.1 (by omega), u1, y3'.2]
        · rw [(m0_at 0 9).2.1 (by omega), u2, y3'.1]
        · rw [(m0_at 0 _).2.2.2 (by omega), u3 e a b, nt e a b]
        · rw [(m0_at 0 _).2.2.1 (by omega), u4 j e a b d f, y2 j e a b d f (by rw [nt e d f]; omega)]
      obtain ⟨C', e1, e2⟩ := C_startRound (C := uX0_stage (gX11_now T) (uX7_seed (gX0_stage (gX11_now T)) (jI s))) hp (r := 0) (by omega) (by omega) (by rw [g 1 (by omega)]; exact c1) (by rw [g 2 (by omega)]; exact c2) (cW_c (fun k hk => g k (by omega)) h5.2 cw) (cE_c (fun k hk => g k (by omega)) ce) (cR_c (fun k hk => g k (by omega)) cr) (cP_c (fun k hk => g k (by omega)) hW cp) (cJ_c (fun k hk => g k (by omega)) cj) (by rw [e11]; rfl) hct (cC_c (fun k hk => g k (by omega)) cc)
      refine EW_v h' hL (iI (brZ (updI M 11 s) 0 7)) k2 (br_nz (nz_upd hz (by omega) (by omega)) (by omega) 0) (br_MK hp (by omega) (by omega)) e2 ?_ (by rw [if_pos q1, if_pos q2])
      unfold DX11_begin
      simp only [iI_lit, jn_eq, lt_eq]
      rw [if_lt (by omega) (by omega) (by omega) (by omega), if_neg (by omega), reqA1, tx_r, c3, if_eq (by omega) (by omega) (by omega) (by omega), if_pos q2, reqS1, tx_r, k1, iI_l (by omega) (by omega)]
      simp only [Option.bind_some, ur_now, un_now, un_un]
      rw [e1]
      simp only [Option.bind_some]
      rw [e2.2.2.2.2.2.2.2.2.2.1.1]
    · refine EW_x ?_ (by rw [if_pos q1, if_neg q2])
      unfold DX11_begin
      simp only [iI_lit, jn_eq, lt_eq]
      rw [if_lt (by omega) (by omega) (by omega) (by omega), if_neg (by omega), reqA1, tx_r, c3, if_eq (by omega) (by omega) (by omega) (by omega), if_neg q2, reqS0, tx_l]
  · refine EW_x ?_ (by rw [if_neg q1])
    unfold DX11_begin
    simp only [iI_lit, jn_eq, lt_eq]
    rw [if_lt (by omega) (by omega) (by omega) (by omega), if_pos (by omega), reqA0, tx_l]
theorem F_play (h : Gc T S M V c) (hL : gX12_textLength S = iI L ∧ (0 ≤ L ∧ L ≤ 40)) {s : Int} (hs1 : -2147483648 ≤ s) (hs2 : s < 2147483648) : EW M V c L (DX11_play T (iI s)) (if 0 ≤ s ∧ s ≤ 20 then if M 3 = 1 then if M 8 = M 7 then Sum.inl 3 else Sum.inr (iI (M (462 + M 8)), (updI (updI M (474 + M (462 + M 8)) s) 8 (M 8 + 1))) else Sum.inl 3 else Sum.inl 2) := by
  have h' := h
  obtain ⟨gm, gv, gc, hz, hMK, hC, hK, hX⟩ := h
  have hMK' := hMK
  have hC' := hC
  obtain ⟨hMI, hx⟩ := hMK
  have hMI' := hMI
  obtain ⟨hR, hT, hW, hIn, hTi, hk, hs, hO, hN, hru, hba, hty, hml⟩ := hMI
  obtain ⟨c3, c4, c1, c2, cw, ce, cr, cp, cj, cs, ch, ct, cc⟩ := hC
  have hT' := hT
  obtain ⟨t0, t1, t2, t3, t4, t6, t7, t8⟩ := hT
  have h5 := hW.1
  have t12 : M 7 ≤ 12 := by omega
  obtain ⟨K', k1, k2⟩ := C_keep hK hC' hMK' hz
  have ec : DX11_play T (iI s) = if 0 ≤ s ∧ s ≤ 20 then if M 3 = 1 then if M 7 ≤ M 8 then some (Sum.inl 3) else some (Sum.inr (iI (M (462 + M 8)), uX11_now (uX11_records T K') (uX0_stage (gX11_now T) (uX7_played (uX7_slips (gX0_stage (gX11_now T)) (upd (gX7_slips (gX0_stage (gX11_now T))) (M (462 + M 8)).toNat (iI s))) (iI (M 8 + 1)))))) else some (Sum.inl 3) else some (Sum.inl 2) := by
    unfold DX11_play
    simp only [iI_lit, jn_eq, lt_eq]
    rw [C_between hs1 hs2 (by omega) (by omega) (by omega) (by omega), c3, cs.1, cs.2.1]
    simp only [Option.bind_some, C_reqA, tx_d, reqS0, reqS1, tx_l, tx_r, k1, ur_now]
    rw [if_eq (by omega) (by omega) (by omega) (by omega), if_le (by omega) (by omega) (by omega) (by omega)]
    by_cases q : M 7 ≤ M 8
    · rw [if_pos q, if_pos q]
    · have o := hO.1 (M 8) (by omega) (by omega)
      unfold DX7_letNextPlay
      rw [if_neg q, if_neg q, cs.2.1, C_playerAt cs hT' (by omega) (by omega), if_pos (show 0 ≤ M 8 ∧ M 8 < M 7 by omega)]
      simp only [Option.bind_some, iI_lit, jn_eq, lt_eq]
      rw [C_between (by omega) (by omega) (by omega) (by omega) (by omega) (by omega)]
      simp only [Option.bind_some, if_bz, decide_eq_true_eq]
      rw [if_pos (show 0 ≤ M (462 + M 8) ∧ M (462 + M 8) ≤ 11 by omega), gd_iI (by omega) (by omega) (by omega), iI_nat (by omega) (by omega), show ∀ v, gX7_played (uX7_slips (gX0_stage (gX11_now T)) v) = gX7_played (gX0_stage (gX11_now T)) from fun _ => rfl, cs.2.1, iI_add]
      rfl
  rw [ec]
  by_cases q1 : 0 ≤ s ∧ s ≤ 20
  · by_cases q2 : M 3 = 1
    · by_cases q3 : M 8 = M 7
      · exact EW_x (by rw [if_pos q1, if_pos q2, if_pos (by omega)]) (by rw [if_pos q1, if_pos q2, if_pos q3])
      · have o := hO.1 (M 8) (by omega) (by omega)
        have op := plc_ord hO (k := M 8) (by omega) (by omega)
        obtain ⟨p, hp⟩ : ∃ p : Int, M (462 + M 8) = p := ⟨_, rfl⟩
        rw [hp] at o op ⊢
        have g : ∀ k : Int, ¬ (k = 8 ∨ k = 474 + p) → updI (updI M (474 + p) s) 8 (M 8 + 1) k = M k := fun k h => by rw [u_ne (by omega), u_ne (by omega)]
        have g8 : updI (updI M (474 + p) s) 8 (M 8 + 1) 8 = M 8 + 1 := updI_self _ _ _
        have gi : updI (updI M (474 + p) s) 8 (M 8 + 1) (474 + p) = s := by rw [u_ne (by omega), updI_self]
        have grg : rg (updI (updI M (474 + p) s) 8 (M 8 + 1)) := rg_upd (rg_upd hR (by omega) (by omega)) (by omega) (by omega)
        have gnz : nz (updI (updI M (474 + p) s) 8 (M 8 + 1)) := nz_upd (nz_upd hz (by omega) (by omega)) (by omega) (by omega)
        generalize updI (updI M (474 + p) s) 8 (M 8 + 1) = N at *
        have gp : ∀ e : Int, plcZ N e = plcZ M e := fun e => plc_c (fun k hk => g k (by omega)) t12 e
        have gh1 : hpZ N p = true := by unfold hpZ; rw [gp, op, g8]; exact decide_eq_true (by omega)
        have gh2 : ∀ e : Int, e ≠ p → hpZ N e = hpZ M e := fun e he => by
          unfold hpZ
          rw [gp, g8]
          refine decide_eq_decide.mpr ⟨fun h => ⟨h.1, ?_⟩, fun h => ⟨h.1, by omega⟩⟩
          have : plcZ M e ≠ M 8 := fun h9 => he (by rw [← plc_at (M := M) (e := e) (by omega), h9]; exact hp)
          omega
        refine EW_v h' hL (iI p) k2 (N := N) (C' := uX0_stage (gX11_now T) (uX7_played (uX7_slips (gX0_stage (gX11_now T)) (upd (gX7_slips (gX0_stage (gX11_now T))) p.toNat (iI s))) (iI (M 8 + 1)))) gnz ⟨⟨grg, ?_, (wk_c (fun k hk => g k (by omega)) hW), (in_c (fun k hk => g k (by omega)) hIn), (ti_c (fun k hk => g k (by omega)) hTi), (mk_c (fun k hk => g k (by omega)) hk), ?_, (or_c (fun k hk => g k (by omega)) t12 hO), ?_, (ru_c (fun k hk => g k (by omega)) hru), (ba_c (fun k hk => g k (by omega)) hba), (ty_c (fun k hk => g k (by omega)) t12 hty), (ml_c (fun k hk => g k (by omega)) hml)⟩, (x_c (fun k hk => g k (by omega)) hx)⟩ ⟨(by rw [g 3 (by omega)]; exact c3), (by rw [g 4 (by omega)]; exact c4), (by rw [g 1 (by omega)]; exact c1), (by rw [g 2 (by omega)]; exact c2), (cW_c (fun k hk => g k (by omega)) h5.2 cw), (cE_c (fun k hk => g k (by omega)) ce), (cR_c (fun k hk => g k (by omega)) cr), (cP_c (fun k hk => g k (by omega)) hW cp), (cJ_c (fun k hk => g k (by omega)) cj), ?_, (cH_c (fun k hk => g k (by omega)) ch), (cT_c (fun k hk => g k (by omega)) ct), (cC_c (fun k hk => g k (by omega)) cc)⟩ (by rw [if_pos q1, if_pos q2, if_neg (by omega)]) (by rw [if_pos q1, if_pos q2, if_neg q3])
        · unfold stI
          rw [g 0 (by omega), g 1 (by omega), g 2 (by omega), g 3 (by omega), g 4 (by omega), g 6 (by omega), g 7 (by omega), g8]
          exact ⟨t0, t1, t2, t3, t4, t6, t7, by omega⟩
        · intro e a b d
          by_cases q4 : e = p
          · rw [q4, gi]; exact q1
          · rw [gh2 e q4] at d
            rw [g (474 + e) (by omega)]
            exact hs e a b d
        · intro j e a b d f d9
          by_cases q4 : e = p
          · rw [q4, gh1] at d9; cases d9
          · rw [gh2 e q4] at d9
            rw [g _ (by omega)]
            exact hN j e a b d f d9
        · obtain ⟨s1, s2, s3, s4, s5⟩ := cs
          refine ⟨by rw [g 7 (by omega)]; exact s1, by rw [g8]; rfl, by rw [g 11 (by omega)]; exact s3, fun k a b => ?_, fun e a b => ?_⟩
          · rw [g 7 (by omega)] at b
            rw [g (462 + k) (by omega)]
            exact s4 k a b
          · show upd (gX7_slips (gX0_stage (gX11_now T))) p.toNat (iI s) e.toNat = _
            unfold upd
            by_cases q4 : e = p
            · rw [if_pos (by omega), q4, gh1, gi, if_pos rfl]
            · rw [if_neg (by omega), gh2 e q4, g (474 + e) (by omega)]
              exact s5 e a b
    · exact EW_x (by rw [if_pos q1, if_neg q2]) (by rw [if_pos q1, if_neg q2])
  · exact EW_x (by rw [if_neg q1]) (by rw [if_neg q1])
theorem F_mark (h : Gc T S M V c) (hL : gX12_textLength S = iI L ∧ (0 ≤ L ∧ L ≤ 40)) {j e v : Int} (hj : -2147483648 ≤ j) (hj' : j < 2147483648) (he : -2147483648 ≤ e) (he' : e < 2147483648) (hv : -2147483648 ≤ v) (hv' : v < 2147483648) : EW M V c L (DX11_mark T (iI j) (iI e) (iI v)) (if (0 ≤ j ∧ j < M 0) ∧ (0 ≤ e ∧ e < M 6) then if 0 ≤ v ∧ v ≤ (if M 3 = 2 then 10 else 100) then if mayMarkZ M j e = true then Sum.inr (iI (countingZ (updI M (opZ M + (12 * j + e)) v) (opZ M) e), (updI M (opZ M + (12 * j + e)) v)) else Sum.inl 3 else Sum.inl 2 else Sum.inl 1) := by
  have h' := h
  obtain ⟨gm, gv, gc, hz, hMK, hC, hK, hX⟩ := h
  have hMK' := hMK
  have hC' := hC
  obtain ⟨hMI, hx⟩ := hMK
  have hMI' := hMI
  obtain ⟨hR, hT, hW, hIn, hTi, hk, hs, hO, hN, hru, hba, hty, hml⟩ := hMI
  obtain ⟨c3, c4, c1, c2, cw, ce, cr, cp, cj, cs, ch, ct, cc⟩ := hC
  have hT' := hT
  obtain ⟨t0, t1, t2, t3, t4, t6, t7, t8⟩ := hT
  have h5 := hW.1
  have t12 : M 7 ≤ 12 := by omega
  obtain ⟨K', k1, k2⟩ := C_keep hK hC' hMK' hz
  obtain ⟨mo, hmo⟩ : ∃ mo : Int, mo = if M 3 = 2 then 10 else 100 := ⟨_, rfl⟩
  have mob : mo ≤ 100 ∧ 10 ≤ mo := by rw [hmo]; split <;> omega
  rw [← hmo]
  have ec : DX11_mark T (iI j) (iI e) (iI v) = if (0 ≤ j ∧ j < M 0) ∧ (0 ≤ e ∧ e < M 6) then if 0 ≤ v ∧ v ≤ mo then if mayMarkZ M j e = true then some (Sum.inr (iI (countingZ (updI M (opZ M + (12 * j + e)) v) (opZ M) e), uX11_now (uX11_records T K') (enC (gX11_now T) M j e v))) else some (Sum.inl 3) else some (Sum.inl 2) else some (Sum.inl 1) := by
    unfold DX11_mark
    rw [C_reqJE hC' hMI' hj hj' he he', tx_p, c3]
    simp only [iI_lit, jn_eq]
    rw [if_eq (by omega) (by omega) (by omega) (by omega)]
    by_cases q : (0 ≤ j ∧ j < M 0) ∧ (0 ≤ e ∧ e < M 6)
    · rw [if_pos q, if_pos q]
      have core : ((DX11_isBetween (iI v) (iI 0) (iI mo)).bind fun x5 => tx (DX11_requireArgument x5) (fun x7 => tx (DX11_enter T (iI j) (iI e) (iI v)) (fun x9 => some (Sum.inr (x9.1, x9.2))))) = if 0 ≤ v ∧ v ≤ mo then if mayMarkZ M j e = true then some (Sum.inr (iI (countingZ (updI M (opZ M + (12 * j + e)) v) (opZ M) e), uX11_now (uX11_records T K') (enC (gX11_now T) M j e v))) else some (Sum.inl 3) else some (Sum.inl 2) := by
        rw [C_between hv hv' (by omega) (by omega) (by omega) (by omega)]
        simp only [Option.bind_some, C_reqA, tx_d]
        by_cases q1 : 0 ≤ v ∧ v ≤ mo
        · rw [if_pos q1, if_pos q1, C_enter h' k1 (by omega) (by omega) (by omega) (by omega) (by omega) (by omega)]
          by_cases q2 : mayMarkZ M j e = true
          · rw [if_pos q2]; rfl
          · rw [if_neg q2]; rfl
        · rw [if_neg q1, if_neg q1]
      by_cases q3 : M 3 = 2
      · rw [if_pos q3] at hmo ⊢
        rw [hmo] at core ⊢
        exact core
      · rw [if_neg q3] at hmo ⊢
        rw [hmo] at core ⊢
        exact core
    · rw [if_neg q, if_neg q]
  rw [ec]
  by_cases q : (0 ≤ j ∧ j < M 0) ∧ (0 ≤ e ∧ e < M 6)
  · by_cases q1 : 0 ≤ v ∧ v ≤ mo
    · by_cases q2 : mayMarkZ M j e = true
      · have gE := G_enter h' (K' := K') (j := j) (e := e) (v := v) (by omega) (by omega) (by omega) (by omega) (by omega) (by omega) q2
        exact EW_v h' hL _ k2 gE.1 gE.2.1 gE.2.2 (by rw [if_pos q, if_pos q1, if_pos q2]) (by rw [if_pos q, if_pos q1, if_pos q2])
      · exact EW_x (by rw [if_pos q, if_pos q1, if_neg q2]) (by rw [if_pos q, if_pos q1, if_neg q2])
    · exact EW_x (by rw [if_pos q, if_neg q1]) (by rw [if_pos q, if_neg q1])
  · exact EW_x (by rw [if_neg q]) (by rw [if_neg q])
theorem F_abstain (h : Gc T S M V c) (hL : gX12_textLength S = iI L ∧ (0 ≤ L ∧ L ≤ 40)) {j e : Int} (hj : -2147483648 ≤ j) (hj' : j < 2147483648) (he : -2147483648 ≤ e) (he' : e < 2147483648) : EW M V c L (DX11_abstain T (iI j) (iI e)) (if (0 ≤ j ∧ j < M 0) ∧ (0 ≤ e ∧ e < M 6) then if mayMarkZ M j e = true then Sum.inr (iI (countingZ (updI M (opZ M + (12 * j + e)) (-2)) (opZ M) e), (updI M (opZ M + (12 * j + e)) (-2))) else Sum.inl 3 else Sum.inl 1) := by
  have h' := h
  obtain ⟨gm, gv, gc, hz, hMK, hC, hK, hX⟩ := h
  have hMK' := hMK
  have hC' := hC
  obtain ⟨hMI, hx⟩ := hMK
  have hMI' := hMI
  obtain ⟨hR, hT, hW, hIn, hTi, hk, hs, hO, hN, hru, hba, hty, hml⟩ := hMI
  obtain ⟨c3, c4, c1, c2, cw, ce, cr, cp, cj, cs, ch, ct, cc⟩ := hC
  have hT' := hT
  obtain ⟨t0, t1, t2, t3, t4, t6, t7, t8⟩ := hT
  have h5 := hW.1
  have t12 : M 7 ≤ 12 := by omega
  obtain ⟨K', k1, k2⟩ := C_keep hK hC' hMK' hz
  have ec : DX11_abstain T (iI j) (iI e) = if (0 ≤ j ∧ j < M 0) ∧ (0 ≤ e ∧ e < M 6) then if mayMarkZ M j e = true then some (Sum.inr (iI (countingZ (updI M (opZ M + (12 * j + e)) (-2)) (opZ M) e), uX11_now (uX11_records T K') (enC (gX11_now T) M j e (-2)))) else some (Sum.inl 3) else some (Sum.inl 1) := by
    unfold DX11_abstain
    rw [C_reqJE hC' hMI' hj hj' he he', tx_p]
    simp only [iI_lit, iI_neg]
    by_cases q : (0 ≤ j ∧ j < M 0) ∧ (0 ≤ e ∧ e < M 6)
    · rw [if_pos q, if_pos q, C_enter h' k1 (by omega) (by omega) (by omega) (by omega) (by omega) (by omega)]
      by_cases q2 : mayMarkZ M j e = true
      · rw [if_pos q2]; rfl
      · rw [if_neg q2]; rfl
    · rw [if_neg q, if_neg q]
  rw [ec]
  by_cases q : (0 ≤ j ∧ j < M 0) ∧ (0 ≤ e ∧ e < M 6)
  · by_cases q2 : mayMarkZ M j e = true
    · have gE := G_enter h' (K' := K') (j := j) (e := e) (v := -2) (by omega) (by omega) (by omega) (by omega) (by omega) (by omega) q2
      exact EW_v h' hL _ k2 gE.1 gE.2.1 gE.2.2 (by rw [if_pos q, if_pos q2]) (by rw [if_pos q, if_pos q2])
    · exact EW_x (by rw [if_pos q, if_neg q2]) (by rw [if_pos q, if_neg q2])
  · exact EW_x (by rw [if_neg q]) (by rw [if_neg q])
theorem F_withdraw (h : Gc T S M V c) (hL : gX12_textLength S = iI L ∧ (0 ≤ L ∧ L ≤ 40)) {e : Int} (he : -2147483648 ≤ e) (he' : e < 2147483648) {o : Nat ⊕ (Int32 × (Int → Int))} (ho : (0 ≤ e ∧ e < M 6 → mwZ M e → o = Sum.inr (iI (countInZ (wdZ M e)), wdZ M e)) ∧ (0 ≤ e ∧ e < M 6 → ¬ mwZ M e → o = Sum.inl 3) ∧ (¬ (0 ≤ e ∧ e < M 6) → o = Sum.inl 1)) : EW M V c L (DX11_withdraw T (iI e)) o := by
  have h' := h
  obtain ⟨gm, gv, gc, hz, hMK, hC, hK, hX⟩ := h
  have hMK' := hMK
  have hC' := hC
  obtain ⟨hMI, hx⟩ := hMK
  have hMI' := hMI
  obtain ⟨hR, hT, hW, hIn, hTi, hk, hs, hO, hN, hru, hba, hty, hml⟩ := hMI
  obtain ⟨c3, c4, c1, c2, cw, ce, cr, cp, cj, cs, ch, ct, cc⟩ := hC
  have hT' := hT
  obtain ⟨t0, t1, t2, t3, t4, t6, t7, t8⟩ := hT
  have h5 := hW.1
  have t12 : M 7 ≤ 12 := by omega
  obtain ⟨K', k1, k2⟩ := C_keep hK hC' hMK' hz
  by_cases q : 0 ≤ e ∧ e < M 6
  · have hIe := hIn e q.1 (by omega)
    have ci := C_isIn ce hIn (by omega) (by omega) (e := e) q.1 (by omega)
    have chp := C_hasPlayed cs hs hR (e := e) q.1 (by omega)
    by_cases qw : mwZ M e
    · have qw0 := qw
      obtain ⟨n1, n2, n3, n4, n5, n6, n7, n8⟩ := G_wd h' q.1 q.2 qw
      have hcn := R_countIn (S := uX12_m (kS S M V c (iI 0)) (mI (wdZ M e))) um_m n2.1.2.1
      obtain ⟨w1, w2, w3⟩ := qw
      have e2 : cE (uX2_in (gX0_entrants (gX11_now T)) (upd (gX2_in (gX0_entrants (gX11_now T))) e.toNat (iI 0))) (wdZ M e) := by
        refine ⟨by rw [n5 6 (by omega)]; exact ce.1, fun d a b => ?_⟩
        show upd (gX2_in (gX0_entrants (gX11_now T))) e.toNat (iI 0) d.toNat = _
        unfold upd
        by_cases q1 : d = e
        · rw [if_pos (by omega), q1, n6]
        · rw [if_neg (by omega), n5 _ (by omega)]; exact ce.2 d a b
      have hcn := C_countIn e2 n2.1.2.2.2.1 n2.1.2.1
      have pb := plcZ_b M e t12
      have lg : ∃ C', DX0_letGo (gX11_now T) (iI e) = some C' ∧ Cp C' (wdZ M e) ∧ gX0_entrants C' = uX2_in (gX0_entrants (gX11_now T)) (upd (gX2_in (gX0_entrants (gX11_now T))) e.toNat (iI 0)) := by
        unfold DX0_letGo
        rw [C_putOut ce (by omega) q.1 q.2]
        simp only [Option.bind_some, lt_eq, jn_eq, iI_lit]
        rw [show ∀ E, gX0_stage (uX0_entrants (gX11_now T) E) = gX0_stage (gX11_now T) from fun _ => rfl]
        unfold DX7_unseat
        rw [C_placeOf cs hR hT' (by omega) (by omega)]
        simp only [Option.bind_some, iI_lit, iI_neg, lt_eq]
        rw [if_eq (by omega) (by omega) (by omega) (by omega)]
        by_cases q1 : plcZ M e = -1
        · have g := n7 q1
          rw [if_pos q1]
          simp only [Option.bind_some]
          rw [show ∀ E Tt, gX0_state (uX0_stage (uX0_entrants (gX11_now T) E) Tt) = gX0_state (gX11_now T) from fun _ _ => rfl, c3, show ∀ C Tt, gX0_stage (uX0_stage C Tt) = Tt from fun _ _ => rfl, cs.1, if_eq (by omega) (by omega) (by omega) (by omega), if_eq (by omega) (by omega) (by omega) (by omega)]
          refine ⟨uX0_stage (uX0_entrants (gX11_now T) (uX2_in (gX0_entrants (gX11_now T)) (upd (gX2_in (gX0_entrants (gX11_now T))) e.toNat (iI 0)))) (gX0_stage (gX11_now T)), ?_, ⟨(by rw [g 3 (by omega)]; exact c3), (by rw [g 4 (by omega)]; exact c4), (by rw [g 1 (by omega)]; exact c1), (by rw [g 2 (by omega)]; exact c2), (cW_c (fun k hk => g k (by omega)) h5.2 cw), ?_, (cR_c (fun k hk => g k (by omega)) cr), (cP_c (fun k hk => g k (by omega)) hW cp), (cJ_c (fun k hk => g k (by omega)) cj), (cS_c (fun k hk => g k (by omega)) t12 cs), (cH_c (fun k hk => g k (by omega)) ch), (cT_c (fun k hk => g k (by omega)) ct), (cC_c (fun k hk => g k (by omega)) cc)⟩, rfl⟩
          · by_cases q2 : M 3 = 1
            · have := hx.1 q2
              rw [if_pos q2, if_neg (by omega)]
            · rw [if_neg q2]
          · exact e2
        · obtain ⟨g7, g3, g31, g8p, gp7, gk⟩ := n8 q1
          have g := n5
          rw [if_neg q1]
          obtain ⟨o, o1, o2⟩ := C_unseatL hT' cs (p := plcZ M e) (by omega) gp7 (fun S6 => some (uX7_players S6 (gX7_players S6 - iI 1)))
          rw [o1]
          simp only [Option.bind_some]
          rw [show gX7_players (uX7_order (gX0_stage (gX11_now T)) o) = iI (M 7) from cs.1, iI_sub, show ∀ E Tt, gX0_state (uX0_stage (uX0_entrants (gX11_now T) E) Tt) = gX0_state (gX11_now T) from fun _ _ => rfl, c3, show ∀ C Tt, gX0_stage (uX0_stage C Tt) = Tt from fun _ _ => rfl, show ∀ Tt v, gX7_players (uX7_players Tt v) = v from fun _ _ => rfl, if_eq (by omega) (by omega) (by omega) (by omega), if_eq (by omega) (by omega) (by omega) (by omega), if_pos g31]
          have e3 : cS (uX7_players (uX7_order (gX0_stage (gX11_now T)) o) (iI (M 7 - 1))) (wdZ M e) := by
            refine ⟨by rw [g7]; rfl, by rw [g 8 (by omega)]; exact cs.2.1, by rw [g 11 (by omega)]; exact cs.2.2.1, fun k a b => ?_, fun d a b => ?_⟩
            · rw [g7] at b
              show o k.toNat = _
              rw [o2 k a b, gk k a (by omega)]
              by_cases q2 : plcZ M e ≤ k
              · rw [if_pos q2, if_pos (by omega)]
              · rw [if_neg q2, if_neg (by omega)]
            · rw [n4 d, g _ (by omega)]
              exact cs.2.2.2.2 d a b
          refine ⟨uX0_state (uX0_stage (uX0_entrants (gX11_now T) (uX2_in (gX0_entrants (gX11_now T)) (upd (gX2_in (gX0_entrants (gX11_now T))) e.toNat (iI 0)))) (uX7_players (uX7_order (gX0_stage (gX11_now T)) o) (iI (M 7 - 1)))) (iI (wdZ M e 3)), ?_, ⟨?_, (by rw [g 4 (by omega)]; exact c4), (by rw [g 1 (by omega)]; exact c1), (by rw [g 2 (by omega)]; exact c2), (cW_c (fun k hk => g k (by omega)) h5.2 cw), ?_, (cR_c (fun k hk => g k (by omega)) cr), (cP_c (fun k hk => g k (by omega)) hW cp), (cJ_c (fun k hk => g k (by omega)) cj), ?_, (cH_c (fun k hk => g k (by omega)) ch), (cT_c (fun k hk => g k (by omega)) ct), (cC_c (fun k hk => g k (by omega)) cc)⟩, rfl⟩
          · rw [g3]
            by_cases q2 : M 7 - 1 = 0
            · rw [if_pos q2, if_pos q2]
            · rw [if_neg q2, if_neg q2, ← c3]
              rfl
          · rfl
          · exact e2
          · exact e3
      obtain ⟨C', l1, l2, l3⟩ := lg
      refine EW_v h' hL (iI (countInZ (wdZ M e))) k2 n1 n2 l2 ?_ (ho.1 q qw0)
      unfold DX11_withdraw
      rw [C_reqEntrant hC' hMI' he he', tx_p, if_pos q, ci, chp, c3]
      simp only [Option.bind_some, iI_lit, jn_eq, lt_eq, if_bz]
      rw [w1, reqS1, tx_r, if_eq (by omega) (by omega) (by omega) (by omega), if_eq (by omega) (by omega) (by omega) (by omega)]
      have fin : (tx (DX11_requireState (iI 1)) fun _ => (DX5_keep (gX11_records T) (gX11_now T)).bind fun x11 => (DX0_letGo (gX11_now (uX11_records T x11)) (iI e)).bind fun x15 => (DX2_countIn (gX0_entrants (gX11_now (uX11_now (uX11_records T x11) x15)))).bind fun x19 => some (Sum.inr (x19, uX11_now (uX11_records T x11) x15))) = some (Sum.inr (iI (countInZ (wdZ M e)), uX11_now (uX11_records T K') C')) := by
        rw [reqS1, tx_r, k1]
        simp only [Option.bind_some, ur_now, un_now]
        rw [l1]
        simp only [Option.bind_some]
        rw [l3, hcn]
        rfl
      by_cases q1 : M 3 = 0
      · rw [if_pos q1]
        exact fin
      · have q2 : M 3 = 1 := by omega
        rw [if_neg q1, if_pos q2, if_neg (fun h => w3 ⟨q2, h⟩)]
        exact fin
    · refine EW_x ?_ (ho.2.1 q qw)
      · unfold DX11_withdraw
        rw [C_reqEntrant hC' hMI' he he', tx_p, if_pos q, ci, chp, c3]
        simp only [Option.bind_some, iI_lit, jn_eq, lt_eq, if_bz, reqS0, tx_l]
        rcases hIe.1 with h9 | h9
        · rw [h9, reqS0, tx_l]
        · rw [h9, reqS1, tx_r, if_eq (by omega) (by omega) (by omega) (by omega), if_eq (by omega) (by omega) (by omega) (by omega)]
          unfold mwZ at qw
          by_cases q1 : M 3 = 0
          · exact absurd ⟨h9, by omega, fun h => by omega⟩ qw
          · rw [if_neg q1]
            by_cases q2 : M 3 = 1
            · rw [if_pos q2]
              cases hh : hpZ M e with
              | false => exact absurd ⟨h9, by omega, fun h => by rw [hh] at h; cases h.2⟩ qw
              | true => rw [if_pos rfl]
            · rw [if_neg q2]
  · refine EW_x ?_ (ho.2.2 q)
    · unfold DX11_withdraw
      rw [C_reqEntrant hC' hMI' he he', tx_p, if_neg q]
end EW1
