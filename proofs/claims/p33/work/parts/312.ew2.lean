section EW2
variable {M N V : Int → Int} {T : SX11} {S : SX12} {C : SX0} {c L : Int}
theorem um_L {x : Nat → Int32} : gX12_textLength (uX12_m S x) = gX12_textLength S := id rfl
theorem us_L {v : Int32} : gX12_textLength (uX12_savedCount S v) = gX12_textLength S := id rfl
theorem uc_L {v : Int32} : gX12_textLength (uX12_code S v) = gX12_textLength S := id rfl
/-- the cells once a round or a tie round is closed -/
def clN (M : Int → Int) : Int → Int := if M 3 = 1 then seZ (clsZ M (M 6)) (sR M) (M (ruleZ (M 4) 5)) else seZ M (sT M) (M 9)
theorem F_close (h : Gc T S M V c) (hL : gX12_textLength S = iI L ∧ (0 ≤ L ∧ L ≤ 40)) {o : Nat ⊕ (Int32 × (Int → Int))} (ho : (isClosableZ M = true → o = Sum.inr (iI (clN M 3), clN M)) ∧ (isClosableZ M = false → o = Sum.inl 3)) : EW M V c L (DX11_close T) o := by
  have h' := h
  obtain ⟨gm, gv, gc, hz, hMK, hC, hK, hX⟩ := h
  have hMK' := hMK
  have hC' := hC
  obtain ⟨hMI, hx⟩ := hMK
  have hMI' := hMI
  obtain ⟨hR, hT, hW, hIn, hTi, hk, hs, hO, hN, hru, hba, hty, hml⟩ := hMI
  obtain ⟨c3, c4, c1, c2, cw, ce, cr, cp, cj, cs, ch, ct, cc⟩ := hC
  have hT' := hT
  obtain ⟨t0, t1, t2, t3, t4, t6, t7, t8⟩ := hT
  have h5 := hW.1
  have t12 : M 7 ≤ 12 := by omega
  obtain ⟨K', k1, k2⟩ := C_keep hK hC' hMK' hz
  have hcc := C_canBeClosed hC' hMI'
  cases hq : isClosableZ M with
  | false =>
    refine EW_x ?_ (ho.2 hq)
    unfold DX11_close
    rw [hcc, hq]
    simp only [Option.bind_some]
    rw [show DX11_requireState (bI false) = some (Sum.inl 3) from reqS0]
    rfl
  | true =>
    have h3 : M 3 = 1 ∨ M 3 = 2 := by
      have := hq
      unfold isClosableZ at this
      rw [Bool.and_eq_true] at this
      exact of_decide_eq_true this.1
    rw [hq] at hcc
    have ty := hty.2.2.2.2.2.1
    by_cases q3 : M 3 = 1
    · -- the round
      have hru' := hru (M 4) (by omega) (by omega)
      obtain ⟨J, j1, j2⟩ := C_judgeRound hC' hMI'
      obtain ⟨xMK, xz⟩ := cls_MK hMK' hz
      have xC := cls_Cp hMK' hC' (K' := J) j2.2.2.2.2.2
      have g : ∀ k : Int, ¬ (666 ≤ k ∧ k < 666 + 4 * M 6) → clsZ M (M 6) k = M k := fun k hk => cls_fr hk
      have sa : sR (clsZ M (M 6)) = sR M := sR_all (fun k a b => g k (by omega)) hT' hO
      have x3 := g 3 (by omega)
      have x10 := g 10 (by omega)
      have m10 := (hty.2.2.1 (by omega)).2
      have hpl : ∀ e : Int, 0 ≤ e → e < 12 → sR M e ≠ -1 → plcZ (clsZ M (M 6)) e ≠ -1 := fun e a b h9 => by
        rw [plc_c (M := M) (N := clsZ M (M 6)) (fun k hk => g k (by omega)) t12]
        exact fun h8 => h9 (if_pos h8)
      obtain ⟨b, C', C2, a1, a2, a3⟩ := C_settle (C := uX0_closedScores (uX0_cut (gX11_now T) J) (upd2 (gX0_closedScores (gX11_now T)) (M 4).toNat (gX1_scores J))) xMK xz xC j2 hru'.1 hru'.2 (sR_b hMI') hpl (by omega)
      have ec := C_clA hcc k1 (Or.inl ⟨by rw [c3, q3], C_decR hC' hMI' j1 a1⟩) a3
      obtain ⟨nn, nm⟩ := se_ok xMK xz (by omega) hru'.1 hru'.2 (sR_b hMI') hpl
      have en : clN M = seZ (clsZ M (M 6)) (sR M) (M (ruleZ (M 4) 5)) := if_pos q3
      exact EW_v h' hL (iI (seZ (clsZ M (M 6)) (sR M) (M (ruleZ (M 4) 5)) 3)) k2 nn nm a2 (by rw [ec, a2.1]) (by rw [ho.1 hq, en])
    · -- a tie round
      have q2 : M 3 = 2 := by omega
      have h9 := (hty.2.2.2.1 q2).1
      have h9' := hty.2.2.2.2.1.2
      obtain ⟨J, j1, j2⟩ := C_judgeTie hC' hMI'
      have hpl : ∀ e : Int, 0 ≤ e → e < 12 → sT M e ≠ -1 → plcZ M e ≠ -1 := fun e a b h9 => by
        refine (hty.1 e a b ?_).2
        refine Classical.byContradiction fun h8 => h9 ?_
        unfold sT
        rw [if_neg h8]
      obtain ⟨nn, nm⟩ := se_ok hMK' hz (by omega) h9 h9' (sT_b hMI') hpl
      have ec : ∃ C2, DX11_close T = some (Sum.inr (gX0_state C2, uX11_now (uX11_records T K') C2)) ∧ Cp C2 (seZ M (sT M) (M 9)) := by
        by_cases q10 : M 10 = 3
        · obtain ⟨C1, C', C2, a1, a2, a3, a4⟩ := C_settle3 (C := uX0_cut (gX11_now T) J) hMK' hz (Cp_cut hC' J) j2 h9 h9' (sT_b hMI') hpl q10
          exact ⟨C2, C_clA (b := true) hcc k1 (Or.inr ⟨by rw [c3, q2], C_decT3 hC' j1 q10 a1 a2⟩) (by rw [if_pos rfl]; exact a4), a3⟩
        · obtain ⟨b, C', C2, a1, a2, a3⟩ := C_settle (C := uX0_cut (gX11_now T) J) hMK' hz (Cp_cut hC' J) j2 h9 h9' (sT_b hMI') hpl q10
          exact ⟨C2, C_clA hcc k1 (Or.inr ⟨by rw [c3, q2], C_decT hC' hMI' j1 q10 a1⟩) a3, a2⟩
      obtain ⟨C2, ec, a2⟩ := ec
      have en : clN M = seZ M (sT M) (M 9) := if_neg q3
      exact EW_v h' hL (iI (seZ M (sT M) (M 9) 3)) k2 nn nm a2 (by rw [ec, a2.1]) (by rw [ho.1 hq, en])
theorem AS.rr (h : AS T M V c L) : RR T M := by
  obtain ⟨S, ⟨gm, gv, gc, hz, hMK, hC, hK, hX⟩, hL⟩ := h
  exact ⟨hC, hMK.1⟩
theorem AS.mk (h : AS T M V c L) : MK M := by
  obtain ⟨S, ⟨gm, gv, gc, hz, hMK, hC, hK, hX⟩, hL⟩ := h
  exact hMK
theorem AS.nz (h : AS T M V c L) : nz M := by
  obtain ⟨S, ⟨gm, gv, gc, hz, hMK, hC, hK, hX⟩, hL⟩ := h
  exact hz
theorem AS.cb (h : AS T M V c L) : 0 ≤ c ∧ c ≤ 4 := by
  obtain ⟨S, ⟨gm, gv, gc, hz, hMK, hC, hK, hX⟩, hL⟩ := h
  exact hK.2.1
theorem F_undo (h : AS T M V c L) (h1 : 1 ≤ c) : ∃ T', DX11_undo T = some (Sum.inr (iI (c - 1), T')) ∧ AS T' (blk V (c - 1)) V (c - 1) L := by
  obtain ⟨S, ⟨gm, gv, gc, hz, hMK, hC, hK, hX⟩, hL⟩ := h
  have kb := hK.2.1
  obtain ⟨K2, C2, e1, e2, e3, e4⟩ := C_restore (C := gX11_now T) hK h1
  refine ⟨uX11_records (uX11_now T C2) K2, ?_, uX12_m (uX12_savedCount (uX12_code S (iI 0)) (iI (c - 1))) (mI (blk V (c - 1))), ⟨um_m, (by rw [um_saved, us_saved, uc_saved]; exact gv), (by rw [um_sc, sv3]), blk_nz V (c - 1), e4, e3, e2, tx_um (tx_us (tx_uc hX))⟩, (by rw [um_L, us_L, uc_L]; exact hL.1), hL.2⟩
  unfold DX11_undo
  simp only [iI_lit, jn_eq, lt_eq]
  rw [hK.1, if_le (by omega) (by omega) (by omega) (by omega), if_neg (by omega), reqS1, tx_r, e1]
  rfl
theorem F_undo_x (h : AS T M V 0 L) : DX11_undo T = some (Sum.inl 3) := by
  obtain ⟨S, ⟨gm, gv, gc, hz, hMK, hC, hK, hX⟩, hL⟩ := h
  unfold DX11_undo
  simp only [iI_lit, jn_eq, lt_eq]
  rw [hK.1, if_le (by omega) (by omega) (by omega) (by omega), if_pos (by omega), reqS0, tx_l]
/-- the text of the class: its length, its characters -/
def TX (T : SX11) (L : Int) (Tx : Int → Int) : Prop := gX8_length (gX11_text T) = iI L ∧ ∀ k : Int, 0 ≤ k → k < L → gX8_codes (gX11_text T) k.toNat = iI (Tx k)
theorem F_clear (h : AS T M V c L) : ∃ T', DX11_clearText T = some (iI L, T') ∧ AS T' M V c 0 ∧ TX T' 0 (fun _ => 0) := by
  obtain ⟨S, ⟨gm, gv, gc, hz, hMK, hC, hK, L2, Tx, x1, x2, x3, x4⟩, hL⟩ := h
  have e : L = L2 := by
    have e : iI L = iI L2 := hL.1.symm.trans x2
    rwa [iI_eq (by omega) (by omega) (by omega) (by omega)] at e
  refine ⟨uX11_text T (uX8_length (gX11_text T) (iI 0)), ?_, ⟨uX12_textLength (uX12_code S (iI 0)) (iI 0), ⟨gm, gv, gc, hz, hMK, hC, hK, 0, Tx, id rfl, id rfl, by omega, fun k k1 k2 => absurd k2 (by omega)⟩, id rfl, by omega⟩, id rfl, fun k k1 k2 => absurd k2 (by omega)⟩
  unfold DX11_clearText
  simp only [iI_lit, lt_eq]
  rw [x1, e]
theorem F_type (h : AS T M V c L) {Tx : Int → Int} (hx : TX T L Tx) {a : Int} (ha : 32 ≤ a) (ha' : a ≤ 126) (hl : L < 40) : ∃ T', DX11_type T (iI a) = some (Sum.inr (iI (L + 1), T')) ∧ AS T' M V c (L + 1) ∧ TX T' (L + 1) (updI Tx L a) := by
  obtain ⟨S, ⟨gm, gv, gc, hz, hMK, hC, hK, L2, Ty, x1, x2, x3, x4⟩, hL⟩ := h
  have e : L = L2 := by
    have e : iI L = iI L2 := hL.1.symm.trans x2
    rwa [iI_eq (by omega) (by omega) (by omega) (by omega)] at e
  subst e
  refine ⟨uX11_text T (uX8_length (uX8_codes (gX11_text T) (upd (gX8_codes (gX11_text T)) L.toNat (iI a))) (iI (L + 1))), ?_, ⟨uX12_textLength (uX12_text (uX12_code S (iI 0)) (upd (gX12_text S) L.toNat (iI a))) (iI (L + 1)), ⟨gm, gv, gc, hz, hMK, hC, hK, L + 1, updI Ty L a, id rfl, id rfl, by omega, ?_⟩, id rfl, by omega⟩, id rfl, ?_⟩
  · unfold DX11_type
    simp only [iI_lit, jn_eq, lt_eq]
    rw [C_between (by omega) (by omega) (by omega) (by omega) (by omega) (by omega)]
    simp only [Option.bind_some, C_reqA, tx_d]
    rw [if_pos ⟨ha, ha'⟩, x1, if_le (by omega) (by omega) (by omega) (by omega), if_neg (by omega), reqS1, tx_r]
    unfold DX8_append
    simp only [iI_lit, jn_eq, lt_eq]
    rw [x1, if_le (by omega) (by omega) (by omega) (by omega), if_neg (by omega), gd_iI (by omega) (by omega) (by omega), iI_nat (by omega) (by omega), show ∀ v, gX8_length (uX8_codes (gX11_text T) v) = gX8_length (gX11_text T) from fun _ => rfl, x1, iI_add]
    rfl
  · intro k k1 k2
    show upd (gX8_codes (gX11_text T)) L.toNat (iI a) k.toNat = _ ∧ upd (gX12_text S) L.toNat (iI a) k.toNat = _ ∧ _
    unfold upd
    by_cases q3 : k = L
    · rw [if_pos (by omega), if_pos (by omega), q3, updI_self]
      exact ⟨rfl, rfl, ha, ha'⟩
    · rw [if_neg (by omega), if_neg (by omega), updI_ne q3]
      exact x4 k k1 (by omega)
  · intro k k1 k2
    show upd (gX8_codes (gX11_text T)) L.toNat (iI a) k.toNat = _
    unfold upd
    by_cases q3 : k = L
    · rw [if_pos (by omega), q3, updI_self]
    · rw [if_neg (by omega), updI_ne q3]
      exact hx.2 k k1 (by omega)
theorem F_type_x (h : AS T M V c L) {a : Int} (ha : -2147483648 ≤ a) (ha' : a < 2147483648) (q : ¬ (32 ≤ a ∧ a ≤ 126)) : DX11_type T (iI a) = some (Sum.inl 2) := by
  unfold DX11_type
  simp only [iI_lit, jn_eq, lt_eq]
  rw [C_between (by omega) (by omega) (by omega) (by omega) (by omega) (by omega)]
  simp only [Option.bind_some, C_reqA, tx_d]
  rw [if_neg q]
/-- the text read: what it comes to, what it leaves -/
theorem F_fault (h : AS T M V c L) {z : Int} {X' : SX8} (hf : DX8_faultAmong (gX11_text T) (iI (M 5)) = some (iI z, X')) : DX11_fault T = some (iI z, uX11_text T X') ∧ AS (uX11_text T X') M V c L ∧ samX (gX11_text T) X' := by
  obtain ⟨S, ⟨gm, gv, gc, hz, hMK, hC, hK, L2, Tx, hT⟩, hL⟩ := h
  have h5 := hMK.1.2.2.1.1
  obtain ⟨z2, X2, S', y1, y2, y3, y4, -⟩ := T_fault (X := gX11_text T) (S := uX12_code S (iI 0)) h5.1 h5.2 hT gm
  have e := Option.some.inj (hf.symm.trans y3)
  have e2 : X' = X2 := congrArg Prod.snd e
  subst e2
  refine ⟨?_, ⟨S', ⟨y2.1.trans gm, y2.2.1.trans gv, y2.2.2.1.trans gc, hz, hMK, hC, hK, c_tx (tI_s (S := uX12_code S (iI 0)) hT y2 y1)⟩, (y2.2.2.2.2.1).trans hL.1, hL.2⟩, y1⟩
  unfold DX11_fault
  rw [hC.2.2.2.2.1.1, hf]
  rfl
theorem F_wouldBe (h : AS T M V c L) {w : Int} (hw : 0 ≤ w) (hw' : w ≤ 2) : ∃ C', DX11_wouldBe (gX11_now T) (iI w) = some (Sum.inr (iI (if M 3 = 1 ∧ isClosableZ M = true then cn (fun e => decide (ftZ (sR M) (M (ruleZ (M 4) 5)) e = w)) 12 else -1), C')) ∧ AS (uX11_now T C') M V c L := by
  obtain ⟨S, ⟨gm, gv, gc, hz, hMK, hC, hK, hX⟩, hL⟩ := h
  have hI := hMK.1
  have t3 := hI.2.1.2.2.2.1
  have t4 := hI.2.1.2.2.2.2.1
  have c3 := hC.1
  by_cases q1 : M 3 = 1 ∧ isClosableZ M = true
  · obtain ⟨K', k1, k2⟩ := C_judgeRound hC hI
    have hp := hI.2.2.2.2.2.2.2.2.2.1 (M 4) (by omega) (by omega)
    have fc := ft_cnt (s := sR M) (p := M (ruleZ (M 4) 5)) hp.1 (fun e he => (sR_b hI e he).1)
    have val : (if w = 0 then (if tieZ (sR M) (M (ruleZ (M 4) 5)) = true then abZ (sR M) (M (ruleZ (M 4) 5)) else abZ (sR M) (M (ruleZ (M 4) 5)) + lvZ (sR M) (M (ruleZ (M 4) 5))) else if w = 1 then (if tieZ (sR M) (M (ruleZ (M 4) 5)) = true then lvZ (sR M) (M (ruleZ (M 4) 5)) else 0) else beZ (sR M) (M (ruleZ (M 4) 5))) = cn (fun e => decide (ftZ (sR M) (M (ruleZ (M 4) 5)) e = w)) 12 := by
      have hc : w = 0 ∨ w = 1 ∨ w = 2 := by omega
      rcases hc with rfl | rfl | rfl
      · rw [if_pos rfl]; exact fc.1.symm
      · rw [if_neg (by decide), if_pos rfl]; exact fc.2.1.symm
      · rw [if_neg (by decide), if_neg (by decide)]; exact fc.2.2.symm
    refine ⟨uX0_cut (gX11_now T) K', ?_, S, ⟨gm, gv, gc, hz, hMK, Cp_cut hC _, hK, hX⟩, hL⟩
    rw [if_pos q1]
    unfold DX11_wouldBe
    simp only [iI_lit, jn_eq, lt_eq, show gX11n_now (gX11_now T) = gX11_now T from rfl]
    rw [C_between (by omega) (by omega) (by omega) (by omega) (by omega) (by omega), c3, C_canBeClosed hC hI, k1]
    simp only [Option.bind_some, C_reqA, tx_d, if_bz]
    rw [if_pos ⟨hw, hw'⟩, if_eq (by omega) (by omega) (by omega) (by omega), if_pos q1.1, if_pos q1.2, show gX0_cut (gX11n_now (uX11n_now (gX11_now T) (uX0_cut (gX11_now T) K'))) = K' from rfl, C_countOf k2 (by omega) (by omega) hw hw', val]
    rfl
  · refine ⟨gX11_now T, ?_, S, ⟨gm, gv, gc, hz, hMK, hC, hK, hX⟩, hL⟩
    rw [if_neg q1]
    unfold DX11_wouldBe
    simp only [iI_lit, iI_neg, jn_eq, lt_eq, show gX11n_now (gX11_now T) = gX11_now T from rfl]
    rw [C_between (by omega) (by omega) (by omega) (by omega) (by omega) (by omega), c3, C_canBeClosed hC hI]
    simp only [Option.bind_some, C_reqA, tx_d, if_bz]
    rw [if_pos ⟨hw, hw'⟩, if_eq (by omega) (by omega) (by omega) (by omega)]
    by_cases q2 : M 3 = 1
    · rw [if_pos q2, if_neg (fun h => q1 ⟨q2, h⟩)]
    · rw [if_neg q2]
theorem F_wouldBe_x (h : RR T M) {w : Int} (hw : -2147483648 ≤ w) (hw' : w < 2147483648) (q : ¬ (0 ≤ w ∧ w ≤ 2)) : DX11_wouldBe (gX11_now T) (iI w) = some (Sum.inl 2) := by
  unfold DX11_wouldBe
  simp only [iI_lit, iI_neg, jn_eq, lt_eq]
  rw [C_between hw hw' (by omega) (by omega) (by omega) (by omega)]
  simp only [Option.bind_some, C_reqA, tx_d]
  rw [if_neg q]
theorem F_sum (h : AS T M V c L) : DX11_checksum T = some (sumZ M L c) := by
  obtain ⟨S, ⟨gm, gv, gc, hz, hMK, hC, hK, L2, Tx, x1, x2, x3, x4⟩, hL⟩ := h
  have e : L = L2 := by
    have e : iI L = iI L2 := hL.1.symm.trans x2
    rwa [iI_eq (by omega) (by omega) (by omega) (by omega)] at e
  subst e
  exact C_sum hC hMK.1 x1 hK.1
theorem F_setProgram_x (h : RR T M) {e r : Int} (he : -2147483648 ≤ e) (he' : e < 2147483648) (hr : -2147483648 ≤ r) (hr' : r < 2147483648) (q : ¬ ((0 ≤ e ∧ e < M 6) ∧ (0 ≤ r ∧ r ≤ 3))) : DX11_setProgram T (iI e) (iI r) = some (Sum.inl 1) := by
  unfold DX11_setProgram
  rw [C_reqER h.1 h.2 he he' hr hr', tx_p, if_neg q]
theorem F_setProgram (h : AS T M V c L) {e r : Int} (he : -2147483648 ≤ e) (he' : e < 2147483648) (hr : -2147483648 ≤ r) (hr' : r < 2147483648) (q : (0 ≤ e ∧ e < M 6) ∧ (0 ≤ r ∧ r ≤ 3)) {X' : SX8} (hf : DX8_faultAmong (gX11_text T) (iI (M 5)) = some (iI (-1), X')) : ∃ (F : Nat) (nn ss : Nat → Int), (1 ≤ F ∧ F ≤ 4) ∧ nX X' F nn ss ∧ (∀ k : Nat, k < F → 0 ≤ nn k ∧ nn k < M 5) ∧ ∃ T', DX11_setProgram T (iI e) (iI r) = some (Sum.inr (iI F, T')) ∧ AS T' (spZ M (cellZ e r) F nn F) (keepV V M c) (keepC c) L := by
  obtain ⟨S, h, hL⟩ := h
  have h' := h
  obtain ⟨gm, gv, gc, hz, hMK, hC, hK, hX⟩ := h
  have hMK' := hMK
  have hC' := hC
  obtain ⟨hMI, hx⟩ := hMK
  have hMI' := hMI
  obtain ⟨hR, hT, hW, hIn, hTi, hk, hs, hO, hN, hru, hba, hty, hml⟩ := hMI
  obtain ⟨c3, c4, c1, c2, cw, ce, cr, cp, cj, cs, ch, ct, cc⟩ := hC
  have hT' := hT
  obtain ⟨t0, t1, t2, t3, t4, t6, t7, t8⟩ := hT
  have h5 := hW.1
  have t12 : M 7 ≤ 12 := by omega
  obtain ⟨K', k1, k2⟩ := C_keep hK hC' hMK' hz
  obtain ⟨L2, Tx, hT9⟩ := hX
  obtain ⟨z2, X2, S1, y1, y2, y3, y4, y5, y6⟩ := T_fault h5.1 h5.2 hT9 gm
  have e8 := Option.some.inj (hf.symm.trans y3)
  have e9 : X' = X2 := congrArg Prod.snd e8
  have e7 : z2 = -1 := by
    have e7 : iI (-1) = iI z2 := congrArg Prod.fst e8
    rw [iI_eq (by omega) (by omega) (by omega) (by omega)] at e7
    omega
  subst e9
  subst e7
  have hG1 : ∀ v, Gc (uX11_text T X') (uX12_code S1 v) M V c := fun v => ⟨y2.1.trans gm, y2.2.1.trans gv, y2.2.2.1.trans gc, hz, hMK', hC', hK, tx_uc (c_tx (tI_s hT9 y2 y1))⟩
  have eW : DX8_faultAmong (gX11_text T) (gX10_count (gX0_works (gX11_now T))) = some (iI (-1), X') := by rw [cw.1]; exact y3
  obtain ⟨F, nn, ss, hF, n1, n2, n3⟩ := y6 rfl
  have nb := wr_none F (fun k hk => (n1.2 k hk).2.2.2.1) n3
  have nv : ∀ k : Nat, k < F → 0 ≤ nn k ∧ nn k < M 5 := fun k hk => by
    have := nb k hk
    unfold badZ at this
    rw [show ((k : Int)).toNat = k by omega] at this
    simp only [Bool.not_eq_false', Bool.and_eq_true, decide_eq_true_eq] at this
    exact ⟨(n1.2 k hk).2.2.1.1, this.1⟩
  have hz9 : cellZ e r = 138 + 5 * (4 * e + r) := rfl
  have g : ∀ k : Int, ¬ (cellZ e r ≤ k ∧ k ≤ cellZ e r + 4) → spZ M (cellZ e r) F nn F k = M k := fun k p => by unfold spZ; rw [if_neg (by omega), if_neg (by omega)]
  have gi : spZ M (cellZ e r) F nn F (cellZ e r) = F := if_pos rfl
  have gk : ∀ k : Int, 0 ≤ k → k < F → spZ M (cellZ e r) F nn F (cellZ e r + 1 + k) = nn k.toNat := fun k a b => by
    unfold spZ
    rw [if_neg (by omega), if_pos (by omega), show cellZ e r + 1 + k - (cellZ e r + 1) = k by omega]
  have grg : rg (spZ M (cellZ e r) F nn F) := by
    intro k
    unfold spZ
    split
    · omega
    · split
      · next q1 => have := nv (k - (cellZ e r + 1)).toNat (by omega); omega
      · exact hR k
  have gnz : nz (spZ M (cellZ e r) F nn F) := fun k hk => by rw [g k (by omega)]; exact hz k hk
  have ec : DX11_setProgram T (iI e) (iI r) = some (Sum.inr (iI F, uX11_now (uX11_records (uX11_text T X') K') (uX0_programs (gX11_now T) (fun q : Nat => if ((e * 4 + r) * 4).toNat ≤ q ∧ q < ((e * 4 + r) * 4).toNat + F then iI (nn (q - ((e * 4 + r) * 4).toNat)) else (if ((e * 4 + r) * 4).toNat ≤ q ∧ q < ((e * 4 + r) * 4).toNat + 4 then iI (-1) else gX0_programs (gX11_now T) q))))) := by
    unfold DX11_setProgram
    rw [C_reqER hC' hMI' he he' hr hr', tx_p, if_pos q, eW]
    simp only [Option.bind_some, lt_eq, jn_eq, iI_lit, iI_neg]
    rw [if_pos trivial, reqA1, tx_r, show gX11_records (uX11_text T X') = gX11_records T from rfl, show gX11_now (uX11_text T X') = gX11_now T from rfl, k1]
    simp only [Option.bind_some, ur_now]
    rw [show gX11_now (uX11_text T X') = gX11_now T from rfl, C_empty4 (by omega) (by omega) (by omega) (by omega)]
    simp only [Option.bind_some]
    rw [C_spL (U := uX11_now (uX11_records (uX11_text T X') K') (uX0_programs (gX11_now T) (fun q : Nat => if ((e * 4 + r) * 4).toNat ≤ q ∧ q < ((e * 4 + r) * 4).toNat + 4 then iI (-1) else gX0_programs (gX11_now T) q))) hF.2 n1 (by omega) (by omega) (by omega) (by omega) rfl]
    rw [show ∀ C, gX8_found (gX11_text (uX11_now (uX11_now (uX11_records (uX11_text T X') K') (uX0_programs (gX11_now T) (fun q : Nat => if ((e * 4 + r) * 4).toNat ≤ q ∧ q < ((e * 4 + r) * 4).toNat + 4 then iI (-1) else gX0_programs (gX11_now T) q))) C)) = gX8_found X' from fun _ => rfl, n1.1]
    rfl
  refine ⟨F, nn, ss, hF, n1, nv, _, ec, uX12_m (kS S1 M V c (iI 0)) (mI (spZ M (cellZ e r) F nn F)), G_new (S := S1) (T := uX11_text T X') (hG1 (gX12_code S1)) k2 gnz ?_ ?_ (iI 0), (y2.2.2.2.2.1).trans hL.1, hL.2⟩
  · generalize spZ M (cellZ e r) F nn F = N at *
    refine ⟨⟨grg, (st_c (fun k _ _ => g k (by omega)) hT'), ?_, (in_c (fun k hk => g k (by omega)) hIn), (ti_c (fun k hk => g k (by omega)) hTi), (mk_c (fun k hk => g k (by omega)) hk), (sl_c (fun k hk => g k (by omega)) t12 hs), (or_c (fun k hk => g k (by omega)) t12 hO), (np_c (fun k hk => g k (by omega)) t12 hN), (ru_c (fun k hk => g k (by omega)) hru), (ba_c (fun k hk => g k (by omega)) hba), (ty_c (fun k hk => g k (by omega)) t12 hty), (ml_c (fun k hk => g k (by omega)) hml)⟩, (x_c (fun k hk => g k (by omega)) hx)⟩
    refine ⟨by rw [g 5 (by omega)]; exact h5, fun k a b => ?_, fun e1 r1 a b d f => ?_⟩
    · rw [g 5 (by omega)] at b
      rw [g (12 + 3 * k) (by omega), g (12 + 3 * k + 1) (by omega), g (12 + 3 * k + 2) (by omega)]
      exact hW.2.1 k a b
    · obtain ⟨p5, p6⟩ := hW.2.2 e1 r1 a b d f
      rw [g 5 (by omega)]
      by_cases q1 : cellZ e1 r1 = cellZ e r
      · rw [q1, gi]
        refine ⟨by omega, fun k p7 p8 => ?_⟩
        rw [gk k p7 p8]
        exact nv k.toNat (by omega)
      · have q2 : 4 * e1 + r1 ≠ 4 * e + r := by unfold cellZ at q1; omega
        rw [g _ (by unfold cellZ; omega)]
        refine ⟨p5, fun k p7 p8 => ?_⟩
        rw [g (cellZ e1 r1 + 1 + k) (by unfold cellZ at *; omega)]
        exact p6 k p7 p8
  · generalize spZ M (cellZ e r) F nn F = N at *
    refine ⟨(by rw [g 3 (by omega)]; exact c3), (by rw [g 4 (by omega)]; exact c4), (by rw [g 1 (by omega)]; exact c1), (by rw [g 2 (by omega)]; exact c2), (cW_c (fun k hk => g k (by omega)) h5.2 cw), (cE_c (fun k hk => g k (by omega)) ce), (cR_c (fun k hk => g k (by omega)) cr), ?_, (cJ_c (fun k hk => g k (by omega)) cj), (cS_c (fun k hk => g k (by omega)) t12 cs), (cH_c (fun k hk => g k (by omega)) ch), (cT_c (fun k hk => g k (by omega)) ct), (cC_c (fun k hk => g k (by omega)) cc)⟩
    intro e1 r1 k a b d f p7 p8
    show (if ((e * 4 + r) * 4).toNat ≤ ((e1 * 4 + r1) * 4 + k).toNat ∧ ((e1 * 4 + r1) * 4 + k).toNat < ((e * 4 + r) * 4).toNat + F then iI (nn (((e1 * 4 + r1) * 4 + k).toNat - ((e * 4 + r) * 4).toNat)) else (if ((e * 4 + r) * 4).toNat ≤ ((e1 * 4 + r1) * 4 + k).toNat ∧ ((e1 * 4 + r1) * 4 + k).toNat < ((e * 4 + r) * 4).toNat + 4 then iI (-1) else gX0_programs (gX11_now T) ((e1 * 4 + r1) * 4 + k).toNat)) = _
    by_cases q1 : cellZ e1 r1 = cellZ e r
    · have q2 : 4 * e1 + r1 = 4 * e + r := by unfold cellZ at q1; omega
      unfold workAtZ
      rw [q1, gi]
      by_cases q3 : k < F
      · rw [if_pos (by omega), if_pos (by omega), gk k p7 q3, show ((e1 * 4 + r1) * 4 + k).toNat - ((e * 4 + r) * 4).toNat = k.toNat by omega]
      · rw [if_neg (by omega), if_pos (by omega), if_neg (by omega)]
    · have q2 : 4 * e1 + r1 ≠ 4 * e + r := by unfold cellZ at q1; omega
      rw [if_neg (by omega), if_neg (by omega)]
      have ew : workAtZ N e1 r1 k = workAtZ M e1 r1 k := by
        have p5 := (hW.2.2 e1 r1 a b d f).1
        unfold workAtZ
        rw [g _ (by unfold cellZ; omega)]
        by_cases q3 : 0 ≤ k ∧ k ≤ M (cellZ e1 r1) - 1
        · rw [if_pos q3, if_pos q3, g (cellZ e1 r1 + 1 + k) (by unfold cellZ at *; omega)]
        · rw [if_neg q3, if_neg q3]
      rw [ew]
      exact cp e1 r1 k a b d f p7 p8
end EW2
