section WF
variable {M N V : Int → Int} {T : SX11} {S : SX12} {C : SX0} {c : Int}
theorem K_begin (h : GG T S) {s : Int} (hs1 : -2147483648 ≤ s) (hs2 : s < 2147483648) : Ans [2, 3] T (DX11_begin T (iI s)) (DX12_begin S (iI s)) := by
  obtain ⟨M, V, c, h⟩ := h
  have h' := h
  obtain ⟨gm, gv, gc, hz, hMK, hC, hK, hX⟩ := h
  have hMK' := hMK
  have hC' := hC
  obtain ⟨hMI, hx⟩ := hMK
  have hMI' := hMI
  obtain ⟨hR, hT, hW, hIn, hTi, hk, hs, hO, hN, hru, hba, hty, hml⟩ := hMI
  obtain ⟨c3, c4, c1, c2, cw, ce, cr, cp, cj, cs, ch, ct, cc⟩ := hC
  have hT' := hT
  obtain ⟨t0, t1, t2, t3, t4, t6, t7, t8⟩ := hT
  have h5 := hW.1
  have t12 : M 7 ≤ 12 := by omega
  obtain ⟨K', k1, k2⟩ := C_keep hK hC' hMK' hz
  have er : DX12_begin S (iI s) = if 0 ≤ s then if M 3 = 0 then some (iI (brZ (updI M 11 s) 0 7), uX12_m (kS S M V c (iI 0)) (mI (brZ (updI M 11 s) 0))) else some (iI 0, uX12_code S (iI 2)) else some (iI 0, uX12_code S (iI 1)) := by
    unfold DX12_begin
    simp only [iI_lit, jn_eq, lt_eq, uc_code, gm]
    simp only [show mI M 3 = iI (M 3) from rfl, Option.bind_some, R_kS h', kS_m, um_m, um_um, gm, if_neg (show ¬ iI 1 = iI 0 by decide), if_neg (show ¬ iI 2 = iI 0 by decide), if_neg (show ¬ iI 3 = iI 0 by decide), if_pos (show iI 0 = iI 0 from rfl), if_true]
    rw [if_le (by omega) (by omega) (by omega) (by omega), if_eq (by omega) (by omega) (by omega) (by omega), mI_updN 11 _ rfl]
    by_cases q : 0 ≤ s
    · rw [if_pos q, if_pos q]
      have e6 : updI M 11 s 6 = M 6 := u_ne (by omega)
      have e11 : updI M 11 s 11 = s := updI_self _ _ _
      rw [R_beginRound um_m (rg_upd hR (by omega) (by omega)) (wk_c (fun k hk => u_ne (by omega)) hW) (by omega) (by omega) (by omega) (by omega) (by omega)]
      rfl
    · rw [if_neg q, if_neg q]
  by_cases q1 : 0 ≤ s
  · by_cases q2 : M 3 = 0
    · have e6 : updI M 11 s 6 = M 6 := u_ne (by omega)
      have e11 : updI M 11 s 11 = s := updI_self _ _ _
      have g : ∀ k : Int, ¬ (k = 11) → updI M 11 s k = M k := fun k p => u_ne p
      have hp : preI (updI M 11 s) := by
        refine ⟨rg_upd hR (by omega) (by omega), by rw [g 0 (by omega)]; exact t0, by rw [g 1 (by omega)]; exact t1, by rw [g 2 (by omega)]; exact t2, by rw [e6]; exact t6, wk_c (fun k hk => g k (by omega)) hW, in_c (fun k hk => g k (by omega)) hIn, ru_c (fun k hk => g k (by omega)) hru, ba_c (fun k hk => g k (by omega)) hba, by rw [e11]; exact q1, fun e r a b d f hq => ?_⟩
        rw [e6] at hq
        rw [g _ (by omega)]
        exact hx.2 e r a b d f hq
      obtain ⟨y1, y2, y3, y4, y5, y6, y8, y9⟩ := hty
      have hct : cT (gX0_tie (gX11_now T)) (m0Z (updI M 11 s) 0) := by
        obtain ⟨u1, u2, u3, u4⟩ := ct
        have nt : ∀ e : Int, 0 ≤ e → e < 12 → M (654 + e) = 0 := fun e a b => by
          rcases hTi e a b with h9 | h9
          · exact h9
          · have := (y1 e a b h9).1; omega
        have y3' := y3 (by omega)
        refine ⟨?_, ?_, fun e a b => ?_, fun j e a b d f => ?_⟩
        · rw [(m0_at 0 10).2.1 (by omega), u1, y3'.2]
        · rw [(m0_at 0 9).2.1 (by omega), u2, y3'.1]
        · rw [(m0_at 0 _).2.2.2 (by omega), u3 e a b, nt e a b]
        · rw [(m0_at 0 _).2.2.1 (by omega), u4 j e a b d f, y2 j e a b d f (by rw [nt e d f]; omega)]
      obtain ⟨C', e1, e2⟩ := C_startRound (C := uX0_stage (gX11_now T) (uX7_seed (gX0_stage (gX11_now T)) (jI s))) hp (r := 0) (by omega) (by omega) (by rw [g 1 (by omega)]; exact c1) (by rw [g 2 (by omega)]; exact c2) (cW_c (fun k hk => g k (by omega)) h5.2 cw) (cE_c (fun k hk => g k (by omega)) ce) (cR_c (fun k hk => g k (by omega)) cr) (cP_c (fun k hk => g k (by omega)) hW cp) (cJ_c (fun k hk => g k (by omega)) cj) (by rw [e11]; rfl) hct (cC_c (fun k hk => g k (by omega)) cc)
      refine ans_v h' (iI (brZ (updI M 11 s) 0 7)) k2 (br_nz (nz_upd hz (by omega) (by omega)) (by omega) 0) (br_MK hp (by omega) (by omega)) e2 ?_ (by rw [er, if_pos q1, if_pos q2])
      unfold DX11_begin
      simp only [iI_lit, jn_eq, lt_eq]
      rw [if_lt (by omega) (by omega) (by omega) (by omega), if_neg (by omega), reqA1, tx_r, c3, if_eq (by omega) (by omega) (by omega) (by omega), if_pos q2, reqS1, tx_r, k1, iI_l (by omega) (by omega)]
      simp only [Option.bind_some, ur_now, un_now, un_un]
      rw [e1]
      simp only [Option.bind_some]
      rw [e2.2.2.2.2.2.2.2.2.2.1.1]
    · refine ans_x h' 1 3 rfl ?_ (by rw [er, if_pos q1, if_neg q2]; rfl)
      unfold DX11_begin
      simp only [iI_lit, jn_eq, lt_eq]
      rw [if_lt (by omega) (by omega) (by omega) (by omega), if_neg (by omega), reqA1, tx_r, c3, if_eq (by omega) (by omega) (by omega) (by omega), if_neg q2, reqS0, tx_l]
  · refine ans_x h' 0 2 rfl ?_ (by rw [er, if_neg q1]; rfl)
    unfold DX11_begin
    simp only [iI_lit, jn_eq, lt_eq]
    rw [if_lt (by omega) (by omega) (by omega) (by omega), if_pos (by omega), reqA0, tx_l]
theorem us_code {v : Int32} : gX12_code (uX12_savedCount S v) = gX12_code S := id rfl
theorem us_saved {v : Int32} : gX12_saved (uX12_savedCount S v) = gX12_saved S := id rfl
theorem um_saved {x : Nat → Int32} : gX12_saved (uX12_m S x) = gX12_saved S := id rfl
theorem um_sc {x : Nat → Int32} : gX12_savedCount (uX12_m S x) = gX12_savedCount S := id rfl
theorem uc_saved {v : Int32} : gX12_saved (uX12_code S v) = gX12_saved S := id rfl
theorem tx_um {X : SX8} {x : Nat → Int32} (h : TxC X S) : TxC X (uX12_m S x) := h
theorem tx_us {X : SX8} {v : Int32} (h : TxC X S) : TxC X (uX12_savedCount S v) := h
theorem tx_uc {X : SX8} {v : Int32} (h : TxC X S) : TxC X (uX12_code S v) := h
theorem K_undo (h : GG T S) : Ans [3] T (DX11_undo T) (DX12_undo S) := by
  obtain ⟨M, V, c, h⟩ := h
  have h' := h
  obtain ⟨gm, gv, gc, hz, hMK, hC, hK, hX⟩ := h
  have hMK' := hMK
  have hC' := hC
  obtain ⟨hMI, hx⟩ := hMK
  have hMI' := hMI
  obtain ⟨hR, hT, hW, hIn, hTi, hk, hs, hO, hN, hru, hba, hty, hml⟩ := hMI
  obtain ⟨c3, c4, c1, c2, cw, ce, cr, cp, cj, cs, ch, ct, cc⟩ := hC
  have hT' := hT
  obtain ⟨t0, t1, t2, t3, t4, t6, t7, t8⟩ := hT
  have h5 := hW.1
  have t12 : M 7 ≤ 12 := by omega
  obtain ⟨K', k1, k2⟩ := C_keep hK hC' hMK' hz
  have kb := hK.2.1
  by_cases q : c = 0
  · refine ans_x (v := iI 0) h' 0 3 rfl ?_ ?_
    · unfold DX11_undo
      simp only [iI_lit, jn_eq, lt_eq]
      rw [hK.1, if_le (by omega) (by omega) (by omega) (by omega), if_pos (by omega), reqS0, tx_l]
    · unfold DX12_undo
      simp only [iI_lit, jn_eq, lt_eq, uc_code, if_neg (show ¬ iI 1 = iI 0 by decide), if_neg (show ¬ iI 2 = iI 0 by decide), if_neg (show ¬ iI 3 = iI 0 by decide), if_pos (show iI 0 = iI 0 from rfl), if_true]
      rw [gc, if_eq (by omega) (by omega) (by omega) (by omega), if_pos q]
      rfl
  · obtain ⟨K2, C2, e1, e2, e3, e4⟩ := C_restore (C := gX11_now T) hK (by omega)
    refine Or.inl ⟨iI (c - 1), uX11_records (uX11_now T C2) K2, uX12_m (uX12_savedCount (uX12_code S (iI 0)) (iI (c - 1))) (mI (blk V (c - 1))), ?_, ?_, by rw [um_code, us_code, uc_code], blk V (c - 1), V, c - 1, um_m, by rw [um_saved, us_saved, uc_saved]; exact gv, by rw [um_sc, sv3], blk_nz V (c - 1), e4, e3, e2, tx_um (tx_us (tx_uc hX))⟩
    · unfold DX11_undo
      simp only [iI_lit, jn_eq, lt_eq]
      rw [hK.1, if_le (by omega) (by omega) (by omega) (by omega), if_neg (by omega), reqS1, tx_r, e1]
      rfl
    · unfold DX12_undo
      simp only [iI_lit, jn_eq, lt_eq, uc_code, if_neg (show ¬ iI 1 = iI 0 by decide), if_neg (show ¬ iI 2 = iI 0 by decide), if_neg (show ¬ iI 3 = iI 0 by decide), if_pos (show iI 0 = iI 0 from rfl), if_true]
      rw [gc, if_eq (by omega) (by omega) (by omega) (by omega), if_neg q, show gX12_savedCount (uX12_code S (iI 0)) = iI c from gc, iI_sub, R_backL (S := uX12_savedCount (uX12_code S (iI 0)) (iI (c - 1))) (M := M) (V := V) (c := c - 1) gm gv (id rfl) (by omega) (by omega), back_blk hz]
      rfl
theorem K_type (h : GG T S) {a : Int} (ha : -2147483648 ≤ a) (ha' : a < 2147483648) : Ans [2, 3] T (DX11_type T (iI a)) (DX12_type S (iI a)) := by
  obtain ⟨M, V, c, h⟩ := h
  have h' := h
  obtain ⟨gm, gv, gc, hz, hMK, hC, hK, hX⟩ := h
  obtain ⟨L, Tx, x1, x2, x3, x4⟩ := hX
  by_cases q1 : 32 ≤ a ∧ a ≤ 126
  · by_cases q2 : L = 40
    · refine ans_x (v := iI 0) h' 1 3 rfl ?_ ?_
      · unfold DX11_type
        simp only [iI_lit, jn_eq, lt_eq]
        rw [C_between ha ha' (by omega) (by omega) (by omega) (by omega)]
        simp only [Option.bind_some, C_reqA, tx_d]
        rw [if_pos q1, x1, if_le (by omega) (by omega) (by omega) (by omega), if_pos (by omega), reqS0, tx_l]
      · unfold DX12_type
        simp only [iI_lit, jn_eq, lt_eq, uc_code, if_neg (show ¬ iI 1 = iI 0 by decide), if_neg (show ¬ iI 2 = iI 0 by decide), if_neg (show ¬ iI 3 = iI 0 by decide), if_pos (show iI 0 = iI 0 from rfl), if_true]
        rw [R_in ha ha' (by omega) (by omega) (by omega) (by omega), x2, if_eq (by omega) (by omega) (by omega) (by omega)]
        simp only [Option.bind_some, if_bz, decide_eq_true_eq]
        rw [if_pos q1, if_pos q2]
        rfl
    · refine Or.inl ⟨iI (L + 1), uX11_text T (uX8_length (uX8_codes (gX11_text T) (upd (gX8_codes (gX11_text T)) L.toNat (iI a))) (iI (L + 1))), uX12_textLength (uX12_text (uX12_code S (iI 0)) (upd (gX12_text S) L.toNat (iI a))) (iI (L + 1)), ?_, ?_, id rfl, M, V, c, gm, gv, gc, hz, hMK, hC, hK, L + 1, updI Tx L a, id rfl, id rfl, by omega, ?_⟩
      · unfold DX11_type
        simp only [iI_lit, jn_eq, lt_eq]
        rw [C_between ha ha' (by omega) (by omega) (by omega) (by omega)]
        simp only [Option.bind_some, C_reqA, tx_d]
        rw [if_pos q1, x1, if_le (by omega) (by omega) (by omega) (by omega), if_neg (by omega), reqS1, tx_r]
        unfold DX8_append
        simp only [iI_lit, jn_eq, lt_eq]
        rw [x1, if_le (by omega) (by omega) (by omega) (by omega), if_neg (by omega), gd_iI (by omega) (by omega) (by omega), iI_nat (by omega) (by omega), show ∀ v, gX8_length (uX8_codes (gX11_text T) v) = gX8_length (gX11_text T) from fun _ => rfl, x1, iI_add]
        rfl
      · unfold DX12_type
        simp only [iI_lit, jn_eq, lt_eq, uc_code, if_neg (show ¬ iI 1 = iI 0 by decide), if_neg (show ¬ iI 2 = iI 0 by decide), if_neg (show ¬ iI 3 = iI 0 by decide), if_pos (show iI 0 = iI 0 from rfl), if_true]
        rw [R_in ha ha' (by omega) (by omega) (by omega) (by omega), x2, if_eq (by omega) (by omega) (by omega) (by omega)]
        simp only [Option.bind_some, if_bz, decide_eq_true_eq]
        rw [if_pos q1, if_neg q2, show gX12_textLength (uX12_code S (iI 0)) = iI L from x2, gd_iI (by omega) (by omega) (by omega), iI_nat (by omega) (by omega), show ∀ v, gX12_textLength (uX12_text (uX12_code S (iI 0)) v) = iI L from fun _ => x2, iI_add]
        rfl
      · intro k k1 k2
        show upd (gX8_codes (gX11_text T)) L.toNat (iI a) k.toNat = _ ∧ upd (gX12_text S) L.toNat (iI a) k.toNat = _ ∧ _
        unfold upd
        by_cases q3 : k = L
        · rw [if_pos (by omega), if_pos (by omega), q3, updI_self]
          exact ⟨rfl, rfl, q1⟩
        · rw [if_neg (by omega), if_neg (by omega), updI_ne q3]
          exact x4 k k1 (by omega)
  · refine ans_x (v := iI 0) h' 0 2 rfl ?_ ?_
    · unfold DX11_type
      simp only [iI_lit, jn_eq, lt_eq]
      rw [C_between ha ha' (by omega) (by omega) (by omega) (by omega)]
      simp only [Option.bind_some, C_reqA, tx_d]
      rw [if_neg q1]
    · unfold DX12_type
      simp only [iI_lit, jn_eq, lt_eq, uc_code, if_neg (show ¬ iI 1 = iI 0 by decide), if_neg (show ¬ iI 2 = iI 0 by decide), if_neg (show ¬ iI 3 = iI 0 by decide), if_pos (show iI 0 = iI 0 from rfl), if_true]
      rw [R_in ha ha' (by omega) (by omega) (by omega) (by omega)]
      simp only [Option.bind_some, if_bz, decide_eq_true_eq]
      rw [if_neg q1]
      rfl
/-- both answer alike, a call that never throws -/
def AnsF (r1 : Option (Int32 × SX11)) (r2 : Option (Int32 × SX12)) : Prop := ∃ v T' S', r1 = some (v, T') ∧ r2 = some (v, S') ∧ GG T' S'
theorem K_clearText (h : GG T S) : AnsF (DX11_clearText T) (DX12_clearText S) := by
  obtain ⟨M, V, c, h⟩ := h
  obtain ⟨gm, gv, gc, hz, hMK, hC, hK, hX⟩ := h
  obtain ⟨L, Tx, x1, x2, x3, x4⟩ := hX
  refine ⟨iI L, uX11_text T (uX8_length (gX11_text T) (iI 0)), uX12_textLength (uX12_code S (iI 0)) (iI 0), ?_, ?_, M, V, c, gm, gv, gc, hz, hMK, hC, hK, 0, Tx, id rfl, id rfl, by omega, fun k k1 k2 => absurd k2 (by omega)⟩
  · unfold DX11_clearText
    simp only [iI_lit, lt_eq]
    rw [x1]
  · unfold DX12_clearText
    simp only [iI_lit, lt_eq]
    rw [show gX12_textLength (uX12_code S (iI 0)) = iI L from x2]
theorem K_work (h : GG T S) {w i : Int} (hw : -2147483648 ≤ w) (hw' : w < 2147483648) (hi : -2147483648 ≤ i) (hi' : i < 2147483648) : AnsR [1, 2] T (DX11_work (gX11_now T) (iI w) (iI i)) (DX12_work S (iI w) (iI i)) := by
  obtain ⟨M, V, c, h⟩ := h
  have h' := h
  obtain ⟨gm, gv, gc, hz, hMK, hC, hK, hX⟩ := h
  rw [C_work hC hMK.1 hw hw' hi hi', R_work gm hMK.1 hw hw' hi hi']
  by_cases q1 : 0 ≤ w ∧ w < M 5
  · by_cases q2 : 0 ≤ i ∧ i ≤ 2
    · exact ansR_v h' _ (by rw [if_pos q1, if_pos q2]) (by rw [if_pos q1, if_pos q2])
    · exact ansR_x h' 1 2 rfl (by rw [if_pos q1, if_neg q2]) (by rw [if_pos q1, if_neg q2]; rfl)
  · exact ansR_x h' 0 1 rfl (by rw [if_neg q1]) (by rw [if_neg q1]; rfl)
theorem K_rule (h : GG T S) {r i : Int} (hr : -2147483648 ≤ r) (hr' : r < 2147483648) (hi : -2147483648 ≤ i) (hi' : i < 2147483648) : AnsR [1, 2] T (DX11_rule (gX11_now T) (iI r) (iI i)) (DX12_rule S (iI r) (iI i)) := by
  obtain ⟨M, V, c, h⟩ := h
  have h' := h
  obtain ⟨gm, gv, gc, hz, hMK, hC, hK, hX⟩ := h
  have er : DX12_rule S (iI r) (iI i) = if 0 ≤ r ∧ r ≤ 3 then if 0 ≤ i ∧ i ≤ 5 then some (iI (M (ruleZ r i)), uX12_code S (iI 0)) else some (iI 0, uX12_code S (iI 2)) else some (iI 0, uX12_code S (iI 1)) := by
    unfold DX12_rule
    simp only [iI_lit, jn_eq, lt_eq, uc_code, uc_m, gm]
    rw [R_isRound hr hr', R_in hi hi' (by omega) (by omega) (by omega) (by omega)]
    simp only [Option.bind_some, if_bz, decide_eq_true_eq, iI_mul, iI_add, if_neg (show ¬ iI 1 = iI 0 by decide), if_neg (show ¬ iI 2 = iI 0 by decide), if_neg (show ¬ iI 3 = iI 0 by decide), if_pos (show iI 0 = iI 0 from rfl), if_true]
    by_cases q1 : 0 ≤ r ∧ r ≤ 3
    · rw [if_pos q1, if_pos q1]
      by_cases q2 : 0 ≤ i ∧ i ≤ 5
      · rw [if_pos q2, if_pos q2, gd_iI (by omega) (by omega) (by omega), mI_at (by omega) (by omega)]
        rfl
      · rw [if_neg q2, if_neg q2]
    · rw [if_neg q1, if_neg q1]
  rw [C_rule hC hr hr' hi hi', er]
  by_cases q1 : 0 ≤ r ∧ r ≤ 3
  · by_cases q2 : 0 ≤ i ∧ i ≤ 5
    · exact ansR_v h' _ (by rw [if_pos q1, if_pos q2]) (by rw [if_pos q1, if_pos q2])
    · exact ansR_x h' 1 2 rfl (by rw [if_pos q1, if_neg q2]) (by rw [if_pos q1, if_neg q2]; rfl)
  · exact ansR_x h' 0 1 rfl (by rw [if_neg q1]) (by rw [if_neg q1]; rfl)
theorem K_program (h : GG T S) {e r k : Int} (he : -2147483648 ≤ e) (he' : e < 2147483648) (hr : -2147483648 ≤ r) (hr' : r < 2147483648) (hk : -2147483648 ≤ k) (hk' : k < 2147483648) : AnsR [1] T (DX11_program (gX11_now T) (iI e) (iI r) (iI k)) (DX12_program S (iI e) (iI r) (iI k)) := by
  obtain ⟨M, V, c, h⟩ := h
  have h' := h
  obtain ⟨gm, gv, gc, hz, hMK, hC, hK, hX⟩ := h
  have hW := hMK.1.2.2.1
  have h6 := hMK.1.2.1.2.2.2.2.2.1
  by_cases q : (0 ≤ e ∧ e < M 6) ∧ (0 ≤ r ∧ r ≤ 3)
  · refine ansR_v h' (iI (workAtZ M e r k)) ?_ ?_
    · unfold DX11_program
      rw [C_reqER hC hMK.1 he he' hr hr', tx_p, if_pos q, show gX0_programs (gX11n_now (gX11_now T)) = gX0_programs (gX11_now T) from rfl, C_workAt hC.2.2.2.2.2.2.2.1 hW (by omega) (by omega) (by omega) (by omega) hk hk']
      rfl
    · unfold DX12_program
      simp only [iI_lit, jn_eq, lt_eq, uc_code]
      rw [R_isEntrant gm hMK.1.2.1 he he', R_isRound hr hr']
      simp only [Option.bind_some, if_bz, decide_eq_true_eq, if_neg (show ¬ iI 1 = iI 0 by decide), if_neg (show ¬ iI 2 = iI 0 by decide), if_neg (show ¬ iI 3 = iI 0 by decide), if_pos (show iI 0 = iI 0 from rfl), if_true]
      rw [if_pos q.1, if_pos q.2, R_workAt (S := uX12_code S (iI 0)) gm hW (by omega) (by omega) (by omega) (by omega) hk hk']
      rfl
  · refine ansR_x (v := iI 0) h' 0 1 rfl ?_ ?_
    · unfold DX11_program
      rw [C_reqER hC hMK.1 he he' hr hr', tx_p, if_neg q]
    · unfold DX12_program
      simp only [iI_lit, jn_eq, lt_eq, uc_code]
      rw [R_isEntrant gm hMK.1.2.1 he he', R_isRound hr hr']
      simp only [Option.bind_some, if_bz, decide_eq_true_eq, if_neg (show ¬ iI 1 = iI 0 by decide), if_neg (show ¬ iI 2 = iI 0 by decide), if_neg (show ¬ iI 3 = iI 0 by decide), if_pos (show iI 0 = iI 0 from rfl), if_true]
      by_cases q1 : 0 ≤ e ∧ e < M 6
      · rw [if_pos q1, if_neg (fun h => q ⟨q1, h⟩)]
        rfl
      · rw [if_neg q1]
        rfl
theorem K_flaw (h : GG T S) {e r : Int} (he : -2147483648 ≤ e) (he' : e < 2147483648) (hr : -2147483648 ≤ r) (hr' : r < 2147483648) : AnsR [1] T (DX11_flaw (gX11_now T) (iI e) (iI r)) (DX12_flaw S (iI e) (iI r)) := by
  obtain ⟨M, V, c, h⟩ := h
  have h' := h
  obtain ⟨gm, gv, gc, hz, hMK, hC, hK, hX⟩ := h
  have hW := hMK.1.2.2.1
  have h6 := hMK.1.2.1.2.2.2.2.2.1
  by_cases q : (0 ≤ e ∧ e < M 6) ∧ (0 ≤ r ∧ r ≤ 3)
  · refine ansR_v h' (iI (flawZ M e r)) ?_ ?_
    · unfold DX11_flaw
      rw [C_reqER hC hMK.1 he he' hr hr', tx_p, if_pos q, show gX11n_now (gX11_now T) = gX11_now T from rfl, C_flawOf hC.2.2.2.2.2.2.2.1 hMK.1.1 hW hC.2.2.2.2.1 hC.2.2.2.2.2.2.1 (by omega) (by omega) (by omega) (by omega)]
      rfl
    · unfold DX12_flaw
      simp only [iI_lit, jn_eq, lt_eq, uc_code]
      rw [R_isEntrant gm hMK.1.2.1 he he', R_isRound hr hr']
      simp only [Option.bind_some, if_bz, decide_eq_true_eq, if_neg (show ¬ iI 1 = iI 0 by decide), if_neg (show ¬ iI 2 = iI 0 by decide), if_neg (show ¬ iI 3 = iI 0 by decide), if_pos (show iI 0 = iI 0 from rfl), if_true]
      rw [if_pos q.1, if_pos q.2, R_flawOf (S := uX12_code S (iI 0)) gm hMK.1.1 hW (by omega) (by omega) (by omega) (by omega)]
      rfl
  · refine ansR_x (v := iI 0) h' 0 1 rfl ?_ ?_
    · unfold DX11_flaw
      rw [C_reqER hC hMK.1 he he' hr hr', tx_p, if_neg q]
    · unfold DX12_flaw
      simp only [iI_lit, jn_eq, lt_eq, uc_code]
      rw [R_isEntrant gm hMK.1.2.1 he he', R_isRound hr hr']
      simp only [Option.bind_some, if_bz, decide_eq_true_eq, if_neg (show ¬ iI 1 = iI 0 by decide), if_neg (show ¬ iI 2 = iI 0 by decide), if_neg (show ¬ iI 3 = iI 0 by decide), if_pos (show iI 0 = iI 0 from rfl), if_true]
      by_cases q1 : 0 ≤ e ∧ e < M 6
      · rw [if_pos q1, if_neg (fun h => q ⟨q1, h⟩)]
        rfl
      · rw [if_neg q1]
        rfl
theorem K_info (h : GG T S) {w : Int} (hw : -2147483648 ≤ w) (hw' : w < 2147483648) : AnsR [2] T (DX11_info (gX11_now T) (iI w)) (DX12_info S (iI w)) := by
  obtain ⟨M, V, c, h⟩ := h
  have h' := h
  obtain ⟨gm, gv, gc, hz, hMK, hC, hK, hX⟩ := h
  by_cases q : 0 ≤ w ∧ w ≤ 12
  · refine ansR_v h' (iI (infoZ M w)) ?_ ?_
    · unfold DX11_info
      simp only [iI_lit]
      rw [C_between hw hw' (by omega) (by omega) (by omega) (by omega)]
      simp only [Option.bind_some, C_reqA, tx_d]
      rw [if_pos q, show gX11n_now (gX11_now T) = gX11_now T from rfl, C_tell hC hMK.1 (by omega) (by omega)]
      rfl
    · unfold DX12_info
      simp only [iI_lit, jn_eq, lt_eq, uc_code]
      rw [R_in hw hw' (by omega) (by omega) (by omega) (by omega)]
      simp only [Option.bind_some, if_bz, decide_eq_true_eq, if_neg (show ¬ iI 1 = iI 0 by decide), if_neg (show ¬ iI 2 = iI 0 by decide), if_neg (show ¬ iI 3 = iI 0 by decide), if_pos (show iI 0 = iI 0 from rfl), if_true]
      rw [if_pos q, R_infoOf (S := uX12_code S (iI 0)) gm hMK.1.2.1 (by omega) (by omega)]
      rfl
  · refine ansR_x (v := iI 0) h' 0 2 rfl ?_ ?_
    · unfold DX11_info
      simp only [iI_lit]
      rw [C_between hw hw' (by omega) (by omega) (by omega) (by omega)]
      simp only [Option.bind_some, C_reqA, tx_d]
      rw [if_neg q]
    · unfold DX12_info
      simp only [iI_lit, jn_eq, lt_eq, uc_code]
      rw [R_in hw hw' (by omega) (by omega) (by omega) (by omega)]
      simp only [Option.bind_some, if_bz, decide_eq_true_eq, if_neg (show ¬ iI 1 = iI 0 by decide), if_neg (show ¬ iI 2 = iI 0 by decide), if_neg (show ¬ iI 3 = iI 0 by decide), if_pos (show iI 0 = iI 0 from rfl), if_true]
      rw [if_neg q]
      rfl
theorem K_entrant (h : GG T S) {e w : Int} (he : -2147483648 ≤ e) (he' : e < 2147483648) (hw : -2147483648 ≤ w) (hw' : w < 2147483648) : AnsR [1, 2] T (DX11_entrant (gX11_now T) (iI e) (iI w)) (DX12_entrant S (iI e) (iI w)) := by
  obtain ⟨M, V, c, h⟩ := h
  have h' := h
  obtain ⟨gm, gv, gc, hz, hMK, hC, hK, hX⟩ := h
  have h6 := hMK.1.2.1.2.2.2.2.2.1
  have ec : DX11_entrant (gX11_now T) (iI e) (iI w) = if 0 ≤ e ∧ e < M 6 then if 0 ≤ w ∧ w ≤ 7 then some (Sum.inr (iI (ofEntrantZ M e w))) else some (Sum.inl 2) else some (Sum.inl 1) := by
    unfold DX11_entrant
    simp only [iI_lit]
    rw [C_reqEntrant hC hMK.1 he he', tx_p, C_between hw hw' (by omega) (by omega) (by omega) (by omega)]
    simp only [Option.bind_some, C_reqA, tx_d]
    by_cases q1 : 0 ≤ e ∧ e < M 6
    · rw [if_pos q1, if_pos q1]
      by_cases q2 : 0 ≤ w ∧ w ≤ 7
      · rw [if_pos q2, if_pos q2, show gX11n_now (gX11_now T) = gX11_now T from rfl, C_tellOfEntrant hC hMK.1 (by omega) (by omega) (by omega) (by omega)]
        rfl
      · rw [if_neg q2, if_neg q2]
    · rw [if_neg q1, if_neg q1]
  have er : DX12_entrant S (iI e) (iI w) = if 0 ≤ e ∧ e < M 6 then if 0 ≤ w ∧ w ≤ 7 then some (iI (ofEntrantZ M e w), uX12_code S (iI 0)) else some (iI 0, uX12_code S (iI 2)) else some (iI 0, uX12_code S (iI 1)) := by
    unfold DX12_entrant
    simp only [iI_lit, jn_eq, lt_eq, uc_code]
    rw [R_isEntrant gm hMK.1.2.1 he he', R_in hw hw' (by omega) (by omega) (by omega) (by omega)]
    simp only [Option.bind_some, if_bz, decide_eq_true_eq, if_neg (show ¬ iI 1 = iI 0 by decide), if_neg (show ¬ iI 2 = iI 0 by decide), if_neg (show ¬ iI 3 = iI 0 by decide), if_pos (show iI 0 = iI 0 from rfl), if_true]
    by_cases q1 : 0 ≤ e ∧ e < M 6
    · rw [if_pos q1, if_pos q1]
      by_cases q2 : 0 ≤ w ∧ w ≤ 7
      · rw [if_pos q2, if_pos q2, R_ofEntrant (S := uX12_code S (iI 0)) gm hMK.1.1 hMK.1.2.1 hMK.1.2.2.2.2.2.1 hMK.1.2.2.2.2.2.2.1 (by omega) (by omega) (by omega) (by omega)]
        rfl
      · rw [if_neg q2, if_neg q2]
    · rw [if_neg q1, if_neg q1]
  rw [ec, er]
  by_cases q1 : 0 ≤ e ∧ e < M 6
  · by_cases q2 : 0 ≤ w ∧ w ≤ 7
    · exact ansR_v h' _ (by rw [if_pos q1, if_pos q2]) (by rw [if_pos q1, if_pos q2])
    · exact ansR_x h' 1 2 rfl (by rw [if_pos q1, if_neg q2]) (by rw [if_pos q1, if_neg q2]; rfl)
  · exact ansR_x h' 0 1 rfl (by rw [if_neg q1]) (by rw [if_neg q1]; rfl)
theorem K_marked (h : GG T S) {j e : Int} {β : Bool} (hj : -2147483648 ≤ j) (hj' : j < 2147483648) (he : -2147483648 ≤ e) (he' : e < 2147483648) : AnsR [1] T (DX11_marked (gX11_now T) (iI j) (iI e) (bI β)) (DX12_marked S (iI j) (iI e) (bI β)) := by
  obtain ⟨M, V, c, h⟩ := h
  have h' := h
  obtain ⟨gm, gv, gc, hz, hMK, hC, hK, hX⟩ := h
  have h6 := hMK.1.2.1.2.2.2.2.2.1
  have t0 := hMK.1.2.1.1
  obtain ⟨c3, c4, c1, c2, cw, ce, cr, cp, cj, cs, ch, ct, cc⟩ := hC
  have hC : Cp (gX11_now T) M := ⟨c3, c4, c1, c2, cw, ce, cr, cp, cj, cs, ch, ct, cc⟩
  by_cases q : (0 ≤ j ∧ j < M 0) ∧ (0 ≤ e ∧ e < M 6)
  · refine ansR_v h' (iI (M ((if β = true then 570 else 486) + (12 * j + e)))) ?_ ?_
    · unfold DX11_marked
      rw [C_reqJE hC hMK.1 hj hj' he he', tx_p, if_pos q]
      simp only [iI_lit, jn_eq, if_bz, show gX11n_now (gX11_now T) = gX11_now T from rfl]
      rw [C_at ch (by omega) (by omega) (by omega) (by omega), C_at ct.2.2.2 (by omega) (by omega) (by omega) (by omega)]
      cases β <;> rfl
    · unfold DX12_marked
      simp only [iI_lit, jn_eq, lt_eq, uc_code, uc_m, gm, if_bz]
      rw [R_isJuror gm hMK.1.2.1 hj hj', R_isEntrant gm hMK.1.2.1 he he']
      simp only [Option.bind_some, if_bz, decide_eq_true_eq, R_seat, iI_add, if_neg (show ¬ iI 1 = iI 0 by decide), if_neg (show ¬ iI 2 = iI 0 by decide), if_neg (show ¬ iI 3 = iI 0 by decide), if_pos (show iI 0 = iI 0 from rfl), if_true]
      rw [if_pos q.1, if_pos q.2, gd_iI (by omega) (by omega) (by omega), gd_iI (by omega) (by omega) (by omega), mI_at (by omega) (by omega), mI_at (by omega) (by omega)]
      cases β <;> rfl
  · refine ansR_x (v := iI 0) h' 0 1 rfl ?_ ?_
    · unfold DX11_marked
      rw [C_reqJE hC hMK.1 hj hj' he he', tx_p, if_neg q]
    · unfold DX12_marked
      simp only [iI_lit, jn_eq, lt_eq, uc_code, if_bz]
      rw [R_isJuror gm hMK.1.2.1 hj hj', R_isEntrant gm hMK.1.2.1 he he']
      simp only [Option.bind_some, if_bz, decide_eq_true_eq, if_neg (show ¬ iI 1 = iI 0 by decide), if_neg (show ¬ iI 2 = iI 0 by decide), if_neg (show ¬ iI 3 = iI 0 by decide), if_pos (show iI 0 = iI 0 from rfl), if_true]
      by_cases q1 : 0 ≤ j ∧ j < M 0
      · rw [if_pos q1, if_neg (fun h => q ⟨q1, h⟩)]
        rfl
      · rw [if_neg q1]
        rfl
theorem K_history (h : GG T S) {e r : Int} (he : -2147483648 ≤ e) (he' : e < 2147483648) (hr : -2147483648 ≤ r) (hr' : r < 2147483648) : AnsR [1] T (DX11_history (gX11_now T) (iI e) (iI r)) (DX12_history S (iI e) (iI r)) := by
  obtain ⟨M, V, c, h⟩ := h
  have h' := h
  obtain ⟨gm, gv, gc, hz, hMK, hC, hK, hX⟩ := h
  rw [C_history hC hMK.1 he he' hr hr', R_history gm hMK.1 he he' hr hr']
  by_cases q : (0 ≤ e ∧ e < M 6) ∧ (0 ≤ r ∧ r ≤ 3)
  · exact ansR_v h' _ (by rw [if_pos q]) (by rw [if_pos q])
  · exact ansR_x h' 0 1 rfl (by rw [if_neg q]) (by rw [if_neg q]; rfl)
/-- both answer alike, a call that neither throws nor changes anything -/
def AnsQ (T : SX11) (r1 : Option Int32) (r2 : Option (Int32 × SX12)) : Prop := ∃ v S', r1 = some v ∧ r2 = some (v, S') ∧ GG T S'
theorem K_stage (h : GG T S) {k : Int} (hk : -2147483648 ≤ k) (hk' : k < 2147483648) : AnsQ T (DX11_stage (gX11_now T) (iI k)) (DX12_stage S (iI k)) := by
  obtain ⟨M, V, c, h⟩ := h
  have h' := h
  obtain ⟨gm, gv, gc, hz, hMK, hC, hK, hX⟩ := h
  exact ⟨_, _, C_stage hC hMK.1 hk hk', R_stage gm hMK.1 hk hk', M, V, c, G_code h' _⟩
theorem K_strangestJuror (h : GG T S) : AnsQ T (DX11_strangestJuror (gX11_now T)) (DX12_strangestJuror S) := by
  obtain ⟨M, V, c, h⟩ := h
  have h' := h
  obtain ⟨gm, gv, gc, hz, hMK, hC, hK, hX⟩ := h
  refine ⟨iI (strangestZ M), uX12_code S (iI 0), C_strangest hC hMK.1, ?_, M, V, c, G_code h' _⟩
  unfold DX12_strangestJuror
  simp only [iI_lit, lt_eq]
  rw [R_strangest (S := uX12_code S (iI 0)) gm hMK.1.1 hMK.1.2.1 hMK.1.2.2.2.2.2.1 hMK.1.2.2.2.2.2.2.2.1]
  rfl
end WF
