section TU
variable {M N V : Int → Int} {X : SX8} {S : SX12} {L : Int} {Tx : Int → Int} {T : SX11} {c : Int}
theorem wr_none {nn ss : Nat → Int} {w : Int} : ∀ n : Nat, (∀ k : Nat, k < n → 0 ≤ ss k) → wrZ nn ss w n = -1 → ∀ k : Nat, k < n → badZ nn w k = false := by
  intro n
  induction n with
  | zero => intro _ _ k hk; omega
  | succ n ih =>
    intro hs h k hk
    rw [wrZ] at h
    by_cases q : wrZ nn ss w n = -1 ∧ badZ nn w n = true
    · rw [if_pos q] at h
      have := hs n (by omega)
      omega
    · rw [if_neg q] at h
      by_cases q1 : k = n
      · rw [q1]
        cases q2 : badZ nn w n with
        | true => exact absurd ⟨h, q2⟩ q
        | false => rfl
      · exact ih (fun k hk => hs k (by omega)) h k (by omega)
/-- the cells once a program of n works stands at z -/
def spZ (M : Int → Int) (z F : Int) (nn : Nat → Int) (n : Int) : Int → Int := fun k => if k = z then F else if z + 1 ≤ k ∧ k < z + 1 + n then nn (k - (z + 1)).toNat else M k
theorem sp_0 (z F : Int) (nn : Nat → Int) : spZ M z F nn 0 = updI M z F := by
  funext k
  unfold spZ updI
  by_cases q : k = z
  · rw [if_pos q, if_pos q]
  · rw [if_neg q, if_neg q, if_neg (by omega)]
theorem sp_s (z F : Int) (nn : Nat → Int) {n : Nat} : updI (spZ M z F nn n) (z + 1 + n) (nn n) = spZ M z F nn (n + 1) := by
  funext k
  unfold spZ updI
  by_cases q : k = z + 1 + n
  · rw [if_pos q, if_neg (by omega), if_pos (by omega), show (k - (z + 1)).toNat = n by omega]
  · rw [if_neg q]
    show (if k = z then F else if z + 1 ≤ k ∧ k < z + 1 + (n : Int) then nn (k - (z + 1)).toNat else M k) = _
    by_cases q1 : k = z
    · rw [if_pos q1, if_pos q1]
    · rw [if_neg q1, if_neg q1]
      by_cases q2 : z + 1 ≤ k ∧ k < z + 1 + n
      · rw [if_pos q2, if_pos (by omega)]
      · rw [if_neg q2, if_neg (by omega)]
theorem R_spL {F : Nat} {nn : Nat → Int} (hF : F ≤ 4) (hn : nS S F nn) {z : Int} (hz : 0 ≤ z) (hz' : z < 700) (hm : gX12_m S = mI (updI M z F)) (k17 : SX12 → Option (Int32 × SX12)) : DX12_setProgram_L68 (iI z) k17 fu (iI 0) S = k17 (uX12_m S (mI (spZ M z F nn F))) := by
  have base : S = uX12_m S (mI (spZ M z F nn ((0 : Nat) : Int))) := by rw [show ((0 : Nat) : Int) = 0 from rfl, sp_0, um_self hm]
  have := upL (fun f j => DX12_setProgram_L68 (iI z) k17 f (iI j) (uX12_m S (mI (spZ M z F nn (j : Int))))) (k17 (uX12_m S (mI (spZ M z F nn F)))) F ?_ ?_ fu (by unfold fu; omega)
  · rw [← base] at this
    exact this
  · intro f j hj
    show DX12_setProgram_L68 _ _ _ _ _ = _
    rw [DX12_setProgram_L68]
    simp only [lt_eq, iI_lit, um_m, um_um, iI_add, show ∀ x, gX12_found (uX12_m S x) = gX12_found S from fun _ => rfl, show ∀ x, gX12_draft (uX12_m S x) = gX12_draft S from fun _ => rfl]
    rw [hn.1, if_le (by omega) (by omega) (by omega) (by omega), if_neg (by omega), gd_iI (by omega) (by omega) (by omega), gd_iI (by omega) (by omega) (by omega), iI_nat (show 0 ≤ (j : Int) by omega) (by omega), show ((j : Int)).toNat = j by omega, (hn.2 j hj).1, mI_upd (by omega) (by omega), sp_s, show ((j + 1 : Nat) : Int) = (j : Int) + 1 by omega]
  · intro f
    show DX12_setProgram_L68 _ _ _ _ _ = _
    rw [DX12_setProgram_L68, show ∀ x, gX12_found (uX12_m S x) = gX12_found S from fun _ => rfl, hn.1, if_le (by omega) (by omega) (by omega) (by omega), if_pos (by omega)]
theorem C_spL {F : Nat} {nn ss : Nat → Int} (hF : F ≤ 4) {U : SX11} (hn : nX (gX11_text U) F nn ss) {e r : Int} (he : 0 ≤ e) (he' : e < 12) (hr : 0 ≤ r) (hr' : r < 4) {P : SX4} (hP : gX0_programs (gX11_now U) = P) (k22 : SX11 → Option (Nat ⊕ (Int32 × SX11))) : DX11_setProgram_L60 (iI e) (iI r) k22 fu (iI 0) U = k22 (uX11_now U (uX0_programs (gX11_now U) (fun q : Nat => if ((e * 4 + r) * 4).toNat ≤ q ∧ q < ((e * 4 + r) * 4).toNat + F then iI (nn (q - ((e * 4 + r) * 4).toNat)) else P q))) := by
  have base : U = uX11_now U (uX0_programs (gX11_now U) (fun q : Nat => if ((e * 4 + r) * 4).toNat ≤ q ∧ q < ((e * 4 + r) * 4).toNat + 0 then iI (nn (q - ((e * 4 + r) * 4).toNat)) else P q)) := by
    rw [show (fun q : Nat => if ((e * 4 + r) * 4).toNat ≤ q ∧ q < ((e * 4 + r) * 4).toNat + 0 then iI (nn (q - ((e * 4 + r) * 4).toNat)) else P q) = P from funext fun q => if_neg (by omega), ← hP]
    rfl
  have := upL (fun f j => DX11_setProgram_L60 (iI e) (iI r) k22 f (iI j) (uX11_now U (uX0_programs (gX11_now U) (fun q : Nat => if ((e * 4 + r) * 4).toNat ≤ q ∧ q < ((e * 4 + r) * 4).toNat + j then iI (nn (q - ((e * 4 + r) * 4).toNat)) else P q)))) (k22 (uX11_now U (uX0_programs (gX11_now U) (fun q : Nat => if ((e * 4 + r) * 4).toNat ≤ q ∧ q < ((e * 4 + r) * 4).toNat + F then iI (nn (q - ((e * 4 + r) * 4).toNat)) else P q)))) F ?_ ?_ fu (by unfold fu; omega)
  · rw [← base] at this
    exact this
  · intro f j hj
    show DX11_setProgram_L60 _ _ _ _ _ _ = _
    rw [DX11_setProgram_L60]
    simp only [lt_eq, iI_lit, iI_add, show ∀ C, gX11_text (uX11_now U C) = gX11_text U from fun _ => rfl, un_now, un_un, show ∀ Q, gX0_programs (uX0_programs (gX11_now U) Q) = Q from fun _ => rfl, show ∀ Q R, uX0_programs (uX0_programs (gX11_now U) Q) R = uX0_programs (gX11_now U) R from fun _ _ => rfl]
    rw [hn.1, if_le (by omega) (by omega) (by omega) (by omega), if_neg (by omega), gd_iI (by omega) (by omega) (by omega), iI_nat (show 0 ≤ (j : Int) by omega) (by omega), show ((j : Int)).toNat = j by omega, (hn.2 j hj).1, C_put4 he he' hr hr' (by omega) (by omega), show ((j + 1 : Nat) : Int) = (j : Int) + 1 by omega]
    simp only [Option.bind_some]
    have e9 : uX4_places (fun q : Nat => if ((e * 4 + r) * 4).toNat ≤ q ∧ q < ((e * 4 + r) * 4).toNat + j then iI (nn (q - ((e * 4 + r) * 4).toNat)) else P q) (upd (gX4_places (fun q : Nat => if ((e * 4 + r) * 4).toNat ≤ q ∧ q < ((e * 4 + r) * 4).toNat + j then iI (nn (q - ((e * 4 + r) * 4).toNat)) else P q)) ((e * 4 + r) * 4 + (j : Int)).toNat (iI (nn j))) = fun q : Nat => if ((e * 4 + r) * 4).toNat ≤ q ∧ q < ((e * 4 + r) * 4).toNat + (j + 1) then iI (nn (q - ((e * 4 + r) * 4).toNat)) else P q := by
      show upd (fun q : Nat => if ((e * 4 + r) * 4).toNat ≤ q ∧ q < ((e * 4 + r) * 4).toNat + j then iI (nn (q - ((e * 4 + r) * 4).toNat)) else P q) ((e * 4 + r) * 4 + (j : Int)).toNat (iI (nn j)) = _
      funext q
      unfold upd
      by_cases q1 : q = ((e * 4 + r) * 4 + (j : Int)).toNat
      · rw [if_pos q1, if_pos (by omega), show q - ((e * 4 + r) * 4).toNat = j by omega]
      · rw [if_neg q1]
        show (if ((e * 4 + r) * 4).toNat ≤ q ∧ q < ((e * 4 + r) * 4).toNat + j then iI (nn (q - ((e * 4 + r) * 4).toNat)) else P q) = _
        by_cases q2 : ((e * 4 + r) * 4).toNat ≤ q ∧ q < ((e * 4 + r) * 4).toNat + j
        · rw [if_pos q2, if_pos (by omega)]
        · rw [if_neg q2, if_neg (by omega)]
    rw [e9]
  · intro f
    show DX11_setProgram_L60 _ _ _ _ _ _ = _
    rw [DX11_setProgram_L60, show ∀ C, gX11_text (uX11_now U C) = gX11_text U from fun _ => rfl, hn.1, if_le (by omega) (by omega) (by omega) (by omega), if_pos (by omega)]
/-- as Ans, but where it throws the text may have been read -/
def AnsS (xs : List Nat) (T : SX11) (r1 : Option (Nat ⊕ (Int32 × SX11))) (r2 : Option (Int32 × SX12)) : Prop :=
  (∃ v T' S', r1 = some (Sum.inr (v, T')) ∧ r2 = some (v, S') ∧ gX12_code S' = iI 0 ∧ GG T' S') ∨
  (∃ (n : Nat) (i : Nat) (v : Int32) (S' : SX12), r1 = some (Sum.inl n) ∧ r2 = some (v, S') ∧ xs[i]? = some n ∧ gX12_code S' = iI ((i : Int) + 1) ∧ ∀ T2, (T2 = T ∨ ∃ x3, DX8_faultAmong (gX11_text T) (gX10_count (gX0_works (gX11_now T))) = some x3 ∧ T2 = uX11_text T x3.2) → GG T2 S')
theorem K_setProgram (h : GG T S) {e r : Int} (he : -2147483648 ≤ e) (he' : e < 2147483648) (hr : -2147483648 ≤ r) (hr' : r < 2147483648) : AnsS [1, 2] T (DX11_setProgram T (iI e) (iI r)) (DX12_setProgram S (iI e) (iI r)) := by
  have h0 := h
  obtain ⟨M, V, c, h⟩ := h
  have h' := h
  obtain ⟨gm, gv, gc, hz, hMK, hC, hK, hX⟩ := h
  have hMK' := hMK
  have hC' := hC
  obtain ⟨hMI, hx⟩ := hMK
  have hMI' := hMI
  obtain ⟨hR, hT, hW, hIn, hTi, hk, hs, hO, hN, hru, hba, hty, hml⟩ := hMI
  obtain ⟨c3, c4, c1, c2, cw, ce, cr, cp, cj, cs, ch, ct, cc⟩ := hC
  have hT' := hT
  obtain ⟨t0, t1, t2, t3, t4, t6, t7, t8⟩ := hT
  have h5 := hW.1
  have t12 : M 7 ≤ 12 := by omega
  obtain ⟨K', k1, k2⟩ := C_keep hK hC' hMK' hz
  obtain ⟨L, Tx, hT9⟩ := hX
  obtain ⟨z, X', S1, y1, y2, y3, y4, y5, y6⟩ := T_fault h5.1 h5.2 hT9 gm
  have hG1 : ∀ v, Gc (uX11_text T X') (uX12_code S1 v) M V c := fun v => ⟨y2.1.trans gm, y2.2.1.trans gv, y2.2.2.1.trans gc, hz, hMK', hC', hK, tx_uc (c_tx (tI_s hT9 y2 y1))⟩
  have hG2 : ∀ v, Gc T (uX12_code S1 v) M V c := fun v => ⟨y2.1.trans gm, y2.2.1.trans gv, y2.2.2.1.trans gc, hz, hMK', hC', hK, tx_uc (c_tx (tI_s hT9 y2 ⟨rfl, rfl⟩))⟩
  have hG3 : ∀ v, Gc (uX11_text T X') (uX12_code S v) M V c := fun v => ⟨gm, gv, gc, hz, hMK', hC', hK, tx_uc (c_tx (tI_s hT9 ⟨rfl, rfl, rfl, rfl, rfl, rfl⟩ y1))⟩
  have eW : DX8_faultAmong (gX11_text T) (gX10_count (gX0_works (gX11_now T))) = some (iI z, X') := by rw [cw.1]; exact y3
  by_cases q : (0 ≤ e ∧ e < M 6) ∧ (0 ≤ r ∧ r ≤ 3)
  · by_cases qz : z = -1
    · obtain ⟨F, nn, ss, hF, n1, n2, n3⟩ := y6 qz
      have nb := wr_none F (fun k hk => (n1.2 k hk).2.2.2.1) n3
      have nv : ∀ k : Nat, k < F → 0 ≤ nn k ∧ nn k < M 5 := fun k hk => by
        have := nb k hk
        unfold badZ at this
        rw [show ((k : Int)).toNat = k by omega] at this
        simp only [Bool.not_eq_false', Bool.and_eq_true, decide_eq_true_eq] at this
        exact ⟨(n1.2 k hk).2.2.1.1, this.1⟩
      have hz9 : cellZ e r = 138 + 5 * (4 * e + r) := rfl
      have g : ∀ k : Int, ¬ (cellZ e r ≤ k ∧ k ≤ cellZ e r + 4) → spZ M (cellZ e r) F nn F k = M k := fun k p => by unfold spZ; rw [if_neg (by omega), if_neg (by omega)]
      have gi : spZ M (cellZ e r) F nn F (cellZ e r) = F := if_pos rfl
      have gk : ∀ k : Int, 0 ≤ k → k < F → spZ M (cellZ e r) F nn F (cellZ e r + 1 + k) = nn k.toNat := fun k a b => by
        unfold spZ
        rw [if_neg (by omega), if_pos (by omega), show cellZ e r + 1 + k - (cellZ e r + 1) = k by omega]
      have grg : rg (spZ M (cellZ e r) F nn F) := by
        intro k
        unfold spZ
        split
        · omega
        · split
          · next q1 => have := nv (k - (cellZ e r + 1)).toNat (by omega); omega
          · exact hR k
      have gnz : nz (spZ M (cellZ e r) F nn F) := fun k hk => by rw [g k (by omega)]; exact hz k hk
      have er : DX12_setProgram S (iI e) (iI r) = some (iI F, uX12_m (kS S1 M V c (iI 0)) (mI (spZ M (cellZ e r) F nn F))) := by
        unfold DX12_setProgram
        simp only [iI_lit, iI_neg, jn_eq, lt_eq, uc_code]
        rw [R_isEntrant gm hT' he he', R_isRound hr hr', y4]
        simp only [Option.bind_some, if_bz, decide_eq_true_eq, if_neg (show ¬ iI 1 = iI 0 by decide), if_neg (show ¬ iI 2 = iI 0 by decide), if_neg (show ¬ iI 3 = iI 0 by decide), if_pos (show iI 0 = iI 0 from rfl), if_true]
        rw [if_pos q.1, if_pos q.2, if_eq (by omega) (by omega) (by omega) (by omega), if_pos qz, R_kS (hG1 (iI 7)) (iI 0) |> fun h => (show DX12_keep (uX12_code S1 (iI 0)) = some (kS S1 M V c (iI 0)) from h)]
        simp only [Option.bind_some, R_programAt, kS_m, y2.1.trans gm, show gX12_found (kS S1 M V c (iI 0)) = gX12_found S1 from rfl, n2.1]
        rw [gd_iI (by omega) (by omega) (by omega), mI_upd (by omega) (by omega), R_spL (M := M) (S := uX12_m (kS S1 M V c (iI 0)) (mI (updI M (cellZ e r) F))) hF.2 n2 (by omega) (by omega) um_m, um_um]
        rw [show gX12_found (uX12_m (kS S1 M V c (iI 0)) (mI (spZ M (cellZ e r) F nn F))) = gX12_found S1 from rfl, n2.1]
      have ec : DX11_setProgram T (iI e) (iI r) = some (Sum.inr (iI F, uX11_now (uX11_records (uX11_text T X') K') (uX0_programs (gX11_now T) (fun q : Nat => if ((e * 4 + r) * 4).toNat ≤ q ∧ q < ((e * 4 + r) * 4).toNat + F then iI (nn (q - ((e * 4 + r) * 4).toNat)) else (if ((e * 4 + r) * 4).toNat ≤ q ∧ q < ((e * 4 + r) * 4).toNat + 4 then iI (-1) else gX0_programs (gX11_now T) q))))) := by
        unfold DX11_setProgram
        rw [C_reqER hC' hMI' he he' hr hr', tx_p, if_pos q, eW]
        simp only [Option.bind_some, lt_eq, jn_eq, iI_lit, iI_neg]
        rw [if_eq (by omega) (by omega) (by omega) (by omega), if_pos qz, reqA1, tx_r, show gX11_records (uX11_text T X') = gX11_records T from rfl, show gX11_now (uX11_text T X') = gX11_now T from rfl, k1]
        simp only [Option.bind_some, ur_now]
        rw [show gX11_now (uX11_text T X') = gX11_now T from rfl, C_empty4 (by omega) (by omega) (by omega) (by omega)]
        simp only [Option.bind_some]
        rw [C_spL (U := uX11_now (uX11_records (uX11_text T X') K') (uX0_programs (gX11_now T) (fun q : Nat => if ((e * 4 + r) * 4).toNat ≤ q ∧ q < ((e * 4 + r) * 4).toNat + 4 then iI (-1) else gX0_programs (gX11_now T) q))) hF.2 n1 (by omega) (by omega) (by omega) (by omega) rfl]
        rw [show ∀ C, gX8_found (gX11_text (uX11_now (uX11_now (uX11_records (uX11_text T X') K') (uX0_programs (gX11_now T) (fun q : Nat => if ((e * 4 + r) * 4).toNat ≤ q ∧ q < ((e * 4 + r) * 4).toNat + 4 then iI (-1) else gX0_programs (gX11_now T) q))) C)) = gX8_found X' from fun _ => rfl, n1.1]
        rfl
      refine Or.inl ⟨iI F, _, _, ec, er, id rfl, spZ M (cellZ e r) F nn F, _, _, G_new (S := S1) (T := uX11_text T X') (hG1 (gX12_code S1)) k2 gnz ?_ ?_ (iI 0)⟩
      · generalize spZ M (cellZ e r) F nn F = N at *
        refine ⟨⟨grg, (st_c (fun k _ _ => g k (by omega)) hT'), ?_, (in_c (fun k hk => g k (by omega)) hIn), (ti_c (fun k hk => g k (by omega)) hTi), (mk_c (fun k hk => g k (by omega)) hk), (sl_c (fun k hk => g k (by omega)) t12 hs), (or_c (fun k hk => g k (by omega)) t12 hO), (np_c (fun k hk => g k (by omega)) t12 hN), (ru_c (fun k hk => g k (by omega)) hru), (ba_c (fun k hk => g k (by omega)) hba), (ty_c (fun k hk => g k (by omega)) t12 hty), (ml_c (fun k hk => g k (by omega)) hml)⟩, (x_c (fun k hk => g k (by omega)) hx)⟩
        refine ⟨by rw [g 5 (by omega)]; exact h5, fun k a b => ?_, fun e1 r1 a b d f => ?_⟩
        · rw [g 5 (by omega)] at b
          rw [g (12 + 3 * k) (by omega), g (12 + 3 * k + 1) (by omega), g (12 + 3 * k + 2) (by omega)]
          exact hW.2.1 k a b
        · obtain ⟨p5, p6⟩ := hW.2.2 e1 r1 a b d f
          rw [g 5 (by omega)]
          by_cases q1 : cellZ e1 r1 = cellZ e r
          · rw [q1, gi]
            refine ⟨by omega, fun k p7 p8 => ?_⟩
            rw [gk k p7 p8]
            exact nv k.toNat (by omega)
          · have q2 : 4 * e1 + r1 ≠ 4 * e + r := by unfold cellZ at q1; omega
            rw [g _ (by unfold cellZ; omega)]
            refine ⟨p5, fun k p7 p8 => ?_⟩
            rw [g (cellZ e1 r1 + 1 + k) (by unfold cellZ at *; omega)]
            exact p6 k p7 p8
      · generalize spZ M (cellZ e r) F nn F = N at *
        refine ⟨(by rw [g 3 (by omega)]; exact c3), (by rw [g 4 (by omega)]; exact c4), (by rw [g 1 (by omega)]; exact c1), (by rw [g 2 (by omega)]; exact c2), (cW_c (fun k hk => g k (by omega)) h5.2 cw), (cE_c (fun k hk => g k (by omega)) ce), (cR_c (fun k hk => g k (by omega)) cr), ?_, (cJ_c (fun k hk => g k (by omega)) cj), (cS_c (fun k hk => g k (by omega)) t12 cs), (cH_c (fun k hk => g k (by omega)) ch), (cT_c (fun k hk => g k (by omega)) ct), (cC_c (fun k hk => g k (by omega)) cc)⟩
        intro e1 r1 k a b d f p7 p8
        show (if ((e * 4 + r) * 4).toNat ≤ ((e1 * 4 + r1) * 4 + k).toNat ∧ ((e1 * 4 + r1) * 4 + k).toNat < ((e * 4 + r) * 4).toNat + F then iI (nn (((e1 * 4 + r1) * 4 + k).toNat - ((e * 4 + r) * 4).toNat)) else (if ((e * 4 + r) * 4).toNat ≤ ((e1 * 4 + r1) * 4 + k).toNat ∧ ((e1 * 4 + r1) * 4 + k).toNat < ((e * 4 + r) * 4).toNat + 4 then iI (-1) else gX0_programs (gX11_now T) ((e1 * 4 + r1) * 4 + k).toNat)) = _
        by_cases q1 : cellZ e1 r1 = cellZ e r
        · have q2 : 4 * e1 + r1 = 4 * e + r := by unfold cellZ at q1; omega
          unfold workAtZ
          rw [q1, gi]
          by_cases q3 : k < F
          · rw [if_pos (by omega), if_pos (by omega), gk k p7 q3, show ((e1 * 4 + r1) * 4 + k).toNat - ((e * 4 + r) * 4).toNat = k.toNat by omega]
          · rw [if_neg (by omega), if_pos (by omega), if_neg (by omega)]
        · have q2 : 4 * e1 + r1 ≠ 4 * e + r := by unfold cellZ at q1; omega
          rw [if_neg (by omega), if_neg (by omega)]
          have ew : workAtZ N e1 r1 k = workAtZ M e1 r1 k := by
            have p5 := (hW.2.2 e1 r1 a b d f).1
            unfold workAtZ
            rw [g _ (by unfold cellZ; omega)]
            by_cases q3 : 0 ≤ k ∧ k ≤ M (cellZ e1 r1) - 1
            · rw [if_pos q3, if_pos q3, g (cellZ e1 r1 + 1 + k) (by unfold cellZ at *; omega)]
            · rw [if_neg q3, if_neg q3]
          rw [ew]
          exact cp e1 r1 k a b d f p7 p8
    · refine Or.inr ⟨2, 1, iI 0, uX12_code S1 (iI 2), ?_, ?_, rfl, id rfl, fun T2 h2 => ?_⟩
      · unfold DX11_setProgram
        rw [C_reqER hC' hMI' he he' hr hr', tx_p, if_pos q, eW]
        simp only [Option.bind_some, lt_eq, jn_eq, iI_lit, iI_neg]
        rw [if_eq (by omega) (by omega) (by omega) (by omega), if_neg qz, reqA0, tx_l]
      · unfold DX12_setProgram
        simp only [iI_lit, iI_neg, jn_eq, lt_eq, uc_code]
        rw [R_isEntrant gm hT' he he', R_isRound hr hr', y4]
        simp only [Option.bind_some, if_bz, decide_eq_true_eq, if_neg (show ¬ iI 1 = iI 0 by decide), if_neg (show ¬ iI 2 = iI 0 by decide), if_neg (show ¬ iI 3 = iI 0 by decide), if_pos (show iI 0 = iI 0 from rfl), if_true]
        rw [if_pos q.1, if_pos q.2, if_eq (by omega) (by omega) (by omega) (by omega), if_neg qz]
      · rcases h2 with h2 | ⟨x3, h3, h2⟩
        · rw [h2]; exact ⟨M, V, c, hG2 _⟩
        · rw [eW] at h3
          cases h3
          rw [h2]; exact ⟨M, V, c, hG1 _⟩
  · refine Or.inr ⟨1, 0, iI 0, uX12_code S (iI 1), ?_, ?_, rfl, id rfl, fun T2 h2 => ?_⟩
    · unfold DX11_setProgram
      rw [C_reqER hC' hMI' he he' hr hr', tx_p, if_neg q]
    · unfold DX12_setProgram
      simp only [iI_lit, jn_eq, lt_eq, uc_code]
      rw [R_isEntrant gm hT' he he', R_isRound hr hr']
      simp only [Option.bind_some, if_bz, decide_eq_true_eq, if_neg (show ¬ iI 1 = iI 0 by decide), if_neg (show ¬ iI 2 = iI 0 by decide), if_neg (show ¬ iI 3 = iI 0 by decide), if_pos (show iI 0 = iI 0 from rfl), if_true]
      by_cases q1 : 0 ≤ e ∧ e < M 6
      · rw [if_pos q1, if_neg (fun h => q ⟨q1, h⟩)]
      · rw [if_neg q1]
    · rcases h2 with h2 | ⟨x3, h3, h2⟩
      · rw [h2]; exact ⟨M, V, c, G_code h' _⟩
      · rw [eW] at h3
        cases h3
        rw [h2]; exact ⟨M, V, c, hG3 _⟩
end TU
