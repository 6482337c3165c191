section LB
variable {M N V X : Int → Int} {S : SX12} {C : SX0} {s : Int → Int} {p : Int} {T : SX11} {c : Int}
/-- what the cells are once a cut is settled -/
def seZ (X : Int → Int) (s : Int → Int) (p : Int) : Int → Int := if tieZ s p = true ∧ X 10 ≠ 3 then tiN (ctZ (ioZ X (finZ X (ftZ s p) (p - thZ s p) false) (X 7))) (X 10 + 1) (p - abZ s p) (ftZ s p) else goZ X (finZ X (ftZ s p) (p - thZ s p) (decide (X 10 = 3)))
theorem th_b (s : Int → Int) (p : Int) : 0 ≤ thZ s p ∧ thZ s p ≤ 24 := by
  have := ab_b s p
  unfold thZ
  split <;> omega
theorem R_settle (hMK : MK X) (hm : gX12_m S = mI X) (hp : 1 ≤ p) (hp' : p ≤ 12) (hs : sbI s) (hpl : ∀ e : Int, 0 ≤ e → e < 12 → s e ≠ -1 → plcZ X e ≠ -1) (hf : ∀ e : Nat, (e : Int) < X 6 → gX12_fate S e = iI (ftZ s p e)) (hc : ∀ i : Nat, i < 3 → gX12_fates S i = iI (cn (fun e => decide (ftZ s p e = i)) 12)) : ∃ S', DX12_settle S (iI p) = some S' ∧ samM S S' ∧ gX12_m S' = mI (seZ X s p) := by
  have fc := ft_cnt hp (fun e he => (hs e he).1)
  have f0 := hc 0 (by omega)
  have f1 := hc 1 (by omega)
  rw [show ((0 : Nat) : Int) = 0 from rfl, fc.1] at f0
  rw [show ((1 : Nat) : Int) = 1 from rfl, fc.2.1] at f1
  have f0 : gX12_fates S 0 = iI (thZ s p) := f0
  have tb := th_b s p
  have ab := ab_b s p
  have hI := hMK.1
  have hT := hI.2.1
  have hO := hI.2.2.2.2.2.2.2.1
  have ty := hI.2.2.2.2.2.2.2.2.2.2.2.1
  have tc := tc_all hT hO (ft := ftZ s p) (fun e he h => hpl e (by omega) (by omega) (ft_n (s := s) (p := p) (e := e) (by omega)))
  rw [fc.2.1] at tc
  have h10 : 0 ≤ X 10 ∧ X 10 ≤ 3 := ty.2.2.2.2.2.1
  obtain ⟨last, hl⟩ : ∃ last : Bool, last = decide (X 10 = 3) := ⟨_, rfl⟩
  have e1 : DX12_settle S (iI p) = DX12_settle_L29 (bI last) stK fu (iI (p - thZ s p)) (iI 0) S := by
    rw [settle_K, hm]
    simp only [iI_lit, jn_eq]
    rw [show mI X 10 = iI (X 10) from rfl, f0, iI_sub, if_eq (by omega) (by omega) (by omega) (by omega), hl]
    by_cases q : X 10 = 3
    · rw [if_pos q, decide_eq_true q]; rfl
    · rw [if_neg q, decide_eq_false q]; rfl
  obtain ⟨S1, a1, a2, a3, a4, a5⟩ := R_stlL hT hO hm (last := last) (ft := ftZ s p) (l := p - thZ s p) hf (fun e => ft_b s p e) f1 (by omega) (by omega) stK
  rw [tc] at a1 a4
  have hb := B_pre hMK (finZ X (ftZ s p) (p - thZ s p) last)
  obtain ⟨t0, t1, t2, t3, t4, t6, t7, t8⟩ := hT
  have y : ∀ k : Int, ¬ (126 ≤ k ∧ k < 138) → ioZ X (finZ X (ftZ s p) (p - thZ s p) last) (X 7) k = X k := fun k hk => io_fr hk
  have y1 := y 1 (by omega)
  have y4 := y 4 (by omega)
  have y6 := y 6 (by omega)
  have y10 := y 10 (by omega)
  have key : ∀ (f l' : Int), gX12_fates S1 1 = iI f → -100 ≤ f → f ≤ 100 → (0 < f → ∀ e : Nat, (e : Int) < X 6 → gX12_fate S1 e = iI (ftZ s p e)) → seZ X s p = (if 0 < f then tiN (ctZ (ioZ X (finZ X (ftZ s p) (p - thZ s p) last) (X 7))) (X 10 + 1) l' (ftZ s p) else goZ X (finZ X (ftZ s p) (p - thZ s p) last)) → ∃ S', stK (iI l') S1 = some S' ∧ samM S S' ∧ gX12_m S' = mI (seZ X s p) := fun f l' g1 g2 g3 g4 g5 => by
    obtain ⟨S', r1, r2, r3⟩ := R_stK (l := l') a2 hb.1 (by omega) (by omega) g1 g2 g3 (fun h e he => g4 h e (by omega)) (fun e => ft_b s p e)
    refine ⟨S', r1, samM_t a3 r2, ?_⟩
    rw [r3, g5, y1, y4, y10]
    rfl
  rw [e1, a1]
  refine key _ _ a4 ?_ ?_ ?_ ?_
  · repeat' split
    all_goals omega
  · repeat' split
    all_goals omega
  · intro h e he
    refine a5 ?_ e he
    cases last with
    | false => rfl
    | true => rw [if_pos (show true = true from rfl)] at h; omega
  · by_cases q : tieZ s p = true
    · have tl := tie_ab hp hs q
      have th0 : thZ s p = abZ s p := if_pos q
      rw [if_pos q]
      unfold seZ
      by_cases q1 : X 10 = 3
      · rw [if_neg (fun h => h.2 q1), hl, decide_eq_true q1, if_neg (show ¬ 0 < (lvZ s p - if true = true then lvZ s p else 0) by rw [if_pos rfl]; omega)]
      · rw [decide_eq_false q1] at hl
        rw [if_pos ⟨q, q1⟩, hl, if_neg (show ¬ false = true by decide), if_pos (show 0 < lvZ s p - 0 by omega), Int.sub_zero, th0]
    · rw [if_neg q, if_neg (show ¬ 0 < ((0 : Int) - if last = true then 0 else 0) by split <;> omega)]
      unfold seZ
      rw [if_neg (fun h => q h.1), hl]
/-- the class, once the cut is drawn: out, tie or on -/
theorem C_settle (hMK : MK X) (hz : nz X) (hC : Cp C X) (hK : kut (gX0_cut C) s p) (hp : 1 ≤ p) (hp' : p ≤ 12) (hs : sbI s) (hpl : ∀ e : Int, 0 ≤ e → e < 12 → s e ≠ -1 → plcZ X e ≠ -1) (h10 : X 10 ≠ 3) : ∃ (b : Bool) (C' C2 : SX0), DX0_applyCut C = some (bI b, C') ∧ Cp C2 (seZ X s p) ∧ if b = true then DX0_goOn C' = some C2 else C' = C2 := by
  unfold seZ
  rw [decide_eq_false h10]
  cases ht : tieZ s p with
  | false =>
    obtain ⟨E, e1, e2⟩ := C_aC0 hMK hC hK hp hp' hs hpl (p - thZ s p) ht
    obtain ⟨C2, e3, e4⟩ := C_go hMK hC e2
    exact ⟨true, _, C2, e1, by rw [if_neg (fun h => by cases h.1)]; exact e4, by rw [if_pos rfl]; exact e3⟩
  | true =>
    obtain ⟨C2, e1, e2⟩ := C_aC1 hMK hC hK hp hp' hs hpl (p - thZ s p) ht
    exact ⟨false, C2, C2, e1, by rw [if_pos ⟨rfl, h10⟩]; exact e2, by rw [if_neg (by decide)]⟩
theorem C_settle3 (hMK : MK X) (hz : nz X) (hC : Cp C X) (hK : kut (gX0_cut C) s p) (hp : 1 ≤ p) (hp' : p ≤ 12) (hs : sbI s) (hpl : ∀ e : Int, 0 ≤ e → e < 12 → s e ≠ -1 → plcZ X e ≠ -1) (h10 : X 10 = 3) : ∃ (C1 C' C2 : SX0), DX0_putOutThoseBelow C = some C1 ∧ DX0_breakTieByStageOrder C1 = some C' ∧ Cp C2 (seZ X s p) ∧ DX0_goOn C' = some C2 := by
  unfold seZ
  rw [decide_eq_true h10, if_neg (fun h => h.2 h10)]
  obtain ⟨E', E, e1, e2, e3⟩ := C_aC3 hMK hC hK hp hp' hs hpl
  obtain ⟨C2, e4, e5⟩ := C_go hMK hC e3
  exact ⟨_, _, C2, e1, e2, e5, e4⟩
theorem se_ok (hMK : MK X) (hz : nz X) (h2 : X 10 < 3 ∨ X 10 = 3) (hp : 1 ≤ p) (hp' : p ≤ 12) (hs : sbI s) (hpl : ∀ e : Int, 0 ≤ e → e < 12 → s e ≠ -1 → plcZ X e ≠ -1) : nz (seZ X s p) ∧ MK (seZ X s p) := by
  have ty := hMK.1.2.2.2.2.2.2.2.2.2.2.2.1.2.2.2.2.2.1
  unfold seZ
  by_cases q : tieZ s p = true ∧ X 10 ≠ 3
  · rw [if_pos q]
    have tl := tie_ab hp hs q.1
    have ab := ab_b s p
    exact ti_ok hMK hz _ (fun e a b h => hpl e a b (ft_n (s := s) (p := p) (e := e) (by omega))) (by omega) (by omega) (by omega) (by omega)
  · rw [if_neg q]
    exact go_ok hMK hz _
theorem R_clsT (hm : gX12_m S = mI M) (h3 : M 3 = 2) (c1 : Int32) (k21 : SX12 → Option (Int32 × SX12)) : DX12_close_L71 c1 k21 fu (iI 0) S = k21 S := by
  obtain ⟨f, hf⟩ : ∃ f : Nat, fu = f + 1 := ⟨fu - 1, by unfold fu; omega⟩
  rw [hf, DX12_close_L71, hm]
  simp only [iI_lit]
  rw [show mI M 3 = iI (M 3) from rfl, if_eq (by omega) (by omega) (by omega) (by omega), if_neg (show ¬ M 3 = 1 by omega)]
  split <;> rfl
theorem sR_all (h : ∀ k : Int, 0 ≤ k → k < 570 → N k = M k) (hT : stI M) (hO : ordI M) : sR N = sR M := by
  obtain ⟨t0, t1, t2, t3, t4, t6, t7, t8⟩ := hT
  have hT : stI M := ⟨t0, t1, t2, t3, t4, t6, t7, t8⟩
  have t12 : M 7 ≤ 12 := by omega
  funext e
  by_cases q : plcZ M e = -1
  · unfold sR
    rw [plc_c (N := N) (M := M) (fun k hk => h k (by omega) (by omega)) t12, if_pos q, if_pos q]
  · have := plc_in hT hO q
    exact sR_c h (by omega) t12 this.1 (by omega)
theorem cls_MK (hMK : MK M) (hz : nz M) : MK (clsZ M (M 6)) ∧ nz (clsZ M (M 6)) := by
  obtain ⟨hI, hx⟩ := hMK
  have hI' := hI
  obtain ⟨hR, hT, hW, hIn, hTi, hk, hs, hO, hN, hru, hba, hty, hml⟩ := hI
  have hT' := hT
  obtain ⟨t0, t1, t2, t3, t4, t6, t7, t8⟩ := hT
  have t12 : M 7 ≤ 12 := by omega
  have grg := cls_rg hI' (n := M 6) (by omega)
  have g : ∀ k : Int, ¬ (666 ≤ k ∧ k < 666 + 4 * M 6) → clsZ M (M 6) k = M k := fun k hk => cls_fr hk
  refine ⟨?_, fun k hk => by rw [g k (by omega)]; exact hz k hk⟩
  generalize clsZ M (M 6) = N at *
  refine ⟨⟨grg, (st_c (fun k _ _ => g k (by omega)) hT'), (wk_c (fun k hk => g k (by omega)) hW), (in_c (fun k hk => g k (by omega)) hIn), (ti_c (fun k hk => g k (by omega)) hTi), (mk_c (fun k hk => g k (by omega)) hk), (sl_c (fun k hk => g k (by omega)) t12 hs), (or_c (fun k hk => g k (by omega)) t12 hO), (np_c (fun k hk => g k (by omega)) t12 hN), (ru_c (fun k hk => g k (by omega)) hru), (ba_c (fun k hk => g k (by omega)) hba), (ty_c (fun k hk => g k (by omega)) t12 hty), (ml_c (fun k hk => g k (by omega)) hml)⟩, ?_⟩
  refine ⟨fun h9 => ?_, fun e r a b d f h9 => ?_⟩
  · rw [g 3 (by omega)] at h9
    rw [g 7 (by omega)]
    exact hx.1 h9
  · rw [g 6 (by omega)] at h9
    rw [g _ (by omega)]
    exact hx.2 e r a b d f h9
theorem cls_Cp (hMK : MK M) (hC : Cp C M) {K' : SX1} (hK : scI K' (sR M)) : Cp (uX0_closedScores (uX0_cut C K') (upd2 (gX0_closedScores C) (M 4).toNat (gX1_scores K'))) (clsZ M (M 6)) := by
  obtain ⟨hI, hx⟩ := hMK
  obtain ⟨hR, hT, hW, hIn, hTi, hk, hs, hO, hN, hru, hba, hty, hml⟩ := hI
  have hT' := hT
  obtain ⟨t0, t1, t2, t3, t4, t6, t7, t8⟩ := hT
  have t12 : M 7 ≤ 12 := by omega
  have h5 := hW.1
  obtain ⟨c3, c4, c1, c2, cw, ce, cr, cp, cj, cs, ch, ct, cc⟩ := hC
  have g : ∀ k : Int, ¬ (666 ≤ k ∧ k < 666 + 4 * M 6) → clsZ M (M 6) k = M k := fun k hk => cls_fr hk
  refine ⟨(by rw [g 3 (by omega)]; exact c3), (by rw [g 4 (by omega)]; exact c4), (by rw [g 1 (by omega)]; exact c1), (by rw [g 2 (by omega)]; exact c2), (cW_c (fun k hk => g k (by omega)) h5.2 cw), (cE_c (fun k hk => g k (by omega)) ce), (cR_c (fun k hk => g k (by omega)) cr), (cP_c (fun k hk => g k (by omega)) hW cp), (cJ_c (fun k hk => g k (by omega)) cj), (cS_c (fun k hk => g k (by omega)) t12 cs), (cH_c (fun k hk => g k (by omega)) ch), (cT_c (fun k hk => g k (by omega)) ct), ?_⟩
  intro r e a b d f
  show upd2 (gX0_closedScores C) (M 4).toNat (gX1_scores K') r.toNat e.toNat = _
  unfold upd2
  by_cases q : r = M 4
  · rw [if_pos (show r.toNat = (M 4).toNat by omega), hK e d f]
    unfold clsZ
    by_cases q1 : e < M 6
    · rw [if_pos (by omega), show (666 + 4 * e + r - 666) / 4 = e by omega]
    · rw [if_neg (by omega), hx.2 e r d f a b (by omega)]
      unfold sR
      rw [if_pos (show plcZ M e = -1 from Classical.byContradiction fun h => q1 (plc_in hT' hO h).2)]
  · rw [if_neg (show ¬ r.toNat = (M 4).toNat by omega)]
    rw [show gX0_closedScores C r.toNat e.toNat = iI (M (666 + 4 * e + r)) from cc r e a b d f]
    unfold clsZ
    rw [if_neg (by omega)]
theorem ans_m (h : Gc T S M V c) {xs : List Nat} {r1 : Option (Nat ⊕ (Int32 × SX11))} {r2 : Option (Int32 × SX12)} (v : Int32) {K' : SX5} (hK : Recs K' (keepV V M c) (keepC c)) {C' : SX0} (hz : nz N) (hM : MK N) (hC : Cp C' N) {S' : SX12} (hs : samM (kS S M V c (iI 0)) S') (hm : gX12_m S' = mI N) (h1 : r1 = some (Sum.inr (v, uX11_now (uX11_records T K') C'))) (h2 : r2 = some (v, S')) : Ans xs T r1 r2 := by
  obtain ⟨gm, gv, gc, hz9, hM9, hC9, hK9, hX⟩ := h
  obtain ⟨s1, s2, s3, s4, s5⟩ := hs
  refine Or.inl ⟨v, _, S', h1, h2, s5, N, keepV V M c, keepC c, hm, s1, s2, hz, hM, hC, hK, ?_⟩
  obtain ⟨L, Tx, x1, x2, x3, x4⟩ := hX
  refine ⟨L, Tx, x1, s4.trans x2, x3, fun k a b => ?_⟩
  rw [show gX12_text S' = gX12_text S from s3]
  exact x4 k a b
end LB
