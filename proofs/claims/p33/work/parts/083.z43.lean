section KV
variable {M : Int → Int} {C : SX0} {K : SX1} {s : Int → Int} {p : Int}
def scI (K : SX1) (s : Int → Int) : Prop := ∀ e : Int, 0 ≤ e → e < 12 → gX1_scores K e.toNat = iI (s e)
def sbI (s : Int → Int) : Prop := ∀ e : Nat, e < 12 → -1 ≤ s e ∧ s e ≤ 1000000
theorem C_countFrom (h : scI K s) (hb : sbI s) {x : Int} (hx : -1 ≤ x) (hx' : x ≤ 1000001) : DX1_countFrom K (iI x) = some (iI (cF s x)) := by
  unfold DX1_countFrom cF
  simp only [iI_lit]
  refine upL (fun f j => DX1_countFrom_L14 K (iI x) (iI 12) (fun v => some v) f (iI (cn (fun e => decide (x ≤ s e)) j)) (iI j)) _ 12 ?_ ?_ fu (by unfold fu; omega)
  · intro f j hj
    show DX1_countFrom_L14 _ _ _ _ _ _ _ = _
    have b := hb j hj
    rw [DX1_countFrom_L14]
    simp only [iI_lit, iI_add, jn_eq]
    rw [if_le (by omega) (by omega) (by omega) (by omega), if_neg (by omega), gd_iI (by omega) (by omega) (by omega), iI_nat (by omega) (by omega), h j (by omega) (by omega), if_lt (by omega) (by omega) (by omega) (by omega), cn, show ((j + 1 : Nat) : Int) = (j : Int) + 1 by omega]
    by_cases q : s j < x
    · rw [if_pos q, decide_eq_false (by omega), if_neg (show ¬ false = true by decide), Int.add_zero]
    · rw [if_neg q, decide_eq_true (by omega), if_pos rfl]
  · intro f
    show DX1_countFrom_L14 _ _ _ _ _ _ _ = _
    rw [DX1_countFrom_L14, if_le (by omega) (by omega) (by omega) (by omega), if_pos (by omega)]
theorem C_findLine (h : scI K s) (hb : sbI s) (hp : gX1_places K = iI p) (h0 : 0 ≤ p) (h1 : p ≤ 100) : DX1_findLine K = some (iI (lnZ s p)) := by
  have c0 := cF_b s 0
  unfold DX1_findLine lnZ
  simp only [iI_lit, iI_neg]
  rw [C_countFrom h hb (by omega) (by omega), hp]
  simp only [Option.bind_some]
  rw [if_lt (by omega) (by omega) (by omega) (by omega)]
  by_cases q : p < cF s 0
  · rw [if_pos q, if_neg (by omega)]
    refine upL (fun f j => DX1_findLine_L27 K (iI 12) (fun v => some v) f (iI (fnL s p j)) (iI j)) _ 12 ?_ ?_ fu (by unfold fu; omega)
    · intro f j hj
      show DX1_findLine_L27 _ _ _ _ _ _ = _
      have b := hb j hj
      have fb := fnL_b (s := s) (p := p) hb j (by omega)
      have cb := cF_b s (s j)
      rw [DX1_findLine_L27]
      simp only [iI_lit, iI_add, jn_eq]
      rw [if_le (by omega) (by omega) (by omega) (by omega), if_neg (by omega), gd_iI (by omega) (by omega) (by omega), iI_nat (by omega) (by omega), h j (by omega) (by omega), if_le (by omega) (by omega) (by omega) (by omega), C_countFrom h hb (by omega) (by omega), hp]
      simp only [Option.bind_some]
      rw [if_lt (by omega) (by omega) (by omega) (by omega), fnL, show ((j + 1 : Nat) : Int) = (j : Int) + 1 by omega]
      by_cases q1 : s j ≤ fnL s p j
      · rw [if_pos q1, if_neg (show ¬ (fnL s p j < s j ∧ p ≤ cF s (s j)) by omega)]
      · rw [if_neg q1]
        by_cases q2 : cF s (s j) < p
        · rw [if_pos q2, if_neg (show ¬ (fnL s p j < s j ∧ p ≤ cF s (s j)) by omega)]
        · rw [if_neg q2, if_pos (show fnL s p j < s j ∧ p ≤ cF s (s j) by omega)]
    · intro f
      show DX1_findLine_L27 _ _ _ _ _ _ = _
      rw [DX1_findLine_L27, if_le (by omega) (by omega) (by omega) (by omega), if_pos (by omega)]
  · rw [if_neg q, if_pos (by omega)]
/-- the cut is that of the scores s for p places -/
def kut (K : SX1) (s : Int → Int) (p : Int) : Prop := gX1_places K = iI p ∧ gX1_line K = iI (lnZ s p) ∧ gX1_above K = iI (abZ s p) ∧ gX1_level K = iI (lvZ s p) ∧ gX1_below K = iI (beZ s p) ∧ scI K s
theorem C_cdraw (h : scI K s) (hb : sbI s) (h0 : 0 ≤ p) (h1 : p ≤ 100) : ∃ K', DX1_draw K (iI p) = some K' ∧ kut K' s p ∧ gX1_scores K' = gX1_scores K := by
  have lb := lnZ_b (s := s) (p := p) hb
  have hf := C_findLine (K := uX1_places K (iI p)) (s := s) (p := p) h hb rfl h0 h1
  refine ⟨(iI p, iI (lnZ s p), iI (abZ s p), iI (lvZ s p), iI (beZ s p), gX1_scores K), ?_, ⟨rfl, rfl, rfl, rfl, rfl, h⟩, rfl⟩
  unfold DX1_draw
  simp only [iI_lit, lt_eq]
  rw [hf]
  simp only [Option.bind_some]
  unfold abZ lvZ beZ
  refine upL (fun f j => DX1_draw_L39 (iI 12) (fun S17 => some S17) f (iI j) ((iI p, iI (lnZ s p), iI (cn (fun e => decide (s e ≠ -1) && decide (lnZ s p < s e)) j), iI (cn (fun e => decide (s e ≠ -1) && decide (s e = lnZ s p)) j), iI (cn (fun e => decide (s e ≠ -1) && decide (s e < lnZ s p)) j), gX1_scores K) : SX1)) _ 12 ?_ ?_ fu (by unfold fu; omega)
  · intro f j hj
    show DX1_draw_L39 _ _ _ _ _ = _
    have b := hb j hj
    rw [DX1_draw_L39]
    simp only [jn_eq, lt_eq]
    rw [cn, cn, cn]
    generalize cn (fun e => decide (s e ≠ -1) && decide (lnZ s p < s e)) j = A
    generalize cn (fun e => decide (s e ≠ -1) && decide (s e = lnZ s p)) j = B
    generalize cn (fun e => decide (s e ≠ -1) && decide (s e < lnZ s p)) j = D
    show (if iI 12 ≤ iI j then some (iI p, iI (lnZ s p), iI A, iI B, iI D, gX1_scores K) else gd (gIn (iI j) 12) (if gX1_scores K (iI j).toNatClampNeg = (-1 : Int32) then DX1_draw_L39 (iI 12) (fun S17 => some S17) f (iI j + (1 : Int32)) (iI p, iI (lnZ s p), iI A, iI B, iI D, gX1_scores K) else if gX1_scores K (iI j).toNatClampNeg ≤ iI (lnZ s p) then (if gX1_scores K (iI j).toNatClampNeg = iI (lnZ s p) then DX1_draw_L39 (iI 12) (fun S17 => some S17) f (iI j + (1 : Int32)) (iI p, iI (lnZ s p), iI A, iI B + (1 : Int32), iI D, gX1_scores K) else DX1_draw_L39 (iI 12) (fun S17 => some S17) f (iI j + (1 : Int32)) (iI p, iI (lnZ s p), iI A, iI B, iI D + (1 : Int32), gX1_scores K)) else DX1_draw_L39 (iI 12) (fun S17 => some S17) f (iI j + (1 : Int32)) (iI p, iI (lnZ s p), iI A + (1 : Int32), iI B, iI D, gX1_scores K))) = _
    simp only [iI_lit, iI_neg, iI_add]
    rw [if_le (by omega) (by omega) (by omega) (by omega), if_neg (by omega), gd_iI (by omega) (by omega) (by omega), iI_nat (by omega) (by omega), h j (by omega) (by omega), if_eq (by omega) (by omega) (by omega) (by omega), if_le (by omega) (by omega) (by omega) (by omega), if_eq (by omega) (by omega) (by omega) (by omega), show ((j + 1 : Nat) : Int) = (j : Int) + 1 by omega]
    by_cases q : s j = -1
    · rw [if_pos q, decide_eq_false (show ¬ s j ≠ -1 from fun h => h q)]
      simp
    · rw [if_neg q, decide_eq_true q]
      simp only [Bool.true_and, decide_eq_true_eq]
      by_cases q1 : s j ≤ lnZ s p
      · rw [if_pos q1, if_neg (show ¬ lnZ s p < s j by omega)]
        by_cases q2 : s j = lnZ s p
        · rw [if_pos q2, if_pos q2, if_neg (by omega)]
          simp
        · rw [if_neg q2, if_neg q2, if_pos (by omega)]
          simp
      · rw [if_neg q1, if_pos (show lnZ s p < s j by omega), if_neg (by omega), if_neg (by omega)]
        simp
  · intro f
    show DX1_draw_L39 _ _ _ _ _ = _
    rw [DX1_draw_L39]
    simp only [iI_lit]
    rw [if_le (by omega) (by omega) (by omega) (by omega), if_pos (by omega)]
theorem C_cscore (h : scI K s) {e : Int} (he : 0 ≤ e) (he' : e < 12) : DX1_scoreOf K (iI e) = some (iI (s e)) := by
  unfold DX1_scoreOf
  simp only [iI_lit, jn_eq]
  rw [C_between (by omega) (by omega) (by omega) (by omega) (by omega) (by omega)]
  simp only [Option.bind_some, if_bz, decide_eq_true_eq]
  rw [if_pos (show 0 ≤ e ∧ e ≤ 11 by omega), gd_iI (by omega) (by omega) (by omega), iI_nat (by omega) (by omega), h e he he']
theorem C_cput (K : SX1) {e v : Int} (he : 0 ≤ e) (he' : e < 12) : DX1_put K (iI e) (iI v) = some (uX1_scores K (upd (gX1_scores K) e.toNat (iI v))) := by
  unfold DX1_put
  simp only [iI_lit, jn_eq, lt_eq]
  rw [C_between (by omega) (by omega) (by omega) (by omega) (by omega) (by omega)]
  simp only [Option.bind_some, if_bz, decide_eq_true_eq]
  rw [if_pos (show 0 ≤ e ∧ e ≤ 11 by omega), gd_iI (by omega) (by omega) (by omega), iI_nat (by omega) (by omega)]
theorem C_cclear (K : SX1) : DX1_clear K = some (uX1_scores K (fun _ => iI (-1))) := by
  unfold DX1_clear
  simp only [lt_eq]
  rfl
theorem sbA (hb : sbI s) {e : Int} (he : 0 ≤ e) (he' : e < 12) : -1 ≤ s e ∧ s e ≤ 1000000 := by
  have := hb e.toNat (by omega)
  rw [Int.toNat_of_nonneg he] at this
  exact this
theorem C_isOut (h : kut K s p) (hb : sbI s) {e : Int} (he : 0 ≤ e) (he' : e < 12) : DX1_isOut K (iI e) = some (bI (decide (s e ≠ -1) && decide (s e < lnZ s p))) := by
  have lb := lnZ_b (s := s) (p := p) hb
  have sb := sbA hb he he'
  unfold DX1_isOut
  simp only [iI_lit, iI_neg, jn_eq]
  rw [C_cscore h.2.2.2.2.2 he he', h.2.1]
  simp only [Option.bind_some, gd_0, gd_1]
  rw [if_eq (by omega) (by omega) (by omega) (by omega), if_le (by omega) (by omega) (by omega) (by omega)]
  by_cases q : s e = -1
  · rw [if_pos q, decide_eq_false (show ¬ s e ≠ -1 from fun h => h q)]; rfl
  · rw [if_neg q, decide_eq_true q]
    by_cases q1 : lnZ s p ≤ s e
    · rw [if_pos q1, decide_eq_false (show ¬ s e < lnZ s p by omega)]; rfl
    · rw [if_neg q1, decide_eq_true (show s e < lnZ s p by omega)]; rfl
theorem ab_b (s : Int → Int) (p : Int) : (0 ≤ abZ s p ∧ abZ s p ≤ 12) ∧ (0 ≤ lvZ s p ∧ lvZ s p ≤ 12) ∧ (0 ≤ beZ s p ∧ beZ s p ≤ 12) := ⟨⟨cn_lo _ _, cn_hi _ 12⟩, ⟨cn_lo _ _, cn_hi _ 12⟩, ⟨cn_lo _ _, cn_hi _ 12⟩⟩
theorem C_leaves (h : kut K s p) (h0 : 0 ≤ p) (h1 : p ≤ 100) : DX1_leavesTie K = some (bI (tieZ s p)) := by
  have ab := ab_b s p
  unfold DX1_leavesTie tieZ
  simp only [iI_lit, jn_eq]
  rw [h.1, h.2.2.1, h.2.2.2.1, iI_add, if_le (by omega) (by omega) (by omega) (by omega)]
  simp only [gd_0, gd_1]
  by_cases q : abZ s p + lvZ s p ≤ p
  · rw [if_pos q, decide_eq_false (by omega)]; rfl
  · rw [if_neg q, decide_eq_true (by omega)]; rfl
theorem C_isTied (h : kut K s p) (hb : sbI s) (h0 : 0 ≤ p) (h1 : p ≤ 100) {e : Int} (he : 0 ≤ e) (he' : e < 12) : DX1_isTied K (iI e) = some (bI (tieZ s p && (decide (s e ≠ -1) && decide (s e = lnZ s p)))) := by
  have lb := lnZ_b (s := s) (p := p) hb
  have sb := sbA hb he he'
  unfold DX1_isTied
  simp only [iI_lit, iI_neg, jn_eq]
  rw [C_leaves h h0 h1, C_cscore h.2.2.2.2.2 he he', h.2.1]
  simp only [Option.bind_some, gd_0, gd_1, if_bz]
  rw [if_eq (by omega) (by omega) (by omega) (by omega), if_eq (by omega) (by omega) (by omega) (by omega)]
  cases tieZ s p with
  | false => rfl
  | true =>
    rw [if_pos rfl]
    by_cases q : s e = -1
    · rw [if_pos q, decide_eq_false (show ¬ s e ≠ -1 from fun h => h q)]; rfl
    · rw [if_neg q, decide_eq_true q]
      by_cases q1 : s e = lnZ s p
      · rw [if_pos q1, decide_eq_true q1]; rfl
      · rw [if_neg q1, decide_eq_false q1]; rfl
theorem C_left (h : kut K s p) : DX1_placesLeft K = some (iI (p - abZ s p)) := by
  unfold DX1_placesLeft
  rw [h.1, h.2.2.1, iI_sub]
theorem C_countOf (h : kut K s p) (h0 : 0 ≤ p) (h1 : p ≤ 100) {w : Int} (hw : 0 ≤ w) (hw' : w ≤ 2) : DX1_countOf K (iI w) = some (iI (if w = 0 then (if tieZ s p = true then abZ s p else abZ s p + lvZ s p) else if w = 1 then (if tieZ s p = true then lvZ s p else 0) else beZ s p)) := by
  unfold DX1_countOf
  simp only [iI_lit, jn_eq]
  rw [C_leaves h h0 h1, h.2.2.1, h.2.2.2.1, h.2.2.2.2.1]
  simp only [Option.bind_some, if_bz, iI_add]
  rw [if_eq (by omega) (by omega) (by omega) (by omega), if_eq (by omega) (by omega) (by omega) (by omega)]
  by_cases q : w = 0
  · rw [if_pos q, if_pos q]
    cases tieZ s p <;> rfl
  · rw [if_neg q, if_neg q]
    by_cases q1 : w = 1
    · rw [if_pos q1, if_pos q1]
      cases tieZ s p <;> rfl
    · rw [if_neg q1, if_neg q1]
/-- the scores of the players, and of the tied ones -/
def sR (M : Int → Int) (e : Int) : Int := if plcZ M e = -1 then -1 else scoreZ M e
def sT (M : Int → Int) (e : Int) : Int := if M (654 + e) = 1 then meanZ (emZ M 570 e (-1)) (M 0).toNat else -1
theorem scoreZ_b (hI : MI M) {e : Int} (he : 0 ≤ e) (he' : e < 12) : -1 ≤ scoreZ M e ∧ scoreZ M e ≤ 700000 := by
  rw [← scW_score hI he he']
  exact scW_b hI he he' (by omega)
theorem sR_b (hI : MI M) : sbI (sR M) := by
  intro e he
  have := scoreZ_b hI (e := e) (by omega) (by omega)
  unfold sR
  split <;> omega
theorem sT_b (hI : MI M) : sbI (sT M) := by
  intro e he
  obtain ⟨hR, hT, hW, hIn, hTi, hk, -⟩ := hI
  have t0 := hT.1
  have b1 := meanZ_lo (em_hi (M := M) (row := 570) (e := e) (w := -1) (fun j h1 h2 => (hk j e h1 h2 (by omega) (by omega)).2) t0.2)
  have b2 := meanZ_hi (em_hi (M := M) (row := 570) (e := e) (w := -1) (fun j h1 h2 => (hk j e h1 h2 (by omega) (by omega)).2) t0.2)
  unfold sT
  split <;> omega
theorem C_judgeRound (h : Cp C M) (hI : MI M) : ∃ K', DX0_judgeRound C = some (uX0_cut C K') ∧ kut K' (sR M) (M (ruleZ (M 4) 5)) := by
  have h' := h
  have hI' := hI
  obtain ⟨hR, hT, hW, hIn, hTi, hk, hs, hO, hN, hru, hba, hty, hml⟩ := hI
  obtain ⟨c3, c4, c1, c2, cw, ce, cr, cp, cj, cs, ch, ct, cc⟩ := h
  have hT' := hT
  obtain ⟨t0, t1, t2, t3, t4, t6, t7, t8⟩ := hT
  have t12 : M 7 ≤ 12 := by omega
  have hp := hru (M 4) (by omega) (by omega)
  have loop := upE (fun f j (K : SX1) => DX0_judgeRound_L9 (fun (S8 : SX0) => (DX11_isBetween (gX0_round S8) (iI 0) (iI 3)).bind fun x9 => if x9 = iI 0 then (DX1_draw (gX0_cut S8) (iI 12)).bind fun x13 => some (uX0_cut S8 x13) else gd (gIn (gX0_round S8) 4) ((DX1_draw (gX0_cut S8) (gX0_rules S8 (gX0_round S8).toNatClampNeg 5)).bind fun x13 => some (uX0_cut S8 x13))) f (iI j) (uX0_cut C K)) (fun K => (DX1_draw K (iI (M (ruleZ (M 4) 5)))).bind fun x13 => some (uX0_cut C x13)) (fun j K => scI K (fun e => if 0 ≤ plcZ M e ∧ plcZ M e < j then scoreZ M e else -1)) (M 7).toNat ?_ ?_ fu (uX1_scores (gX0_cut C) (fun _ => iI (-1))) (by unfold fu; omega) ?_
  · obtain ⟨K1, l1, l2⟩ := loop
    have l3 : scI K1 (sR M) := fun e a b => by
      have l2' : gX1_scores K1 e.toNat = iI (if 0 ≤ plcZ M e ∧ plcZ M e < ((M 7).toNat : Int) then scoreZ M e else -1) := l2 e a b
      rw [l2']
      have pb := plcZ_b M e t12
      unfold sR
      by_cases q : plcZ M e = -1
      · rw [if_neg (by omega), if_pos q]
      · have := pb.2.2 q
        rw [if_pos (by omega), if_neg q]
    obtain ⟨K2, d1, d2, -⟩ := C_cdraw (p := M (ruleZ (M 4) 5)) l3 (sR_b hI') (by omega) (by omega)
    refine ⟨K2, ?_, d2⟩
    unfold DX0_judgeRound
    rw [C_cclear]
    simp only [Option.bind_some, lt_eq, jn_eq, iI_lit]
    refine Eq.trans l1 ?_
    show (DX1_draw K1 (iI (M (ruleZ (M 4) 5)))).bind _ = _
    rw [d1]
    rfl
  · intro f j K hj hK
    have o := hO.1 j (by omega) (by omega)
    have op := plc_ord hO (k := j) (by omega) (by omega)
    refine ⟨uX1_scores K (upd (gX1_scores K) (M (462 + j)).toNat (iI (scoreZ M (M (462 + j))))), ?_, fun e a b => ?_⟩
    · show DX0_judgeRound_L9 _ _ _ _ = _
      rw [DX0_judgeRound_L9, show gX0_stage (uX0_cut C K) = gX0_stage C from rfl, cs.1, C_playerAt cs hT' (by omega) (by omega), if_pos (show 0 ≤ (j : Int) ∧ (j : Int) < M 7 by omega)]
      simp only [Option.bind_some, lt_eq, iI_lit, iI_add]
      rw [if_le (by omega) (by omega) (by omega) (by omega), if_neg (by omega), C_scoreOf (Cp_cut h' K) hI' o.1 (by omega)]
      simp only [Option.bind_some]
      rw [show gX0_cut (uX0_cut C K) = K from rfl, C_cput K o.1 (by omega), show ((j + 1 : Nat) : Int) = (j : Int) + 1 by omega]
      rfl
    · show upd (gX1_scores K) (M (462 + j)).toNat (iI (scoreZ M (M (462 + j)))) e.toNat = iI (if 0 ≤ plcZ M e ∧ plcZ M e < ((j + 1 : Nat) : Int) then scoreZ M e else -1)
      unfold upd
      by_cases q : e = M (462 + j)
      · rw [if_pos (by omega), q, op, if_pos (by omega)]
      · have q2 : plcZ M e ≠ j := fun h9 => q (by rw [← plc_at (M := M) (e := e) (by omega), h9])
        rw [if_neg (by omega), hK e a b]
        show iI (if 0 ≤ plcZ M e ∧ plcZ M e < (j : Int) then scoreZ M e else -1) = _
        by_cases q3 : 0 ≤ plcZ M e ∧ plcZ M e < j
        · rw [if_pos q3, if_pos (by omega)]
        · rw [if_neg q3, if_neg (by omega)]
  · intro f K hK
    show DX0_judgeRound_L9 _ _ _ _ = _
    rw [DX0_judgeRound_L9, show gX0_stage (uX0_cut C K) = gX0_stage C from rfl, cs.1, if_le (by omega) (by omega) (by omega) (by omega), if_pos (by omega), show gX0_round (uX0_cut C K) = gX0_round C from rfl, c4, C_between (by omega) (by omega) (by omega) (by omega) (by omega) (by omega), decide_eq_true (show 0 ≤ M 4 ∧ M 4 ≤ 3 by omega)]
    simp only [Option.bind_some, if_bz, if_true]
    rw [gd_iI (by omega) (by omega) (by omega), iI_nat (by omega) (by omega), show gX0_rules (uX0_cut C K) (M 4).toNat 5 = iI (M (ruleZ (M 4) 5)) from cr (M 4) 5 (by omega) (by omega) (by omega) (by omega)]
    rfl
  · intro e a b
    show iI (-1) = iI (if 0 ≤ plcZ M e ∧ plcZ M e < ((0 : Nat) : Int) then scoreZ M e else -1)
    rw [if_neg (by omega)]
theorem C_judgeTie (h : Cp C M) (hI : MI M) : ∃ K', DX0_judgeTieRound C = some (uX0_cut C K') ∧ kut K' (sT M) (M 9) := by
  have h' := h
  have hI' := hI
  obtain ⟨hR, hT, hW, hIn, hTi, hk, hs, hO, hN, hru, hba, hty, hml⟩ := hI
  obtain ⟨c3, c4, c1, c2, cw, ce, cr, cp, cj, cs, ch, ct, cc⟩ := h
  have hT' := hT
  obtain ⟨t0, t1, t2, t3, t4, t6, t7, t8⟩ := hT
  have t12 : M 7 ≤ 12 := by omega
  obtain ⟨y1, y2, y3, y4, y5, y6, y8, y9⟩ := hty
  have loop := upE (fun f j (K : SX1) => DX0_judgeTieRound_L9 (fun (S8 : SX0) => (DX1_draw (gX0_cut S8) (gX9_places (gX0_tie S8))).bind fun x9 => some (uX0_cut S8 x9)) f (iI j) (uX0_cut C K)) (fun K => (DX1_draw K (iI (M 9))).bind fun x9 => some (uX0_cut C x9)) (fun j K => scI K (fun e => if e < j then sT M e else -1)) (M 6).toNat ?_ ?_ fu (uX1_scores (gX0_cut C) (fun _ => iI (-1))) (by unfold fu; omega) ?_
  · obtain ⟨K1, l1, l2⟩ := loop
    have l3 : scI K1 (sT M) := fun e a b => by
      have l2' : gX1_scores K1 e.toNat = iI (if e < ((M 6).toNat : Int) then sT M e else -1) := l2 e a b
      rw [l2']
      by_cases q : e < ((M 6).toNat : Int)
      · rw [if_pos q]
      · rw [if_neg q]
        unfold sT
        rw [if_neg]
        intro h9
        have := plc_in hT' hO (y1 e a b h9).2
        omega
    obtain ⟨K2, d1, d2, -⟩ := C_cdraw (p := M 9) l3 (sT_b hI') (by omega) (by omega)
    refine ⟨K2, ?_, d2⟩
    unfold DX0_judgeTieRound
    rw [C_cclear]
    simp only [Option.bind_some, lt_eq, jn_eq, iI_lit]
    refine Eq.trans l1 ?_
    rw [d1]
    rfl
  · intro f j K hj hK
    have hmean := C_meanIf (e := j) (w := -1) (v := -1) cj ct.2.2.2 hR hT' (by omega) (by omega) (by omega) (by omega) (by omega) (by omega) (fun i h1 h2 => (hk i j h1 h2 (by omega) (by omega)).2)
    rw [emC_em] at hmean
    refine ⟨if M (654 + j) = 1 then uX1_scores K (upd (gX1_scores K) j (iI (sT M j))) else K, ?_, fun e a b => ?_⟩
    · show DX0_judgeTieRound_L9 _ _ _ _ = _
      rw [DX0_judgeTieRound_L9, show gX0_entrants (uX0_cut C K) = gX0_entrants C from rfl, ce.1, show gX0_tie (uX0_cut C K) = gX0_tie C from rfl, C_has9 ct hTi (by omega) (by omega), show gX0_jury (uX0_cut C K) = gX0_jury C from rfl]
      unfold DX3_meanOf
      simp only [Option.bind_some, lt_eq, jn_eq, iI_lit, iI_neg, iI_add]
      rw [if_le (by omega) (by omega) (by omega) (by omega), if_neg (by omega), hmean]
      simp only [Option.bind_some]
      rw [show gX0_cut (uX0_cut C K) = K from rfl, C_cput K (by omega) (by omega), show ((j + 1 : Nat) : Int) = (j : Int) + 1 by omega, show ((j : Int)).toNat = j by omega]
      rcases hTi j (by omega) (by omega) with h9 | h9
      · rw [h9, if_pos rfl, if_neg (by decide)]
      · rw [h9, if_neg (by decide), if_pos rfl]
        unfold sT
        rw [if_pos h9]
        rfl
    · show gX1_scores (if M (654 + j) = 1 then uX1_scores K (upd (gX1_scores K) j (iI (sT M j))) else K) e.toNat = iI (if e < ((j + 1 : Nat) : Int) then sT M e else -1)
      have hKe : gX1_scores K e.toNat = iI (if e < (j : Int) then sT M e else -1) := hK e a b
      by_cases q : e = j
      · rw [if_pos (show e < ((j + 1 : Nat) : Int) by omega)]
        by_cases q1 : M (654 + j) = 1
        · rw [if_pos q1]
          show upd (gX1_scores K) j (iI (sT M j)) e.toNat = _
          unfold upd
          rw [if_pos (by omega), q]
        · rw [if_neg q1, hKe, if_neg (by omega)]
          unfold sT
          rw [q, if_neg q1]
      · have e1 : (if e < ((j + 1 : Nat) : Int) then sT M e else -1) = if e < (j : Int) then sT M e else -1 := by
          by_cases q2 : e < (j : Int)
          · rw [if_pos q2, if_pos (by omega)]
          · rw [if_neg q2, if_neg (by omega)]
        rw [e1, ← hKe]
        by_cases q1 : M (654 + j) = 1
        · rw [if_pos q1]
          show upd (gX1_scores K) j (iI (sT M j)) e.toNat = _
          unfold upd
          rw [if_neg (by omega)]
        · rw [if_neg q1]
  · intro f K hK
    show DX0_judgeTieRound_L9 _ _ _ _ = _
    rw [DX0_judgeTieRound_L9, show gX0_entrants (uX0_cut C K) = gX0_entrants C from rfl, ce.1, if_le (by omega) (by omega) (by omega) (by omega), if_pos (by omega), show gX9_places (gX0_tie (uX0_cut C K)) = iI (M 9) from ct.2.1]
    rfl
  · intro e a b
    show iI (-1) = iI (if e < ((0 : Nat) : Int) then sT M e else -1)
    rw [if_neg (by omega)]
end KV
