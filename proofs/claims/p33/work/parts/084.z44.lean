section KW
variable {M N V : Int → Int} {T : SX11} {S : SX12} {C : SX0} {c : Int} {s : Int → Int} {p : Int}
theorem mf_cn {row e : Int} : ∀ n : Nat, (mfold (emZ M row e (-1)) n).1 = cn (fun j => countsZ M row j e) n := by
  intro n
  induction n with
  | zero => rfl
  | succ n ih =>
    rw [mfold, cn]
    have ee : emZ M row e (-1) n = if countsZ M row n e = true then M (row + (12 * n + e)) else -1 := by
      unfold emZ
      rw [if_neg (by omega)]
    cases q : countsZ M row n e with
    | true =>
      rw [q, if_pos rfl] at ee
      have : 0 ≤ M (row + (12 * n + e)) := by
        unfold countsZ at q
        rw [Bool.and_eq_true, decide_eq_true_eq] at q
        exact q.1
      rw [if_neg (by omega), if_pos rfl, ih]
    | false =>
      rw [q, if_neg (by decide)] at ee
      rw [if_pos (by omega), if_neg (by decide), ih, Int.add_zero]
theorem mean_ok {row e : Int} (hk : ∀ k : Nat, k < (M 0).toNat → emZ M row e (-1) k ≤ 100) (h : 1 ≤ countingZ M row e) : 0 ≤ meanZ (emZ M row e (-1)) (M 0).toNat := by
  obtain ⟨a1, a2, a3, a4, a5, a6, a7, a8, a9, a10, a11, a12⟩ := mfold_ok (emZ M row e (-1)) (M 0).toNat hk
  have hc : (mfold (emZ M row e (-1)) (M 0).toNat).1 = countingZ M row e := mf_cn _
  unfold meanZ
  rw [if_neg (by omega)]
  split
  · have := a12 (by omega)
    exact Int.ediv_nonneg (by omega) (by omega)
  · exact Int.ediv_nonneg (by omega) (by omega)
theorem marked_pos (hT : stI M) {row e : Int} (h : isMarkedZ M row e = true) : 1 ≤ countingZ M row e := by
  have t0 := hT.1
  unfold isMarkedZ at h
  rw [Bool.and_eq_true, decide_eq_true_eq] at h
  omega
theorem closable_1 (hI : MI M) (h3 : M 3 = 1) (hc : isClosableZ M = true) {e : Int} (he : 0 ≤ e) (he' : e < 12) (hp : plcZ M e ≠ -1) : 0 ≤ scoreZ M e := by
  obtain ⟨hR, hT, hW, hIn, hTi, hk, hs, hO, hN, hru, hba, hty, hml⟩ := hI
  have ein := plc_in hT hO hp
  unfold isClosableZ at hc
  rw [Bool.and_eq_true, al_iff] at hc
  have h1 := hc.2 e.toNat (by omega)
  rw [Int.toNat_of_nonneg he] at h1
  unfold closeOk at h1
  rw [if_pos h3, Bool.or_eq_true, decide_eq_true_eq] at h1
  rcases h1 with h1 | h1
  · exact absurd h1 hp
  · unfold isCompleteZ at h1
    rw [Bool.and_eq_true] at h1
    have m := mean_ok (em_hi (fun j a b => (hk j e a b he he').1) hT.1.2) (marked_pos hT h1.2)
    unfold scoreZ
    rw [if_neg (fun h => by rcases h with h | h; omega; rw [h1.1] at h; cases h)]
    split <;> omega
theorem closable_2 (hI : MI M) (h3 : M 3 = 2) (hc : isClosableZ M = true) {e : Int} (he : 0 ≤ e) (he' : e < 12) (hp : M (654 + e) = 1) : 0 ≤ meanZ (emZ M 570 e (-1)) (M 0).toNat := by
  obtain ⟨hR, hT, hW, hIn, hTi, hk, hs, hO, hN, hru, hba, hty, hml⟩ := hI
  have ein := plc_in hT hO (hty.1 e he he' hp).2
  unfold isClosableZ at hc
  rw [Bool.and_eq_true, al_iff] at hc
  have h1 := hc.2 e.toNat (by omega)
  rw [Int.toNat_of_nonneg he] at h1
  unfold closeOk at h1
  rw [if_neg (by omega), Bool.or_eq_true, decide_eq_true_eq] at h1
  rcases h1 with h1 | h1
  · omega
  · exact mean_ok (em_hi (fun j a b => (hk j e a b he he').2) hT.1.2) (marked_pos hT h1)
/-- the score that decides -/
def sV (M : Int → Int) (row e : Int) : Int := if isAmongZ M row e = true then scoreForZ M row e else -1
theorem sV_R (M : Int → Int) : sV M 486 = sR M := by
  funext e
  unfold sV isAmongZ scoreForZ sR
  rw [if_pos rfl, if_pos rfl]
  by_cases q : plcZ M e = -1
  · rw [if_pos q, if_neg (by rw [decide_eq_false (fun h => h q)]; decide)]
  · rw [if_neg q, if_pos (decide_eq_true q)]
theorem sV_T (M : Int → Int) : sV M 570 = sT M := by
  funext e
  unfold sV isAmongZ scoreForZ sT
  rw [if_neg (show ¬ (570 : Int) = 486 by decide), if_neg (show ¬ (570 : Int) = 486 by decide)]
  by_cases q : M (654 + e) = 1
  · rw [if_pos q, if_pos (decide_eq_true q)]
  · rw [if_neg q, if_neg (by rw [decide_eq_false q]; decide)]
def gtZ (M : Int → Int) (row e : Int) (n : Nat) : Int := cn (fun d => isAmongZ M row d && decide (scoreForZ M row e < scoreForZ M row d)) n
def eqZ (M : Int → Int) (row e : Int) (n : Nat) : Int := cn (fun d => isAmongZ M row d && decide (scoreForZ M row d = scoreForZ M row e)) n
theorem scoreFor_b (hI : MI M) {row e : Int} (hr : row = 486 ∨ row = 570) (he : 0 ≤ e) (he' : e < 12) : -1 ≤ scoreForZ M row e ∧ scoreForZ M row e ≤ 700000 := by
  have h1 := scoreZ_b hI he he'
  obtain ⟨hR, hT, hW, hIn, hTi, hk, -⟩ := hI
  have t0 := hT.1
  have b1 := meanZ_lo (em_hi (M := M) (row := 570) (e := e) (w := -1) (fun j h1 h2 => (hk j e h1 h2 (by omega) (by omega)).2) t0.2)
  have b2 := meanZ_hi (em_hi (M := M) (row := 570) (e := e) (w := -1) (fun j h1 h2 => (hk j e h1 h2 (by omega) (by omega)).2) t0.2)
  unfold scoreForZ
  split <;> omega
theorem R_decL42 (hm : gX12_m S = mI M) (hI : MI M) {row e : Int} (hr : row = 486 ∨ row = 570) (he : 0 ≤ e) (he' : e < 12) (c2 : Int32) (k18 : Int32 → Int32 → SX12 → Option SX12) : DX12_decide_L42 (iI row) c2 (iI e) k18 fu (iI 0) (iI 0) (iI 0) S = k18 (iI (gtZ M row e (M 6).toNat)) (iI (eqZ M row e (M 6).toNat)) S := by
  have hI' := hI
  obtain ⟨hR, hT, hW, hIn, hTi, hk, hs, -⟩ := hI
  have t6 := hT.2.2.2.2.2.1
  refine upL (fun f j => DX12_decide_L42 (iI row) c2 (iI e) k18 f (iI (gtZ M row e j)) (iI (eqZ M row e j)) (iI j) S) _ (M 6).toNat ?_ ?_ fu (by unfold fu; omega)
  · intro f j hj
    show DX12_decide_L42 _ _ _ _ _ _ _ _ _ = _
    have be := scoreFor_b hI' hr he he'
    have bj := scoreFor_b hI' hr (e := j) (by omega) (by omega)
    rw [DX12_decide_L42, R_isAmong hm hR hT hr (by omega) (by omega), R_scoreFor hm hR hT hk hs hr (by omega) (by omega), R_scoreFor hm hR hT hk hs hr he he']
    simp only [Option.bind_some, iI_lit, jn_eq, if_bz, hm, show mI M 6 = iI (M 6) from rfl, iI_add]
    rw [if_le (by omega) (by omega) (by omega) (by omega), if_neg (by omega), if_le (by omega) (by omega) (by omega) (by omega)]
    simp (disch := omega) only [if_eq]
    unfold gtZ eqZ
    rw [cn, cn, show ((j + 1 : Nat) : Int) = (j : Int) + 1 by omega]
    generalize cn (fun d => isAmongZ M row d && decide (scoreForZ M row e < scoreForZ M row d)) j = A
    generalize cn (fun d => isAmongZ M row d && decide (scoreForZ M row d = scoreForZ M row e)) j = B
    cases isAmongZ M row j with
    | false => simp
    | true =>
      simp only [Bool.true_and, decide_eq_true_eq, if_true]
      by_cases q1 : scoreForZ M row j ≤ scoreForZ M row e
      · rw [if_pos q1, if_neg (show ¬ scoreForZ M row e < scoreForZ M row j by omega)]
        by_cases q2 : scoreForZ M row j = scoreForZ M row e
        · rw [if_pos q2, if_pos q2]
        · rw [if_neg q2, if_neg q2]
      · rw [if_neg q1, if_pos (show scoreForZ M row e < scoreForZ M row j by omega)]
        by_cases q2 : scoreForZ M row j = scoreForZ M row e
        · rw [if_pos q2, if_pos q2]
        · rw [if_neg q2, if_neg q2]
  · intro f
    show DX12_decide_L42 _ _ _ _ _ _ _ _ _ = _
    rw [DX12_decide_L42, hm, show mI M 6 = iI (M 6) from rfl, if_le (by omega) (by omega) (by omega) (by omega), if_pos (by omega)]
/-- who is judged, and how -/
def juI (M : Int → Int) (row : Int) : Prop := ∀ e : Int, 0 ≤ e → e < 12 → isAmongZ M row e = true → e < M 6 ∧ 0 ≤ scoreForZ M row e
theorem gt_cF (hI : MI M) {row e : Int} (hr : row = 486 ∨ row = 570) (hJ : juI M row) (he : 0 ≤ e) (he' : e < 12) (ha : isAmongZ M row e = true) : gtZ M row e (M 6).toNat = cF (sV M row) (sV M row e + 1) ∧ gtZ M row e (M 6).toNat + eqZ M row e (M 6).toNat = cF (sV M row) (sV M row e) := by
  have t6 := hI.2.1.2.2.2.2.2.1
  have se : sV M row e = scoreForZ M row e := if_pos ha
  have s0 := (hJ e he he' ha).2
  have tail : ∀ d : Nat, (M 6).toNat ≤ d → d < 12 → sV M row d = -1 := fun d h1 h2 => by
    unfold sV
    rw [if_neg (fun h => by have := (hJ d (by omega) (by omega) h).1; omega)]
  have G : cF (sV M row) (sV M row e + 1) = cn (fun d => decide (sV M row e + 1 ≤ sV M row d)) (M 6).toNat := by
    have := cn_tail (p := fun d => decide (sV M row e + 1 ≤ sV M row d)) (n := (M 6).toNat) (12 - (M 6).toNat) (fun k h1 h2 => decide_eq_false (by rw [tail k h1 (by omega)]; omega))
    rw [show (M 6).toNat + (12 - (M 6).toNat) = 12 by omega] at this
    exact this
  have H : cF (sV M row) (sV M row e) = cn (fun d => decide (sV M row e ≤ sV M row d)) (M 6).toNat := by
    have := cn_tail (p := fun d => decide (sV M row e ≤ sV M row d)) (n := (M 6).toNat) (12 - (M 6).toNat) (fun k h1 h2 => decide_eq_false (by rw [tail k h1 (by omega)]; omega))
    rw [show (M 6).toNat + (12 - (M 6).toNat) = 12 by omega] at this
    exact this
  constructor
  · rw [G]
    refine cn_congr _ fun d hd => ?_
    show (isAmongZ M row d && decide (scoreForZ M row e < scoreForZ M row d)) = decide (sV M row e + 1 ≤ sV M row d)
    rw [se]
    cases q : isAmongZ M row d with
    | true =>
      rw [Bool.true_and, show sV M row d = scoreForZ M row d from if_pos q]
      exact decide_eq_decide.mpr (by omega)
    | false =>
      rw [Bool.false_and, show sV M row d = -1 from if_neg (by rw [q]; decide), decide_eq_false (by omega)]
  · rw [H]
    refine (cn_add _ (fun d hd => ?_) (fun d hd h9 => ?_)).symm
    · show decide (sV M row e ≤ sV M row d) = ((isAmongZ M row d && decide (scoreForZ M row e < scoreForZ M row d)) || (isAmongZ M row d && decide (scoreForZ M row d = scoreForZ M row e)))
      rw [se]
      cases q : isAmongZ M row d with
      | true =>
        rw [Bool.true_and, Bool.true_and, show sV M row d = scoreForZ M row d from if_pos q]
        by_cases q1 : scoreForZ M row e ≤ scoreForZ M row d
        · rw [decide_eq_true q1]
          by_cases q2 : scoreForZ M row d = scoreForZ M row e
          · rw [decide_eq_true q2, Bool.or_true]
          · rw [decide_eq_true (show scoreForZ M row e < scoreForZ M row d by omega), Bool.true_or]
        · rw [decide_eq_false q1, decide_eq_false (show ¬ scoreForZ M row e < scoreForZ M row d by omega), decide_eq_false (show ¬ scoreForZ M row d = scoreForZ M row e by omega)]
          rfl
      | false =>
        rw [Bool.false_and, Bool.false_and, show sV M row d = -1 from if_neg (by rw [q]; decide), decide_eq_false (by omega)]
        rfl
    · have h9 : (isAmongZ M row d && decide (scoreForZ M row e < scoreForZ M row d)) = true := h9
      rw [Bool.and_eq_true, decide_eq_true_eq] at h9
      show (isAmongZ M row d && decide (scoreForZ M row d = scoreForZ M row e)) = false
      rw [decide_eq_false (by omega), Bool.and_false]
theorem sV_b (hI : MI M) {row : Int} (hr : row = 486 ∨ row = 570) : sbI (sV M row) := by
  rcases hr with h | h
  · rw [h, sV_R]; exact sR_b hI
  · rw [h, sV_T]; exact sT_b hI
theorem R_decide (hm : gX12_m S = mI M) (hI : MI M) {row : Int} (hr : row = 486 ∨ row = 570) (hJ : juI M row) (hp : 1 ≤ p) (hp' : p ≤ 12) : ∃ S', DX12_decide S (iI row) (iI p) = some S' ∧ samS S S' ∧ (∀ e : Nat, (e : Int) < M 6 → gX12_fate S' e = iI (ftZ (sV M row) p e)) ∧ ∀ i : Nat, i < 3 → gX12_fates S' i = iI (cn (fun e => decide (ftZ (sV M row) p e = i)) 12) := by
  have hI' := hI
  obtain ⟨hR, hT, hW, hIn, hTi, hk, hs, -⟩ := hI
  have t6 := hT.2.2.2.2.2.1
  have hb := sV_b hI' hr
  unfold DX12_decide
  simp only [iI_lit]
  have l1 := upE (fun f j S => DX12_decide_L2 (iI row) (iI p) (fun S6 => DX12_decide_L22 (iI row) (iI p) (fun S12 => some S12) fu (iI 0) S6) f (iI j) S) (fun S6 => DX12_decide_L22 (iI row) (iI p) (fun S12 => some S12) fu (iI 0) S6) (fun j S' => samS S S' ∧ ∀ i : Nat, i < j → gX12_fates S' i = iI 0) 3 ?_ ?_ fu S (by unfold fu; omega) ⟨⟨rfl, rfl, rfl, rfl, rfl, rfl⟩, fun i h => absurd h (Nat.not_lt_zero i)⟩
  · obtain ⟨S1, e1, s1, z1⟩ := l1
    have l2 := upE (fun f j S => DX12_decide_L22 (iI row) (iI p) (fun S12 => some S12) f (iI j) S) (fun S12 => some S12) (fun j S' => samS S S' ∧ (∀ e : Nat, e < j → gX12_fate S' e = iI (ftZ (sV M row) p e)) ∧ ∀ i : Nat, i < 3 → gX12_fates S' i = iI (cn (fun e => decide (ftZ (sV M row) p e = i)) j)) (M 6).toNat ?_ ?_ fu S1 (by unfold fu; omega) ⟨s1, fun e h => absurd h (Nat.not_lt_zero e), fun i h => z1 i h⟩
    · obtain ⟨S2, e2, s2, f2, g2⟩ := l2
      refine ⟨S2, e1.trans e2, s2, fun e he => f2 e (by omega), fun i hi => ?_⟩
      rw [g2 i hi]
      have := cn_tail (p := fun e => decide (ftZ (sV M row) p e = i)) (n := (M 6).toNat) (12 - (M 6).toNat) (fun k h1 h2 => decide_eq_false (by
        have : sV M row k = -1 := if_neg (fun h => by have := (hJ k (by omega) (by omega) h).1; omega)
        unfold ftZ
        rw [if_pos this]
        omega))
      rw [show (M 6).toNat + (12 - (M 6).toNat) = 12 by omega] at this
      rw [this]
    · intro f j S4 hj hS4
      obtain ⟨s4, f4, g4⟩ := hS4
      have hm4 : gX12_m S4 = mI M := s4.1.trans hm
      have jb : (0 : Int) ≤ j ∧ (j : Int) < 12 := by omega
      have ga := cn_lo (fun d => isAmongZ M row d && decide (scoreForZ M row j < scoreForZ M row d)) (M 6).toNat
      have ga' := cn_hi (fun d => isAmongZ M row d && decide (scoreForZ M row j < scoreForZ M row d)) (M 6).toNat
      have gb := cn_lo (fun d => isAmongZ M row d && decide (scoreForZ M row d = scoreForZ M row j)) (M 6).toNat
      have gb' := cn_hi (fun d => isAmongZ M row d && decide (scoreForZ M row d = scoreForZ M row j)) (M 6).toNat
      have gd1 : gtZ M row j (M 6).toNat = cn (fun d => isAmongZ M row d && decide (scoreForZ M row j < scoreForZ M row d)) (M 6).toNat := rfl
      have gd2 : eqZ M row j (M 6).toNat = cn (fun d => isAmongZ M row d && decide (scoreForZ M row d = scoreForZ M row j)) (M 6).toNat := rfl
      have eft : (if isAmongZ M row j = true then (if p < gtZ M row j (M 6).toNat + eqZ M row j (M 6).toNat then (if p ≤ gtZ M row j (M 6).toNat then (2 : Int) else 1) else 0) else -1) = ftZ (sV M row) p j := by
        unfold ftZ
        cases q : isAmongZ M row j with
        | false =>
          have sv : sV M row j = -1 := if_neg (by rw [q]; decide)
          rw [if_neg (show ¬ false = true by decide), if_pos sv]
        | true =>
          obtain ⟨h1, h2⟩ := gt_cF hI' hr hJ jb.1 jb.2 q
          have s0 := (hJ j jb.1 jb.2 q).2
          have se : sV M row j = scoreForZ M row j := if_pos q
          rw [if_pos rfl, if_neg (show ¬ sV M row j = -1 by omega), h2, h1]
          by_cases q1 : cF (sV M row) (sV M row j) ≤ p
          · rw [if_pos q1, if_neg (by omega)]
          · rw [if_neg q1, if_pos (by omega)]
            by_cases q2 : cF (sV M row) (sV M row j + 1) < p
            · rw [if_pos q2, if_neg (by omega)]
            · rw [if_neg q2, if_pos (by omega)]
      have fb : -1 ≤ ftZ (sV M row) p j ∧ ftZ (sV M row) p j ≤ 2 := by
        unfold ftZ
        repeat' split
        all_goals omega
      obtain ⟨ft, hft⟩ : ∃ ft : Int, ft = ftZ (sV M row) p j := ⟨_, rfl⟩
      rw [← hft] at fb eft
      refine ⟨if ft = -1 then uX12_fate S4 (upd (gX12_fate S4) j (iI ft)) else uX12_fates (uX12_fate S4 (upd (gX12_fate S4) j (iI ft))) (upd (gX12_fates S4) ft.toNat (gX12_fates S4 ft.toNat + iI 1)), ?_, ?_, ?_, ?_⟩
      · show DX12_decide_L22 _ _ _ _ _ _ = _
        have fin : ∀ v : Int32, v = iI ft → (gd (gIn (iI (j : Int)) 12) (gd (gIn (iI (j : Int)) 12) (if upd (gX12_fate S4) (iI (j : Int)).toNatClampNeg v (iI (j : Int)).toNatClampNeg = iI (-1) then DX12_decide_L22 (iI row) (iI p) (fun S12 => some S12) f (iI ((j : Int) + 1)) (uX12_fate S4 (upd (gX12_fate S4) (iI (j : Int)).toNatClampNeg v)) else gd (gIn (iI (j : Int)) 12) (gd (gIn (upd (gX12_fate S4) (iI (j : Int)).toNatClampNeg v (iI (j : Int)).toNatClampNeg) 3) (gd (gIn (upd (gX12_fate S4) (iI (j : Int)).toNatClampNeg v (iI (j : Int)).toNatClampNeg) 3) (DX12_decide_L22 (iI row) (iI p) (fun S12 => some S12) f (iI ((j : Int) + 1)) (uX12_fates (uX12_fate S4 (upd (gX12_fate S4) (iI (j : Int)).toNatClampNeg v)) (upd (gX12_fates S4) (upd (gX12_fate S4) (iI (j : Int)).toNatClampNeg v (iI (j : Int)).toNatClampNeg).toNatClampNeg (gX12_fates S4 (upd (gX12_fate S4) (iI (j : Int)).toNatClampNeg v (iI (j : Int)).toNatClampNeg).toNatClampNeg + iI 1))))))))) = DX12_decide_L22 (iI row) (iI p) (fun S12 => some S12) f (iI ((j : Int) + 1)) (if ft = -1 then uX12_fate S4 (upd (gX12_fate S4) j (iI ft)) else uX12_fates (uX12_fate S4 (upd (gX12_fate S4) j (iI ft))) (upd (gX12_fates S4) ft.toNat (gX12_fates S4 ft.toNat + iI 1))) := by
          intro v hv
          have eo : upd (gX12_fate S4) j v j = v := if_pos rfl
          rw [gd_iI (by omega) (by omega) (by omega), gd_iI (by omega) (by omega) (by omega), iI_nat (by omega) (by omega), show ((j : Int)).toNat = j by omega, eo, hv, if_eq (by omega) (by omega) (by omega) (by omega)]
          by_cases q : ft = -1
          · rw [if_pos q, if_pos q]
          · rw [if_neg q, if_neg q, gd_iI (by omega) (by omega) (by omega), gd_iI (by omega) (by omega) (by omega), gd_iI (by omega) (by omega) (by omega), iI_nat (by omega) (by omega)]
        rw [DX12_decide_L22, hm4, show mI M 6 = iI (M 6) from rfl]
        simp only [iI_lit, R_decL42 hm4 hI' hr jb.1 jb.2]
        rw [if_le (by omega) (by omega) (by omega) (by omega), if_neg (by omega), R_isAmong hm4 hR hT hr jb.1 jb.2]
        simp only [Option.bind_some, jn_eq, lt_eq, if_bz, iI_add, iI_neg, show ∀ x, gX12_fate (uX12_fate S4 x) = x from fun _ => rfl, show ∀ x, gX12_fates (uX12_fate S4 x) = gX12_fates S4 from fun _ => rfl]
        rw [if_lt (by omega) (by omega) (by omega) (by omega), if_le (by omega) (by omega) (by omega) (by omega), show ((j + 1 : Nat) : Int) = (j : Int) + 1 by omega]
        cases q : isAmongZ M row j with
        | false =>
          rw [q, if_neg (by decide)] at eft
          rw [if_neg (by decide)]
          exact fin _ (by rw [← eft])
        | true =>
          rw [q, if_pos rfl] at eft
          rw [if_pos rfl]
          by_cases q1 : p < gtZ M row j (M 6).toNat + eqZ M row j (M 6).toNat
          · rw [if_pos q1] at eft
            rw [if_pos q1]
            by_cases q2 : p ≤ gtZ M row j (M 6).toNat
            · rw [if_pos q2] at eft
              rw [if_pos q2]
              exact fin _ (by rw [← eft])
            · rw [if_neg q2] at eft
              rw [if_neg q2]
              exact fin _ (by rw [← eft])
          · rw [if_neg q1] at eft
            rw [if_neg q1]
            exact fin _ (by rw [← eft])
      · split
        · exact samS_t s4 ⟨rfl, rfl, rfl, rfl, rfl, rfl⟩
        · exact samS_t s4 ⟨rfl, rfl, rfl, rfl, rfl, rfl⟩
      · intro e he
        have e9 : gX12_fate (if ft = -1 then uX12_fate S4 (upd (gX12_fate S4) j (iI ft)) else uX12_fates (uX12_fate S4 (upd (gX12_fate S4) j (iI ft))) (upd (gX12_fates S4) ft.toNat (gX12_fates S4 ft.toNat + iI 1))) = upd (gX12_fate S4) j (iI ft) := by
          split <;> rfl
        rw [e9]
        unfold upd
        by_cases q : e = j
        · rw [if_pos q, q, hft]
        · rw [if_neg q]
          exact f4 e (by omega)
      · intro i hi
        have g5 := g4 i hi
        rw [cn, ← hft]
        by_cases q : ft = -1
        · rw [if_pos q, decide_eq_false (show ¬ ft = (i : Int) by omega), if_neg (by decide), Int.add_zero]
          exact g5
        · rw [if_neg q]
          show upd (gX12_fates S4) ft.toNat (gX12_fates S4 ft.toNat + iI 1) i = _
          unfold upd
          by_cases q1 : i = ft.toNat
          · rw [if_pos q1, ← q1, g5, iI_add, decide_eq_true (show ft = (i : Int) by omega), if_pos rfl]
          · rw [if_neg q1, decide_eq_false (show ¬ ft = (i : Int) by omega), if_neg (by decide), Int.add_zero]
            exact g5
    · intro f S4 hS4
      obtain ⟨s4, f4, g4⟩ := hS4
      show DX12_decide_L22 _ _ _ _ _ _ = _
      rw [DX12_decide_L22, s4.1.trans hm, show mI M 6 = iI (M 6) from rfl, if_le (by omega) (by omega) (by omega) (by omega), if_pos (by omega)]
  · intro f j S4 hj hS4
    refine ⟨uX12_fates S4 (upd (gX12_fates S4) j (iI 0)), ?_, samS_t hS4.1 ⟨rfl, rfl, rfl, rfl, rfl, rfl⟩, fun i hi => ?_⟩
    · show DX12_decide_L2 _ _ _ _ _ _ = _
      rw [DX12_decide_L2]
      simp only [iI_lit, lt_eq, iI_add]
      rw [if_le (by omega) (by omega) (by omega) (by omega), if_neg (by omega), gd_iI (by omega) (by omega) (by omega), iI_nat (by omega) (by omega), show ((j : Int)).toNat = j by omega, show ((j + 1 : Nat) : Int) = (j : Int) + 1 by omega]
    · show upd (gX12_fates S4) j (iI 0) i = _
      unfold upd
      by_cases q : i = j
      · rw [if_pos q]
      · rw [if_neg q]; exact hS4.2 i (by omega)
  · intro f S4 hS4
    show DX12_decide_L2 _ _ _ _ _ _ = _
    rw [DX12_decide_L2]
    simp only [iI_lit]
    rw [if_le (by omega) (by omega) (by omega) (by omega), if_pos (by omega)]
theorem ju_1 (hI : MI M) (h3 : M 3 = 1) (hc : isClosableZ M = true) : juI M 486 := by
  intro e a b h
  have h1 : plcZ M e ≠ -1 := of_decide_eq_true h
  exact ⟨(plc_in hI.2.1 hI.2.2.2.2.2.2.2.1 h1).2, closable_1 hI h3 hc a b h1⟩
theorem ju_2 (hI : MI M) (h3 : M 3 = 2) (hc : isClosableZ M = true) : juI M 570 := by
  intro e a b h
  have h1 : M (654 + e) = 1 := of_decide_eq_true h
  exact ⟨(plc_in hI.2.1 hI.2.2.2.2.2.2.2.1 (hI.2.2.2.2.2.2.2.2.2.2.2.1.1 e a b h1).2).2, closable_2 hI h3 hc a b h1⟩
theorem K_wouldBe (h : GG T S) {w : Int} (hw : -2147483648 ≤ w) (hw' : w < 2147483648) : (∃ v C' S', DX11_wouldBe (gX11_now T) (iI w) = some (Sum.inr (v, C')) ∧ DX12_wouldBe S (iI w) = some (v, S') ∧ gX12_code S' = iI 0 ∧ GG (uX11_now T C') S') ∨ (DX11_wouldBe (gX11_now T) (iI w) = some (Sum.inl 2) ∧ ∃ v S', DX12_wouldBe S (iI w) = some (v, S') ∧ gX12_code S' = iI 1 ∧ GG T S') := by
  obtain ⟨M, V, c, h⟩ := h
  have h' := h
  obtain ⟨gm, gv, gc, hz, hMK, hC, hK, hX⟩ := h
  have hI := hMK.1
  have t3 := hI.2.1.2.2.2.1
  have t4 := hI.2.1.2.2.2.2.1
  have c3 := hC.1
  by_cases q : 0 ≤ w ∧ w ≤ 2
  · left
    by_cases q1 : M 3 = 1 ∧ isClosableZ M = true
    · obtain ⟨K', k1, k2⟩ := C_judgeRound hC hI
      have hp := hI.2.2.2.2.2.2.2.2.2.1 (M 4) (by omega) (by omega)
      obtain ⟨S', d1, d2, d3, d4⟩ := R_decide (S := uX12_code S (iI 0)) (p := M (ruleZ (M 4) 5)) gm hI (Or.inl rfl) (ju_1 hI q1.1 q1.2) hp.1 hp.2
      rw [sV_R] at d3 d4
      have fc := ft_cnt (s := sR M) (p := M (ruleZ (M 4) 5)) hp.1 (fun e he => (sR_b hI e he).1)
      have val : (if w = 0 then (if tieZ (sR M) (M (ruleZ (M 4) 5)) = true then abZ (sR M) (M (ruleZ (M 4) 5)) else abZ (sR M) (M (ruleZ (M 4) 5)) + lvZ (sR M) (M (ruleZ (M 4) 5))) else if w = 1 then (if tieZ (sR M) (M (ruleZ (M 4) 5)) = true then lvZ (sR M) (M (ruleZ (M 4) 5)) else 0) else beZ (sR M) (M (ruleZ (M 4) 5))) = cn (fun e => decide (ftZ (sR M) (M (ruleZ (M 4) 5)) e = ((w.toNat : Nat) : Int))) 12 := by
        have hc : w = 0 ∨ w = 1 ∨ w = 2 := by omega
        rcases hc with rfl | rfl | rfl
        · rw [if_pos rfl]; exact fc.1.symm
        · rw [if_neg (by decide), if_pos rfl]; exact fc.2.1.symm
        · rw [if_neg (by decide), if_neg (by decide)]; exact fc.2.2.symm
      refine ⟨iI (cn (fun e => decide (ftZ (sR M) (M (ruleZ (M 4) 5)) e = ((w.toNat : Nat) : Int))) 12), uX0_cut (gX11_now T) K', S', ?_, ?_, d2.2.2.2.2.2, M, V, c, d2.1.trans gm, d2.2.1.trans gv, d2.2.2.1.trans gc, hz, hMK, Cp_cut hC _, hK, ?_⟩
      · unfold DX11_wouldBe
        simp only [iI_lit, jn_eq, lt_eq, show gX11n_now (gX11_now T) = gX11_now T from rfl]
        rw [C_between hw hw' (by omega) (by omega) (by omega) (by omega), c3, C_canBeClosed hC hI, k1]
        simp only [Option.bind_some, C_reqA, tx_d, if_bz]
        rw [if_pos q, if_eq (by omega) (by omega) (by omega) (by omega), if_pos q1.1, if_pos q1.2, show gX0_cut (gX11n_now (uX11n_now (gX11_now T) (uX0_cut (gX11_now T) K'))) = K' from rfl, C_countOf k2 (by omega) (by omega) q.1 q.2, val]
        rfl
      · unfold DX12_wouldBe
        simp only [iI_lit, iI_neg, jn_eq, lt_eq, uc_code, uc_m, gm]
        rw [R_in hw hw' (by omega) (by omega) (by omega) (by omega), R_isClosable (S := uX12_code S (iI 0)) gm hI.1 hI.2.1]
        simp only [show mI M 3 = iI (M 3) from rfl, show mI M 4 = iI (M 4) from rfl, Option.bind_some, if_bz, decide_eq_true_eq, iI_mul, iI_add, if_neg (show ¬ iI 1 = iI 0 by decide), if_neg (show ¬ iI 2 = iI 0 by decide), if_neg (show ¬ iI 3 = iI 0 by decide), if_pos (show iI 0 = iI 0 from rfl), if_true]
        rw [if_pos q, if_eq (by omega) (by omega) (by omega) (by omega), if_pos q1.1, if_pos q1.2, gd_iI (by omega) (by omega) (by omega), mI_at (by omega) (by omega), show 102 + 6 * M 4 + 5 = ruleZ (M 4) 5 from rfl, d1]
        simp only [Option.bind_some]
        rw [gd_iI (by omega) (by omega) (by omega), iI_nat (by omega) (by omega), d4 w.toNat (by omega)]
      · obtain ⟨L, Tx, hT⟩ := hX
        exact c_tx (tI_s (S := uX12_code S (iI 0)) hT d2 ⟨rfl, rfl⟩)
    · refine ⟨iI (-1), gX11_now T, uX12_code S (iI 0), ?_, ?_, uc_code, M, V, c, G_code h' _⟩
      · unfold DX11_wouldBe
        simp only [iI_lit, iI_neg, jn_eq, lt_eq, show gX11n_now (gX11_now T) = gX11_now T from rfl]
        rw [C_between hw hw' (by omega) (by omega) (by omega) (by omega), c3, C_canBeClosed hC hI]
        simp only [Option.bind_some, C_reqA, tx_d, if_bz]
        rw [if_pos q, if_eq (by omega) (by omega) (by omega) (by omega)]
        by_cases q2 : M 3 = 1
        · rw [if_pos q2, if_neg (fun h => q1 ⟨q2, h⟩)]
        · rw [if_neg q2]
      · unfold DX12_wouldBe
        simp only [iI_lit, iI_neg, jn_eq, lt_eq, uc_code, uc_m, gm]
        rw [R_in hw hw' (by omega) (by omega) (by omega) (by omega), R_isClosable (S := uX12_code S (iI 0)) gm hI.1 hI.2.1]
        simp only [show mI M 3 = iI (M 3) from rfl, Option.bind_some, if_bz, decide_eq_true_eq, if_neg (show ¬ iI 1 = iI 0 by decide), if_neg (show ¬ iI 2 = iI 0 by decide), if_neg (show ¬ iI 3 = iI 0 by decide), if_pos (show iI 0 = iI 0 from rfl), if_true]
        rw [if_pos q, if_eq (by omega) (by omega) (by omega) (by omega)]
        by_cases q2 : M 3 = 1
        · rw [if_pos q2, if_neg (fun h => q1 ⟨q2, h⟩)]
        · rw [if_neg q2]
  · right
    refine ⟨?_, iI 0, uX12_code S (iI 1), ?_, uc_code, M, V, c, G_code h' _⟩
    · unfold DX11_wouldBe
      simp only [iI_lit, iI_neg, jn_eq, lt_eq]
      rw [C_between hw hw' (by omega) (by omega) (by omega) (by omega)]
      simp only [Option.bind_some, C_reqA, tx_d]
      rw [if_neg q]
    · unfold DX12_wouldBe
      simp only [iI_lit, iI_neg, jn_eq, lt_eq, uc_code, uc_m, gm]
      rw [R_in hw hw' (by omega) (by omega) (by omega) (by omega)]
      simp only [Option.bind_some, if_bz, decide_eq_true_eq, if_neg (show ¬ iI 1 = iI 0 by decide), if_neg (show ¬ iI 2 = iI 0 by decide), if_neg (show ¬ iI 3 = iI 0 by decide), if_pos (show iI 0 = iI 0 from rfl), if_true]
      rw [if_neg q]
end KW
