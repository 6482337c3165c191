section CS
variable {M : Int → Int} {C : SX0}
/-- the class's competition says what the reference's cells say -/
def Cp (C : SX0) (M : Int → Int) : Prop := gX0_state C = iI (M 3) ∧ gX0_round C = iI (M 4) ∧ gX0_rounds C = iI (M 1) ∧ gX0_penalty C = iI (M 2) ∧ cW (gX0_works C) M ∧ cE (gX0_entrants C) M ∧ cR (gX0_rules C) M ∧ cP (gX0_programs C) M ∧ cJ (gX0_jury C) M ∧ cS (gX0_stage C) M ∧ cH (gX0_sheet C) M 486 ∧ cT (gX0_tie C) M ∧ cC (gX0_closedScores C) M
def ruI (M : Int → Int) : Prop := ∀ r : Int, 0 ≤ r → r < 4 → 1 ≤ M (ruleZ r 5) ∧ M (ruleZ r 5) ≤ 12
def baI (M : Int → Int) : Prop := ∀ j e : Int, 0 ≤ j → j < 7 → 0 ≤ e → e < 12 → M (378 + (12 * j + e)) = 0 ∨ M (378 + (12 * j + e)) = 1
def tyI (M : Int → Int) : Prop := (∀ e : Int, 0 ≤ e → e < 12 → M (654 + e) = 1 → M 3 = 2 ∧ plcZ M e ≠ -1) ∧ (∀ j e : Int, 0 ≤ j → j < 7 → 0 ≤ e → e < 12 → M (654 + e) ≠ 1 → M (570 + (12 * j + e)) = -1) ∧ (M 3 ≠ 2 → M 9 = 0 ∧ M 10 = 0) ∧ (M 3 = 2 → 1 ≤ M 9 ∧ 1 ≤ M 10) ∧ (0 ≤ M 9 ∧ M 9 ≤ 12) ∧ (0 ≤ M 10 ∧ M 10 ≤ 3) ∧ (M 3 = 0 → M 7 = 0) ∧ 0 ≤ M 11
/-- no mark below ABSTAINED -/
def mlI (M : Int → Int) : Prop := ∀ j e : Int, 0 ≤ j → j < 7 → 0 ≤ e → e < 12 → -2 ≤ M (486 + (12 * j + e)) ∧ -2 ≤ M (570 + (12 * j + e))
/-- what holds of the reference's cells between calls -/
def MI (M : Int → Int) : Prop := rg M ∧ stI M ∧ wkI M ∧ inI M ∧ tiI M ∧ mkI M ∧ slI M ∧ ordI M ∧ npI M ∧ ruI M ∧ baI M ∧ tyI M ∧ mlI M
/-- the score where one juror's mark is another -/
def scW (M : Int → Int) (w e v : Int) : Int := if meanZ (emC M 486 e w v) (M 0).toNat = -1 then -1 else if 0 ≤ meanZ (emC M 486 e w v) (M 0).toNat - 10 * M 2 * (if hpZ M e = true then M (474 + e) else 0) then meanZ (emC M 486 e w v) (M 0).toNat - 10 * M 2 * (if hpZ M e = true then M (474 + e) else 0) else 0
theorem emC_hi {row e w v : Int} (hk : ∀ j : Int, 0 ≤ j → j < 7 → M (row + (12 * j + e)) ≤ 100) (h0' : M 0 ≤ 7) (hv : v ≤ 100) : ∀ k : Nat, k < (M 0).toNat → emC M row e w v k ≤ 100 := by
  intro k hk9
  unfold emC
  have := hk k (by omega) (by omega)
  split
  · omega
  · split <;> omega
theorem C_scoreWith (h : Cp C M) (hI : MI M) {w e v : Int} (he : 0 ≤ e) (he' : e < 12) (hw : -1 ≤ w) (hw' : w < 7) (hv : -2147483648 ≤ v) (hv' : v ≤ 100) : DX0_scoreWith C (iI w) (iI e) (iI v) = some (iI (scW M w e v)) := by
  obtain ⟨hR, hT, hW, hIn, hTi, hk, hs, hO, hN, -⟩ := hI
  obtain ⟨-, -, -, hp, -, -, -, -, hJ, hS, hH, -⟩ := h
  have t0 := hT.1
  have t2 := hT.2.2.1
  have b1 := meanZ_lo (emC_hi (row := 486) (e := e) (w := w) (v := v) (fun j h1 h2 => (hk j e h1 h2 he he').1) t0.2 hv')
  have b2 := meanZ_hi (emC_hi (row := 486) (e := e) (w := w) (v := v) (fun j h1 h2 => (hk j e h1 h2 he he').1) t0.2 hv')
  unfold DX0_scoreWith
  rw [C_meanIf hJ hH hR hT he he' hw hw' hv hv' (fun j h1 h2 => (hk j e h1 h2 he he').1), C_slipsOf hS he he', hp]
  simp only [Option.bind_some, iI_lit, iI_neg]
  unfold scW
  rw [if_eq (by omega) (by omega) (by omega) (by omega)]
  by_cases q : meanZ (emC M 486 e w v) (M 0).toNat = -1
  · rw [if_pos q, if_pos q]
  · rw [if_neg q, if_neg q]
    obtain ⟨s, s1, s2, s3, s4⟩ : ∃ s : Int, 0 ≤ s ∧ s ≤ 20 ∧ (if hpZ M e = true then M (474 + e) else 0) = s ∧ (if iI 0 < iI (if hpZ M e = true then M (474 + e) else -1) then iI (if hpZ M e = true then M (474 + e) else -1) else iI 0) = iI s := by
      cases hp : hpZ M e with
      | true =>
        have := hs e he he' hp
        refine ⟨M (474 + e), this.1, this.2, by rw [if_pos (show true = true from rfl)], ?_⟩
        rw [if_pos (show true = true from rfl), if_lt (by omega) (by omega) (by omega) (by omega)]
        split
        · rfl
        · rw [show M (474 + e) = 0 by omega]
      | false =>
        refine ⟨0, by omega, by omega, by rw [if_neg (show ¬ false = true by decide)], ?_⟩
        rw [if_neg (show ¬ false = true by decide)]
        rfl
    rw [s3, s4]
    simp only [iI_mul, iI_sub]
    have p0 : M 2 * 10 * s = 10 * M 2 * s := by rw [Int.mul_comm (M 2) 10]
    have p1 : 0 ≤ 10 * M 2 * s := Int.mul_nonneg (by omega) s1
    have p2 : 10 * M 2 * s ≤ 1000 * 20 := Int.mul_le_mul (by omega) s2 s1 (by omega)
    rw [p0, if_lt (by omega) (by omega) (by omega) (by omega)]
    by_cases q1 : 0 < meanZ (emC M 486 e w v) (M 0).toNat - 10 * M 2 * s
    · rw [if_pos q1, if_pos (by omega)]
    · rw [if_neg q1]
      by_cases q2 : 0 ≤ meanZ (emC M 486 e w v) (M 0).toNat - 10 * M 2 * s
      · rw [if_pos q2, show meanZ (emC M 486 e w v) (M 0).toNat - 10 * M 2 * s = 0 by omega]
      · rw [if_neg q2]
theorem scW_score (hI : MI M) {e : Int} (he : 0 ≤ e) (he' : e < 12) : scW M (-1) e (-1) = scoreZ M e := by
  obtain ⟨hR, hT, hW, hIn, hTi, hk, hs, hO, hN, -⟩ := hI
  unfold scW scoreZ
  rw [emC_em]
  by_cases q : meanZ (emZ M 486 e (-1)) (M 0).toNat = -1
  · rw [if_pos q, if_pos (Or.inl q)]
  · cases hp : hpZ M e with
    | false => exact absurd (mean_np hN hT he he' hp (-1)) q
    | true =>
      have q9 : ¬ (meanZ (emZ M 486 e (-1)) (M 0).toNat = -1 ∨ true = false) := by intro h; rcases h with h | h; exact q h; cases h
      rw [if_neg q, if_neg q9, if_pos (show true = true from rfl)]
theorem C_scoreOf (h : Cp C M) (hI : MI M) {e : Int} (he : 0 ≤ e) (he' : e < 12) : DX0_scoreOf C (iI e) = some (iI (scoreZ M e)) := by
  unfold DX0_scoreOf
  simp only [iI_lit, iI_neg]
  rw [C_scoreWith h hI he he' (by omega) (by omega) (by omega) (by omega), scW_score hI he he']
  rfl
theorem C_playerAt {T : SX7} (h : cS T M) (hT : stI M) {k : Int} (hk : -2147483648 ≤ k) (hk' : k < 2147483648) : DX7_playerAt T (iI k) = some (iI (if 0 ≤ k ∧ k < M 7 then M (462 + k) else -1)) := by
  obtain ⟨t0, t1, t2, t3, t4, t6, t7, t8⟩ := hT
  unfold DX7_playerAt
  rw [h.1]
  simp only [iI_lit, iI_neg, jn_eq]
  simp (disch := omega) only [if_lt, if_le]
  by_cases q : 0 ≤ k ∧ k < M 7
  · rw [if_neg (by omega), if_neg (by omega), if_neg (by omega), if_pos q, gd_iI (by omega) (by omega) (by omega), iI_nat (by omega) (by omega), h.2.2.2.1 k q.1 q.2]
  · rw [if_neg q]
    split
    · rfl
    · split
      · rfl
      · exfalso; omega
theorem C_placeOf {T : SX7} (h : cS T M) (hR : rg M) (hT : stI M) {e : Int} (he : -2147483648 ≤ e) (he' : e < 2147483648) : DX7_placeOf T (iI e) = some (iI (plcZ M e)) := by
  have hT' := hT
  obtain ⟨t0, t1, t2, t3, t4, t6, t7, t8⟩ := hT
  unfold DX7_placeOf
  simp only [iI_lit, iI_neg]
  refine upS (fun f j => DX7_placeOf_L2 T (iI e) _ _ f (iI j)) (fun z => some (iI z)) (fun k => decide (M (462 + k) = e)) (M 7).toNat ?_ ?_ ?_ fu (by unfold fu; omega)
  · intro f j hj hp
    show DX7_placeOf_L2 _ _ _ _ _ _ = _
    have := hR (462 + j)
    rw [DX7_placeOf_L2, h.1, C_playerAt h hT' (by omega) (by omega)]
    simp only [iI_lit, iI_add, Option.bind_some]
    rw [if_le (by omega) (by omega) (by omega) (by omega), if_neg (by omega), if_pos (show 0 ≤ (j : Int) ∧ (j : Int) < M 7 by omega), if_eq (by omega) (by omega) (by omega) (by omega), if_neg (of_decide_eq_false hp)]
    rfl
  · intro f j hj hp
    show DX7_placeOf_L2 _ _ _ _ _ _ = _
    have := hR (462 + j)
    rw [DX7_placeOf_L2, h.1, C_playerAt h hT' (by omega) (by omega)]
    simp only [iI_lit, iI_add, Option.bind_some]
    rw [if_le (by omega) (by omega) (by omega) (by omega), if_neg (by omega), if_pos (show 0 ≤ (j : Int) ∧ (j : Int) < M 7 by omega), if_eq (by omega) (by omega) (by omega) (by omega), if_pos (of_decide_eq_true hp)]
  · intro f
    show DX7_placeOf_L2 _ _ _ _ _ _ = _
    rw [DX7_placeOf_L2, h.1, if_le (by omega) (by omega) (by omega) (by omega), if_pos (by omega)]
end CS
