section CT
variable {M : Int → Int} {C : SX0}
theorem C_isSettled {J : SX3} {H : SX6} {row : Int} (hJ : cJ J M) (h : cH H M row) (hR : rg M) (hT : stI M) {e : Int} (he : 0 ≤ e) (he' : e < 12) (hl : ∀ j : Int, 0 ≤ j → j < 7 → -2 ≤ M (row + (12 * j + e))) : DX3_isSettled J H (iI e) = some (bI (isMarkedZ M row e)) := by
  have hT' := hT
  obtain ⟨t0, t1, t2, t3, t4, t6, t7, t8⟩ := hT
  have c1 := cn_lo (fun j => countsZ M row j e) (M 0).toNat
  have c2 := cn_hi (fun j => countsZ M row j e) (M 0).toNat
  have c3 : countingZ M row e = cn (fun j => countsZ M row j e) (M 0).toNat := rfl
  have key : ∀ (k2 : Unit → Option Int32) (k3 : Int32 → Option Int32), DX3_isSettled_L5 J H (iI e) k2 k3 fu (iI 0) (iI 0) = if fst (fun j => !(decide (M (row + (12 * j + e)) ≠ -1) || isBarredZ M j e)) (M 0).toNat = -1 then k3 (iI (countingZ M row e)) else k2 () := by
    intro k2 k3
    refine upS (fun f j => DX3_isSettled_L5 J H (iI e) k2 k3 f (iI (cn (fun j => countsZ M row j e) j)) (iI j)) (fun z => if z = -1 then k3 (iI (countingZ M row e)) else k2 ()) (fun j => !(decide (M (row + (12 * j + e)) ≠ -1) || isBarredZ M j e)) (M 0).toNat ?_ ?_ ?_ fu (by unfold fu; omega)
    · intro f j hj hp
      show DX3_isSettled_L5 _ _ _ _ _ _ _ _ = _
      have r1 := hR (row + (12 * j + e))
      have r2 := hl j (by omega) (by omega)
      rw [DX3_isSettled_L5, hJ.1, C_isBarred hJ hR (by omega) (by omega) he he', C_at h (by omega) (by omega) he he']
      simp only [iI_lit, iI_add, iI_neg, jn_eq, Option.bind_some, if_bz]
      rw [if_le (by omega) (by omega) (by omega) (by omega), if_neg (by omega), if_eq (by omega) (by omega) (by omega) (by omega), if_eq (by omega) (by omega) (by omega) (by omega), show ((j + 1 : Nat) : Int) = (j : Int) + 1 by omega, cn]
      unfold countsZ
      simp only [Bool.not_eq_false', Bool.or_eq_true, decide_eq_true_eq] at hp
      cases hb : isBarredZ M j e with
      | true => rw [if_pos (show true = true from rfl), Bool.not_true, Bool.and_false, if_neg (show ¬ false = true by decide), Int.add_zero]
      | false =>
        rw [if_neg (show ¬ false = true by decide)]
        have q : ¬ M (row + (12 * j + e)) = -1 := by
          rcases hp with hp | hp
          · exact hp
          · rw [hb] at hp; cases hp
        rw [if_neg q]
        by_cases q2 : M (row + (12 * j + e)) = -2
        · rw [if_pos q2, decide_eq_false (show ¬ 0 ≤ M (row + (12 * j + e)) by omega), Bool.false_and, if_neg (show ¬ false = true by decide), Int.add_zero]
        · rw [if_neg q2, decide_eq_true (show 0 ≤ M (row + (12 * j + e)) by omega), Bool.true_and, Bool.not_false, if_pos (show true = true from rfl)]
    · intro f j hj hp
      show DX3_isSettled_L5 _ _ _ _ _ _ _ _ = _
      have r1 := hR (row + (12 * j + e))
      rw [DX3_isSettled_L5, hJ.1, C_isBarred hJ hR (by omega) (by omega) he he', C_at h (by omega) (by omega) he he']
      simp only [iI_lit, iI_add, iI_neg, jn_eq, Option.bind_some, if_bz]
      simp only [Bool.not_eq_true', Bool.or_eq_false_iff, decide_eq_false_iff_not, Decidable.not_not] at hp
      rw [if_le (by omega) (by omega) (by omega) (by omega), if_neg (by omega), hp.2, if_neg (show ¬ false = true by decide), if_eq (by omega) (by omega) (by omega) (by omega), if_pos (show M (row + (12 * j + e)) = -1 by have := hp.1; omega), if_neg (by omega)]
    · intro f
      show DX3_isSettled_L5 _ _ _ _ _ _ _ _ = _
      rw [DX3_isSettled_L5, hJ.1, if_le (by omega) (by omega) (by omega) (by omega), if_pos (by omega), if_pos rfl]
      rfl
  unfold DX3_isSettled
  simp only [iI_lit, jn_eq]
  rw [hJ.1, key]
  unfold isMarkedZ
  have hal : (al (fun j => decide (M (row + (12 * j + e)) ≠ -1) || isBarredZ M j e) (M 0).toNat = true) ↔ fst (fun j => !(decide (M (row + (12 * j + e)) ≠ -1) || isBarredZ M j e)) (M 0).toNat = -1 := by
    rw [al_iff, fst_none]
    exact ⟨fun h k hk => by rw [h k hk]; rfl, fun h k hk => by have := h k hk; revert this; cases (decide (M (row + (12 * k + e)) ≠ -1) || isBarredZ M k e) <;> intro h <;> first | rfl | cases h⟩
  simp only [iI_add]
  rw [iI_div (by omega) (by omega) (by omega) (by omega)]
  by_cases q : fst (fun j => !(decide (M (row + (12 * j + e)) ≠ -1) || isBarredZ M j e)) (M 0).toNat = -1
  · rw [if_pos q, hal.mpr q, if_lt (by omega) (by omega) (by omega) (by omega), Bool.and_true]
    by_cases q2 : countingZ M row e < (M 0 + 1) / 2
    · rw [if_pos q2, decide_eq_false (by omega)]; rfl
    · rw [if_neg q2, decide_eq_true (by omega)]; rfl
  · rw [if_neg q]
    cases h9 : al (fun j => decide (M (row + (12 * j + e)) ≠ -1) || isBarredZ M j e) (M 0).toNat with
    | true => exact absurd (hal.mp h9) q
    | false => rw [Bool.and_false]; rfl
theorem C_isComplete (h : Cp C M) (hI : MI M) {e : Int} (he : 0 ≤ e) (he' : e < 12) : DX0_isComplete C (iI e) = some (bI (isCompleteZ M e)) := by
  obtain ⟨hR, hT, hW, hIn, hTi, hk, hs, hO, hN, hru, hba, hty, hml⟩ := hI
  obtain ⟨-, -, -, hp, -, -, -, -, hJ, hS, hH, -⟩ := h
  unfold DX0_isComplete
  rw [C_hasPlayed hS hs hR he he', C_isSettled hJ hH hR hT he he' (fun j h1 h2 => (hml j e h1 h2 he he').1)]
  simp only [Option.bind_some, iI_lit, jn_eq, if_bz]
  unfold isCompleteZ
  cases hpZ M e <;> cases isMarkedZ M 486 e <;> rfl
theorem C_has9 {T : SX9} (h : cT T M) (hTi : tiI M) {e : Int} (he : 0 ≤ e) (he' : e < 12) : DX9_has T (iI e) = some (iI (M (654 + e))) := by
  unfold DX9_has
  simp only [iI_lit, jn_eq]
  rw [C_between (by omega) (by omega) (by omega) (by omega) (by omega) (by omega)]
  simp only [Option.bind_some, if_bz]
  rw [decide_eq_true (by omega), if_pos (show true = true from rfl), gd_iI (by omega) (by omega) (by omega), iI_nat (by omega) (by omega), h.2.2.1 e he he']
  rcases hTi e he he' with h2 | h2
  · rw [h2]; rfl
  · rw [h2]; rfl
theorem C_countedMarks (h : Cp C M) (hI : MI M) {e : Int} (he : 0 ≤ e) (he' : e < 12) : DX0_countedMarks C (iI e) = some (iI (countingZ M (if M 3 = 2 then 570 else 486) e)) := by
  obtain ⟨hR, hT, hW, hIn, hTi, hk, hs, hO, hN, hru, hba, hty, hml⟩ := hI
  obtain ⟨h3, -, -, hp, -, -, -, -, hJ, hS, hH, hTie, -⟩ := h
  have t3 := hT.2.2.2.1
  unfold DX0_countedMarks
  rw [h3, C_countMarks hJ hH hR hT he he', C_countMarks hJ hTie.2.2.2 hR hT he he']
  simp only [Option.bind_some, iI_lit]
  rw [if_eq (by omega) (by omega) (by omega) (by omega)]
  split <;> rfl
theorem tie_mean (hI : MI M) {e : Int} (he : 0 ≤ e) (he' : e < 12) : meanZ (emZ M 570 e (-1)) (M 0).toNat = if M (654 + e) = 1 then meanZ (emZ M 570 e (-1)) (M 0).toNat else -1 := by
  obtain ⟨hR, hT, hW, hIn, hTi, hk, hs, hO, hN, hru, hba, hty, hml⟩ := hI
  by_cases q : M (654 + e) = 1
  · rw [if_pos q]
  · rw [if_neg q]
    refine meanZ_none fun k hk9 => ?_
    have := hty.2.1 k e (by omega) (by have := hT.1; omega) he he' q
    unfold emZ
    rw [this]
    split
    · decide
    · split <;> decide
theorem C_tellOfEntrant (h : Cp C M) (hI : MI M) {e w : Int} (he : 0 ≤ e) (he' : e < 12) (hw : 0 ≤ w) (hw' : w < 8) : DX0_tellOfEntrant C (iI e) (iI w) = some (iI (ofEntrantZ M e w)) := by
  have hI' := hI
  have h' := h
  obtain ⟨hR, hT, hW, hIn, hTi, hk, hs, hO, hN, hru, hba, hty, hml⟩ := hI
  obtain ⟨h3, -, -, hp, -, hE, -, -, hJ, hS, hH, hTie, -⟩ := h
  obtain ⟨t0, t1, t2, t3, t4, t6, t7, t8⟩ := hT
  unfold DX0_tellOfEntrant DX3_meanOf
  simp only [iI_lit, iI_neg, jn_eq]
  rw [C_isIn hE hIn (by omega) (by omega) he he', C_placeOf hS hR hI'.2.1 (by omega) (by omega), C_slipsOf hS he he', C_countedMarks h' hI' he he', C_scoreOf h' hI' he he', C_isComplete h' hI' he he', C_has9 hTie hTi he he', C_meanIf hJ hTie.2.2.2 hR hI'.2.1 he he' (by omega) (by omega) (by omega) (by omega) (fun j h1 h2 => (hk j e h1 h2 he he').2), emC_em, tie_mean hI' he he']
  simp (disch := omega) only [if_eq, Option.bind_some, if_bz]
  unfold ofEntrantZ
  have g1 := (hIn e he he').1
  have g2 := hTi e he he'
  have g3 := hR (126 + e)
  have g4 := hR (654 + e)
  by_cases q0 : w = 0
  · rw [if_pos q0, if_pos q0, if_eq g3.1 g3.2 (by omega) (by omega)]
    split
    · next q => rw [q]
    · rw [show M (126 + e) = 1 by omega]
  rw [if_neg q0, if_neg q0]
  by_cases q1 : w = 1
  · rw [if_pos q1, if_pos q1]
  rw [if_neg q1, if_neg q1]
  by_cases q2 : w = 2
  · rw [if_pos q2, if_pos q2]
  rw [if_neg q2, if_neg q2]
  by_cases q3 : w = 3
  · rw [if_pos q3, if_pos q3]
  rw [if_neg q3, if_neg q3]
  by_cases q4 : w = 4
  · rw [if_pos q4, if_pos q4]
  rw [if_neg q4, if_neg q4]
  by_cases q5 : w = 5
  · rw [if_pos q5, if_pos q5]
    cases isCompleteZ M e <;> rfl
  rw [if_neg q5, if_neg q5]
  by_cases q6 : w = 6
  · rw [if_pos q6, if_pos q6, if_eq g4.1 g4.2 (by omega) (by omega)]
    split
    · next q => rw [q]
    · rw [show M (654 + e) = 1 by omega]
  rw [if_neg q6, if_neg q6]
end CT
