section RO
variable {S : SX12} {M : Int → Int}
/-- jury, rounds, penalty, state and the numbers of entrants, players, those who have played -/
def stI (M : Int → Int) : Prop := (3 ≤ M 0 ∧ M 0 ≤ 7) ∧ (1 ≤ M 1 ∧ M 1 ≤ 4) ∧ (0 ≤ M 2 ∧ M 2 ≤ 100) ∧ (0 ≤ M 3 ∧ M 3 ≤ 3) ∧ (0 ≤ M 4 ∧ M 4 ≤ 3) ∧ (0 ≤ M 6 ∧ M 6 ≤ 12) ∧ (0 ≤ M 7 ∧ M 7 ≤ M 6) ∧ (0 ≤ M 8 ∧ M 8 ≤ M 7)
def inI (M : Int → Int) : Prop := ∀ e : Int, 0 ≤ e → e < 12 → (M (126 + e) = 0 ∨ M (126 + e) = 1) ∧ (M 6 ≤ e → M (126 + e) = 0)
def tiI (M : Int → Int) : Prop := ∀ e : Int, 0 ≤ e → e < 12 → (M (654 + e) = 0 ∨ M (654 + e) = 1)
/-- no mark above 100 -/
def mkI (M : Int → Int) : Prop := ∀ j e : Int, 0 ≤ j → j < 7 → 0 ≤ e → e < 12 → M (486 + (12 * j + e)) ≤ 100 ∧ M (570 + (12 * j + e)) ≤ 100
def slI (M : Int → Int) : Prop := ∀ e : Int, 0 ≤ e → e < 12 → hpZ M e = true → 0 ≤ M (474 + e) ∧ M (474 + e) ≤ 20
def mayMarkZ (M : Int → Int) (j e : Int) : Bool := ((decide (M 3 = 1) && hpZ M e) || (decide (M 3 = 2) && decide (M (654 + e) = 1))) && !isBarredZ M j e
theorem R_mayMark (hm : gX12_m S = mI M) (hR : rg M) (hT : stI M) {j e : Int} (hj : 0 ≤ j) (hj' : j < 7) (he : 0 ≤ e) (he' : e < 12) : DX12_mayMark S (iI j) (iI e) = some (bI (mayMarkZ M j e)) := by
  obtain ⟨t0, t1, t2, t3, t4, t6, t7, t8⟩ := hT
  have r6 := hR (654 + e)
  unfold DX12_mayMark
  rw [hm]
  simp only [show mI M 3 = iI (M 3) from rfl, iI_lit, jn, iI_add]
  rw [R_hasPlayed hm hR (by omega) (by omega) (by omega) (by omega) (by omega) (by omega), R_isBarred hm hR hj hj' he he']
  simp (disch := omega) only [gd_iI, mI_at, if_eq, Option.bind_some, if_bz]
  unfold mayMarkZ
  by_cases q1 : M 3 = 1
  · rw [if_neg (show ¬ M 3 = 2 by omega), decide_eq_true q1, decide_eq_false (show ¬ M 3 = 2 by omega), if_pos q1]
    cases hpZ M e <;> cases isBarredZ M j e <;> rfl
  · rw [if_neg q1, decide_eq_false q1]
    by_cases q2 : M 3 = 2
    · rw [if_pos q2, decide_eq_true q2]
      by_cases q3 : M (654 + e) = 1
      · rw [if_pos q3, decide_eq_true q3]
        cases isBarredZ M j e <;> cases hpZ M e <;> rfl
      · rw [if_neg q3, decide_eq_false q3]
        cases isBarredZ M j e <;> cases hpZ M e <;> rfl
    · rw [if_neg q2, decide_eq_false q2]
      cases isBarredZ M j e <;> cases hpZ M e <;> rfl
def countInZ (M : Int → Int) : Int := sm (fun e => M (126 + e)) (M 6).toNat
theorem countInZ_b (hI : inI M) (hT : stI M) : 0 ≤ countInZ M ∧ countInZ M ≤ 12 := by
  obtain ⟨t0, t1, t2, t3, t4, t6, t7, t8⟩ := hT
  have := sm_b (g := fun e => M (126 + e)) (b := 1) (M 6).toNat (fun k hk => by have := (hI k (by omega) (by omega)).1; show 0 ≤ M (126 + k) ∧ M (126 + k) ≤ 1; omega)
  unfold countInZ
  omega
theorem R_countIn (hm : gX12_m S = mI M) (hT : stI M) : DX12_countIn S = some (iI (countInZ M)) := by
  obtain ⟨t0, t1, t2, t3, t4, t6, t7, t8⟩ := hT
  unfold DX12_countIn
  simp only [iI_lit]
  refine upL (fun f j => DX12_countIn_L4 S _ f (iI (sm (fun e => M (126 + e)) j)) (iI j)) _ (M 6).toNat ?_ ?_ fu (by unfold fu; omega)
  · intro f j hj
    show DX12_countIn_L4 _ _ _ _ _ = _
    rw [DX12_countIn_L4, hm]
    simp only [show mI M 6 = iI (M 6) from rfl, iI_lit, iI_add]
    rw [if_le (by omega) (by omega) (by omega) (by omega), if_neg (by omega), gd_iI (by omega) (by omega) (by omega), mI_at (by omega) (by omega), sm, show ((j + 1 : Nat) : Int) = (j : Int) + 1 by omega, iI_add]
  · intro f
    show DX12_countIn_L4 _ _ _ _ _ = _
    rw [DX12_countIn_L4, hm]
    simp only [show mI M 6 = iI (M 6) from rfl]
    rw [if_le (by omega) (by omega) (by omega) (by omega), if_pos (by omega)]
    rfl
def tiedZ (M : Int → Int) : Int := sm (fun e => M (654 + e)) (M 6).toNat
theorem tiedZ_b (hI : tiI M) (hT : stI M) : 0 ≤ tiedZ M ∧ tiedZ M ≤ 12 := by
  obtain ⟨t0, t1, t2, t3, t4, t6, t7, t8⟩ := hT
  have := sm_b (g := fun e => M (654 + e)) (b := 1) (M 6).toNat (fun k hk => by have := hI k (by omega) (by omega); show 0 ≤ M (654 + k) ∧ M (654 + k) ≤ 1; omega)
  unfold tiedZ
  omega
theorem R_tied (hm : gX12_m S = mI M) (hT : stI M) : DX12_tied S = some (iI (tiedZ M)) := by
  obtain ⟨t0, t1, t2, t3, t4, t6, t7, t8⟩ := hT
  unfold DX12_tied
  simp only [iI_lit]
  refine upL (fun f j => DX12_tied_L4 S _ f (iI (sm (fun e => M (654 + e)) j)) (iI j)) _ (M 6).toNat ?_ ?_ fu (by unfold fu; omega)
  · intro f j hj
    show DX12_tied_L4 _ _ _ _ _ = _
    rw [DX12_tied_L4, hm]
    simp only [show mI M 6 = iI (M 6) from rfl, iI_lit, iI_add]
    rw [if_le (by omega) (by omega) (by omega) (by omega), if_neg (by omega), gd_iI (by omega) (by omega) (by omega), mI_at (by omega) (by omega), sm, show ((j + 1 : Nat) : Int) = (j : Int) + 1 by omega, iI_add]
  · intro f
    show DX12_tied_L4 _ _ _ _ _ = _
    rw [DX12_tied_L4, hm]
    simp only [show mI M 6 = iI (M 6) from rfl]
    rw [if_le (by omega) (by omega) (by omega) (by omega), if_pos (by omega)]
    rfl
def infoZ (M : Int → Int) (w : Int) : Int := if w = 7 then countInZ M else if w = 8 then M 7 else if w = 9 then M 8 else if w = 10 then tiedZ M else if w = 11 then M 9 else if w = 12 then M 10 else M w
theorem R_infoOf (hm : gX12_m S = mI M) (hT : stI M) {w : Int} (hw : 0 ≤ w) (hw' : w < 13) : DX12_infoOf S (iI w) = some (iI (infoZ M w)) := by
  unfold DX12_infoOf infoZ
  rw [hm]
  simp only [show mI M 7 = iI (M 7) from rfl, show mI M 8 = iI (M 8) from rfl, show mI M 9 = iI (M 9) from rfl, show mI M 10 = iI (M 10) from rfl, iI_lit, R_countIn hm hT, R_tied hm hT, Option.bind_some]
  simp (disch := omega) only [gd_iI, mI_at, if_eq]
  repeat' split
  all_goals rfl
def ofEntrantZ (M : Int → Int) (e w : Int) : Int := if w = 0 then M (126 + e) else if w = 1 then plcZ M e else if w = 2 then (if hpZ M e = true then M (474 + e) else -1) else if w = 3 then countingZ M (if M 3 = 2 then 570 else 486) e else if w = 4 then scoreZ M e else if w = 5 then (if isCompleteZ M e = true then 1 else 0) else if w = 6 then M (654 + e) else if M (654 + e) = 1 then meanZ (emZ M 570 e (-1)) (M 0).toNat else -1
theorem R_ofEntrant (hm : gX12_m S = mI M) (hR : rg M) (hT : stI M) (hk : mkI M) (hs : slI M) {e w : Int} (he : 0 ≤ e) (he' : e < 12) (hw : 0 ≤ w) (hw' : w < 8) : DX12_ofEntrant S (iI e) (iI w) = some (iI (ofEntrantZ M e w)) := by
  obtain ⟨t0, t1, t2, t3, t4, t6, t7, t8⟩ := hT
  have r6 := hR (654 + e)
  unfold DX12_ofEntrant ofEntrantZ
  rw [hm]
  simp only [show mI M 3 = iI (M 3) from rfl, iI_lit, iI_add, iI_neg, jn]
  rw [R_placeOf hm hR (by omega) (by omega) (by omega) (by omega), R_hasPlayed hm hR (by omega) (by omega) (by omega) (by omega) (by omega) (by omega), R_counting hm hR (by omega) (by omega) (by omega) (by omega) he he', R_counting hm hR (by omega) (by omega) (by omega) (by omega) he he',
    R_scoreOf hm hR (by omega) (by omega) (by omega) (by omega) (by omega) (by omega) (by omega) (by omega) he he' (fun j h1 h2 => (hk j e h1 h2 he he').1) (hs e he he'), R_isComplete hm hR (by omega) (by omega) (by omega) (by omega) (by omega) (by omega) he he',
    R_mean hm hR (by omega) (by omega) (by omega) (by omega) he he' (by omega) (by omega) (fun j h1 h2 => (hk j e h1 h2 he he').2)]
  simp (disch := omega) only [gd_iI, mI_at, if_eq, Option.bind_some, if_bz]
  repeat' split
  all_goals first | rfl | (exfalso; omega) | skip
def scoreForZ (M : Int → Int) (row e : Int) : Int := if row = 486 then scoreZ M e else meanZ (emZ M 570 e (-1)) (M 0).toNat
theorem R_scoreFor (hm : gX12_m S = mI M) (hR : rg M) (hT : stI M) (hk : mkI M) (hs : slI M) {row e : Int} (hr : row = 486 ∨ row = 570) (he : 0 ≤ e) (he' : e < 12) : DX12_scoreFor S (iI row) (iI e) = some (iI (scoreForZ M row e)) := by
  obtain ⟨t0, t1, t2, t3, t4, t6, t7, t8⟩ := hT
  unfold DX12_scoreFor scoreForZ
  simp only [iI_lit, iI_neg, jn]
  rw [R_scoreOf hm hR (by omega) (by omega) (by omega) (by omega) (by omega) (by omega) (by omega) (by omega) he he' (fun j h1 h2 => (hk j e h1 h2 he he').1) (hs e he he'), R_mean hm hR (by omega) (by omega) (by omega) (by omega) he he' (by omega) (by omega) (fun j h1 h2 => (hk j e h1 h2 he he').2)]
  simp (disch := omega) only [if_eq, Option.bind_some]
  split <;> rfl
def isAmongZ (M : Int → Int) (row e : Int) : Bool := if row = 486 then decide (plcZ M e ≠ -1) else decide (M (654 + e) = 1)
theorem R_isAmong (hm : gX12_m S = mI M) (hR : rg M) (hT : stI M) {row e : Int} (hr : row = 486 ∨ row = 570) (he : 0 ≤ e) (he' : e < 12) : DX12_isAmong S (iI row) (iI e) = some (bI (isAmongZ M row e)) := by
  obtain ⟨t0, t1, t2, t3, t4, t6, t7, t8⟩ := hT
  have r6 := hR (654 + e)
  have h1 := fst_lo (fun k => decide (M (462 + k) = e)) (M 7).toNat
  have h2 := fst_hi (fun k => decide (M (462 + k) = e)) (M 7).toNat
  have h3 : plcZ M e = fst (fun k => decide (M (462 + k) = e)) (M 7).toNat := rfl
  unfold DX12_isAmong isAmongZ
  rw [hm]
  simp only [iI_lit, iI_neg, iI_add, jn]
  rw [R_placeOf hm hR (by omega) (by omega) (by omega) (by omega)]
  simp (disch := omega) only [gd_iI, mI_at, if_eq, Option.bind_some]
  split
  · split
    · next q => rw [decide_eq_false (fun h => h q)]; rfl
    · next q => rw [decide_eq_true q]; rfl
  · split
    · next q => rw [decide_eq_true q]; rfl
    · next q => rw [decide_eq_false q]; rfl
end RO
