section W3
variable {S : SX12} {M : Int → Int}
theorem R_isEntrant (hm : gX12_m S = mI M) (hT : stI M) {e : Int} (he : -2147483648 ≤ e) (he' : e < 2147483648) : DX12_isEntrant S (iI e) = some (bI (decide (0 ≤ e ∧ e < M 6))) := by
  have h6 := hT.2.2.2.2.2.1
  unfold DX12_isEntrant
  rw [show gX12_m S 6 = iI (M 6) by rw [hm]; rfl]
  simp only [iI_lit, iI_sub]
  rw [R_in he he' (by omega) (by omega) (by omega) (by omega)]
  simp only [Option.bind_some, gd_bI]
  rw [show decide (0 ≤ e ∧ e ≤ M 6 - 1) = decide (0 ≤ e ∧ e < M 6) from decide_eq_decide.mpr (by omega)]
theorem R_isJuror (hm : gX12_m S = mI M) (hT : stI M) {j : Int} (he : -2147483648 ≤ j) (he' : j < 2147483648) : DX12_isJuror S (iI j) = some (bI (decide (0 ≤ j ∧ j < M 0))) := by
  have h0 := hT.1
  unfold DX12_isJuror
  rw [show gX12_m S 0 = iI (M 0) by rw [hm]; rfl]
  simp only [iI_lit, iI_sub]
  rw [R_in he he' (by omega) (by omega) (by omega) (by omega)]
  simp only [Option.bind_some, gd_bI]
  rw [show decide (0 ≤ j ∧ j ≤ M 0 - 1) = decide (0 ≤ j ∧ j < M 0) from decide_eq_decide.mpr (by omega)]
theorem R_isRound {r : Int} (he : -2147483648 ≤ r) (he' : r < 2147483648) : DX12_isRound (iI r) = some (bI (decide (0 ≤ r ∧ r ≤ 3))) := by
  unfold DX12_isRound
  simp only [iI_lit]
  rw [R_in he he' (by omega) (by omega) (by omega) (by omega)]
  simp only [Option.bind_some, gd_bI]
theorem R_history (hm : gX12_m S = mI M) (hI : MI M) {e r : Int} (he : -2147483648 ≤ e) (he' : e < 2147483648) (hr : -2147483648 ≤ r) (hr' : r < 2147483648) : DX12_history S (iI e) (iI r) = some (if (0 ≤ e ∧ e < M 6) ∧ (0 ≤ r ∧ r ≤ 3) then (iI (M (666 + 4 * e + r)), uX12_code S (iI 0)) else (iI 0, uX12_code S (iI 1))) := by
  have h6 := hI.2.1.2.2.2.2.2.1
  unfold DX12_history
  simp only [jn_eq, lt_eq, iI_lit]
  rw [R_isEntrant hm hI.2.1 he he', R_isRound hr hr']
  simp only [Option.bind_some, if_bz]
  have g : ∀ v : Int32, gX12_code (uX12_code S v) = v := fun _ => rfl
  have g2 : ∀ v : Int32, gX12_m (uX12_code S v) = mI M := fun _ => hm
  simp only [g, g2]
  by_cases q : 0 ≤ e ∧ e < M 6
  · rw [decide_eq_true q, if_pos (show true = true from rfl)]
    by_cases q2 : 0 ≤ r ∧ r ≤ 3
    · rw [decide_eq_true q2, if_pos (show true = true from rfl), if_pos (show (0 ≤ e ∧ e < M 6) ∧ (0 ≤ r ∧ r ≤ 3) from ⟨q, q2⟩), if_pos trivial]
      simp only [iI_mul, iI_add]
      rw [gd_iI (by omega) (by omega) (by omega), mI_at (by omega) (by omega)]
    · rw [decide_eq_false q2, if_neg (show ¬ false = true by decide), if_neg (show ¬ ((0 ≤ e ∧ e < M 6) ∧ (0 ≤ r ∧ r ≤ 3)) from fun h => q2 h.2)]
      rfl
  · rw [decide_eq_false q, if_neg (show ¬ false = true by decide), if_neg (show ¬ ((0 ≤ e ∧ e < M 6) ∧ (0 ≤ r ∧ r ≤ 3)) from fun h => q h.1)]
    rfl
theorem R_stage (hm : gX12_m S = mI M) (hI : MI M) {k : Int} (hk : -2147483648 ≤ k) (hk' : k < 2147483648) : DX12_stage S (iI k) = some (iI (if 0 ≤ k ∧ k < M 7 then M (462 + k) else -1), uX12_code S (iI 0)) := by
  have h6 := hI.2.1.2.2.2.2.2.1
  have h7 := hI.2.1.2.2.2.2.2.2.1
  unfold DX12_stage
  simp only [jn_eq, lt_eq, iI_lit, iI_neg]
  have g2 : ∀ v : Int32, gX12_m (uX12_code S v) = mI M := fun _ => hm
  simp only [g2, show mI M 7 = iI (M 7) from rfl, iI_sub]
  rw [R_in hk hk' (by omega) (by omega) (by omega) (by omega)]
  simp only [Option.bind_some, if_bz, iI_add]
  by_cases q : 0 ≤ k ∧ k < M 7
  · rw [decide_eq_true (show 0 ≤ k ∧ k ≤ M 7 - 1 by omega), if_pos (show true = true from rfl), if_pos q, gd_iI (by omega) (by omega) (by omega), mI_at (by omega) (by omega)]
  · rw [decide_eq_false (show ¬ (0 ≤ k ∧ k ≤ M 7 - 1) by omega), if_neg (show ¬ false = true by decide), if_neg q]
end W3
