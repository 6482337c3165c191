section W2
variable {S : SX12} {M : Int → Int} {C : SX0}
theorem C_reqRound {r : Int} (hr : -2147483648 ≤ r) (hr' : r < 2147483648) : DX11_requireRound (iI r) = some (if 0 ≤ r ∧ r ≤ 3 then Sum.inr () else Sum.inl 1) := by
  unfold DX11_requireRound
  simp only [iI_lit]
  rw [C_between hr hr' (by omega) (by omega) (by omega) (by omega)]
  simp only [Option.bind_some, C_reqI]
  by_cases q : 0 ≤ r ∧ r ≤ 3
  · rw [decide_eq_true q, if_pos (show true = true from rfl), if_pos q, tx_r]
  · rw [decide_eq_false q, if_neg (show ¬ false = true by decide), if_neg q, tx_l]
theorem C_reqEntrant (h : Cp C M) (hI : MI M) {e : Int} (he : -2147483648 ≤ e) (he' : e < 2147483648) : DX11_requireEntrant C (iI e) = some (if 0 ≤ e ∧ e < M 6 then Sum.inr () else Sum.inl 1) := by
  have hE := h.2.2.2.2.2.1
  have h6 := hI.2.1.2.2.2.2.2.1
  unfold DX11_requireEntrant
  simp only [show gX11n_now C = C from rfl]
  rw [C_has2 hE h6.1 h6.2 he he']
  simp only [Option.bind_some, C_reqI]
  by_cases q : 0 ≤ e ∧ e < M 6
  · rw [decide_eq_true q, if_pos (show true = true from rfl), if_pos q, tx_r]
  · rw [decide_eq_false q, if_neg (show ¬ false = true by decide), if_neg q, tx_l]
theorem C_reqER (h : Cp C M) (hI : MI M) {e r : Int} (he : -2147483648 ≤ e) (he' : e < 2147483648) (hr : -2147483648 ≤ r) (hr' : r < 2147483648) : DX11_requireEntrantAndRound C (iI e) (iI r) = some (if (0 ≤ e ∧ e < M 6) ∧ (0 ≤ r ∧ r ≤ 3) then Sum.inr () else Sum.inl 1) := by
  unfold DX11_requireEntrantAndRound
  rw [C_reqEntrant h hI he he', C_reqRound hr hr']
  by_cases q : 0 ≤ e ∧ e < M 6
  · rw [if_pos q, tx_r]
    by_cases q2 : 0 ≤ r ∧ r ≤ 3
    · rw [if_pos q2, tx_r, if_pos ⟨q, q2⟩]
    · rw [if_neg q2, tx_l, if_neg (fun h => q2 h.2)]
  · rw [if_neg q, tx_l, if_neg (fun h => q h.1)]
theorem C_history (h : Cp C M) (hI : MI M) {e r : Int} (he : -2147483648 ≤ e) (he' : e < 2147483648) (hr : -2147483648 ≤ r) (hr' : r < 2147483648) : DX11_history C (iI e) (iI r) = some (if (0 ≤ e ∧ e < M 6) ∧ (0 ≤ r ∧ r ≤ 3) then Sum.inr (iI (M (666 + 4 * e + r))) else Sum.inl 1) := by
  have h6 := hI.2.1.2.2.2.2.2.1
  have hC := h.2.2.2.2.2.2.2.2.2.2.2.2
  unfold DX11_history
  rw [C_reqER h hI he he' hr hr']
  by_cases q : (0 ≤ e ∧ e < M 6) ∧ (0 ≤ r ∧ r ≤ 3)
  · rw [if_pos q, if_pos q, tx_r, gd_iI (by omega) (by omega) (by omega), gd_iI (by omega) (by omega) (by omega), iI_nat (by omega) (by omega), iI_nat (by omega) (by omega), show gX11n_now C = C from rfl, hC r e (by omega) (by omega) (by omega) (by omega)]
  · rw [if_neg q, if_neg q, tx_l]
theorem C_rule (h : Cp C M) {r i : Int} (hr : -2147483648 ≤ r) (hr' : r < 2147483648) (hi : -2147483648 ≤ i) (hi' : i < 2147483648) : DX11_rule C (iI r) (iI i) = some (if 0 ≤ r ∧ r ≤ 3 then (if 0 ≤ i ∧ i ≤ 5 then Sum.inr (iI (M (ruleZ r i))) else Sum.inl 2) else Sum.inl 1) := by
  have hRu := h.2.2.2.2.2.2.1
  unfold DX11_rule
  simp only [iI_lit]
  rw [C_reqRound hr hr']
  by_cases q : 0 ≤ r ∧ r ≤ 3
  · rw [if_pos q, if_pos q, tx_r, C_between hi hi' (by omega) (by omega) (by omega) (by omega)]
    simp only [Option.bind_some, C_reqA]
    by_cases q2 : 0 ≤ i ∧ i ≤ 5
    · rw [decide_eq_true q2, if_pos (show true = true from rfl), if_pos q2, tx_r, gd_iI (by omega) (by omega) (by omega), gd_iI (by omega) (by omega) (by omega), iI_nat (by omega) (by omega), iI_nat (by omega) (by omega), show gX11n_now C = C from rfl, hRu r i (by omega) (by omega) (by omega) (by omega)]
    · rw [decide_eq_false q2, if_neg (show ¬ false = true by decide), if_neg q2, tx_l]
  · rw [if_neg q, if_neg q, tx_l]
theorem C_stage (h : Cp C M) (hI : MI M) {k : Int} (hk : -2147483648 ≤ k) (hk' : k < 2147483648) : DX11_stage C (iI k) = some (iI (if 0 ≤ k ∧ k < M 7 then M (462 + k) else -1)) := by
  unfold DX11_stage
  rw [show gX11n_now C = C from rfl, C_playerAt h.2.2.2.2.2.2.2.2.2.1 hI.2.1 hk hk']
  rfl
end W2
