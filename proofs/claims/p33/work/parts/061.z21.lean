section W1
variable {S : SX12} {M : Int → Int} {C : SX0}
/-- what a call that may throw answers: the exception's number in the class, or the value -/
theorem C_reqA (b : Bool) : DX11_requireArgument (bI b) = some (if b = true then Sum.inr () else Sum.inl 2) := by cases b <;> rfl
theorem C_reqS (b : Bool) : DX11_requireState (bI b) = some (if b = true then Sum.inr () else Sum.inl 3) := by cases b <;> rfl
theorem C_reqI (b : Bool) : DX11_requireIndex (bI b) = some (if b = true then Sum.inr () else Sum.inl 1) := by cases b <;> rfl
theorem tx_r {α β : Type} (v : α) (k : α → Option (Nat ⊕ β)) : tx (some (Sum.inr v)) k = k v := id rfl
theorem tx_l {α β : Type} (n : Nat) (k : α → Option (Nat ⊕ β)) : tx (some (Sum.inl n)) k = some (Sum.inl n) := id rfl
theorem C_work (h : Cp C M) (hI : MI M) {w i : Int} (hw : -2147483648 ≤ w) (hw' : w < 2147483648) (hi : -2147483648 ≤ i) (hi' : i < 2147483648) : DX11_work C (iI w) (iI i) = some (if 0 ≤ w ∧ w < M 5 then (if 0 ≤ i ∧ i ≤ 2 then Sum.inr (iI (M (12 + 3 * w + i))) else Sum.inl 2) else Sum.inl 1) := by
  have hW := h.2.2.2.2.1
  have h5 := hI.2.2.1.1
  unfold DX11_work
  simp only [show gX11n_now C = C from rfl, iI_lit]
  rw [C_has10 hW h5.1 h5.2 hw hw']
  simp only [Option.bind_some, C_reqI]
  by_cases q : 0 ≤ w ∧ w < M 5
  · rw [decide_eq_true q, if_pos (show true = true from rfl), if_pos q, tx_r, C_between hi hi' (by omega) (by omega) (by omega) (by omega)]
    simp only [Option.bind_some, C_reqA]
    by_cases q2 : 0 ≤ i ∧ i ≤ 2
    · rw [decide_eq_true q2, if_pos (show true = true from rfl), if_pos q2, tx_r, C_fact hW h5.1 h5.2 q.1 q.2 q2.1 (by omega)]
      rfl
    · rw [decide_eq_false q2, if_neg (show ¬ false = true by decide), if_neg q2, tx_l]
  · rw [decide_eq_false q, if_neg (show ¬ false = true by decide), if_neg q, tx_l]
theorem R_work (hm : gX12_m S = mI M) (hI : MI M) {w i : Int} (hw : -2147483648 ≤ w) (hw' : w < 2147483648) (hi : -2147483648 ≤ i) (hi' : i < 2147483648) : DX12_work S (iI w) (iI i) = some (if 0 ≤ w ∧ w < M 5 then (if 0 ≤ i ∧ i ≤ 2 then (iI (M (12 + 3 * w + i)), uX12_code S (iI 0)) else (iI 0, uX12_code S (iI 2))) else (iI 0, uX12_code S (iI 1))) := by
  have h5 := hI.2.2.1.1
  unfold DX12_work
  simp only [jn_eq, lt_eq, iI_lit]
  rw [show gX12_m S 5 = iI (M 5) by rw [hm]; rfl, iI_sub, R_in hw hw' (by omega) (by omega) (by omega) (by omega), R_in hi hi' (by omega) (by omega) (by omega) (by omega)]
  simp only [Option.bind_some, if_bz]
  have g : ∀ v : Int32, gX12_code (uX12_code S v) = v := fun _ => rfl
  have g2 : ∀ v : Int32, gX12_m (uX12_code S v) = mI M := fun _ => hm
  simp only [g, g2]
  by_cases q : 0 ≤ w ∧ w < M 5
  · rw [decide_eq_true (show 0 ≤ w ∧ w ≤ M 5 - 1 by omega), if_pos (show true = true from rfl), if_pos q]
    by_cases q2 : 0 ≤ i ∧ i ≤ 2
    · rw [decide_eq_true q2, if_pos (show true = true from rfl), if_pos q2, if_pos trivial]
      simp only [iI_mul, iI_add]
      rw [gd_iI (by omega) (by omega) (by omega), mI_at (by omega) (by omega)]
    · rw [decide_eq_false q2, if_neg (show ¬ false = true by decide), if_neg q2]
      rfl
  · rw [decide_eq_false (show ¬ (0 ≤ w ∧ w ≤ M 5 - 1) by omega), if_neg (show ¬ false = true by decide), if_neg q]
    rfl
end W1
