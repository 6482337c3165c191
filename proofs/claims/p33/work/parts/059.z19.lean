section RU
variable {S : SX12} {M V : Int → Int}
/-- the cells once the c-th saved ones have come back -/
def backM (V M : Int → Int) (c : Int) : Int → Int := fun k => if 0 ≤ k ∧ k < 714 then V (714 * c + k) else M k
theorem R_backL {c : Int} (hm : gX12_m S = mI M) (hv : gX12_saved S = mI V) (hc : gX12_savedCount S = iI c) (h0 : 0 ≤ c) (h3 : c < 4) (k8 : SX12 → Option (Int32 × SX12)) :
    DX12_undo_L37 k8 fu (iI 0) S = k8 (uX12_m S (mI (backM V M c))) := by
  have base : S = uX12_m S (mI (fun k => if 0 ≤ k ∧ k < ((0 : Nat) : Int) then V (714 * c + k) else M k)) := by
    rw [show (fun k => if 0 ≤ k ∧ k < ((0 : Nat) : Int) then V (714 * c + k) else M k) = M from funext fun k => if_neg (by omega), ← hm]
    rfl
  have := upL (fun f j => DX12_undo_L37 k8 f (iI j) (uX12_m S (mI (fun k => if 0 ≤ k ∧ k < (j : Int) then V (714 * c + k) else M k)))) (k8 (uX12_m S (mI (backM V M c)))) 714 ?_ ?_ fu (by unfold fu; omega)
  · rw [← base] at this
    exact this
  · intro f j hj
    show DX12_undo_L37 _ _ _ _ = _
    rw [DX12_undo_L37]
    simp only [lt_eq, iI_lit]
    rw [if_le (by omega) (by omega) (by omega) (by omega), if_neg (by omega)]
    rw [show gX12_savedCount (uX12_m S (mI (fun k => if 0 ≤ k ∧ k < (j : Int) then V (714 * c + k) else M k))) = iI c from hc, show gX12_saved (uX12_m S (mI (fun k => if 0 ≤ k ∧ k < (j : Int) then V (714 * c + k) else M k))) = mI V from hv, show gX12_m (uX12_m S (mI (fun k => if 0 ≤ k ∧ k < (j : Int) then V (714 * c + k) else M k))) = mI (fun k => if 0 ≤ k ∧ k < (j : Int) then V (714 * c + k) else M k) from rfl]
    simp only [iI_mul, iI_add]
    rw [gd_iI (by omega) (by omega) (by omega), gd_iI (by omega) (by omega) (by omega), mI_at (by omega) (by omega), mI_upd (by omega) (by omega), show ((j + 1 : Nat) : Int) = (j : Int) + 1 by omega]
    have e : updI (fun k => if 0 ≤ k ∧ k < (j : Int) then V (714 * c + k) else M k) j (V (714 * c + j)) = fun k => if 0 ≤ k ∧ k < (j : Int) + 1 then V (714 * c + k) else M k := by
      funext k
      unfold updI
      by_cases q : k = j
      · rw [if_pos q, if_pos (by omega), q]
      · rw [if_neg q]
        show (if 0 ≤ k ∧ k < (j : Int) then V (714 * c + k) else M k) = _
        by_cases q2 : 0 ≤ k ∧ k < (j : Int)
        · rw [if_pos q2, if_pos (by omega)]
        · rw [if_neg q2, if_neg (by omega)]
    rw [e]
    rfl
  · intro f
    show DX12_undo_L37 _ _ _ _ = _
    rw [DX12_undo_L37]
    simp only [iI_lit]
    rw [if_le (by omega) (by omega) (by omega) (by omega), if_pos (by omega)]
    rfl
end RU
