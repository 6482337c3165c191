section RK
variable {S : SX12} {M V : Int → Int}
/-- the saved cells once M has been written at place c -/
def putV (V M : Int → Int) (c : Int) : Int → Int := fun k => if 714 * c ≤ k ∧ k < 714 * c + 714 then M (k - 714 * c) else V k
/-- the saved cells once the first has been dropped -/
def dropV (V : Int → Int) : Int → Int := fun k => if 0 ≤ k ∧ k < 2142 then V (k + 714) else V k
theorem R_keepL {c : Int} (hm : gX12_m S = mI M) (hv : gX12_saved S = mI V) (hc : gX12_savedCount S = iI c) (h0 : 0 ≤ c) (h3 : c < 4) (k4 : SX12 → Option SX12) :
    DX12_keep_L51 k4 fu (iI 0) S = k4 (uX12_saved S (mI (putV V M c))) := by
  have base : S = uX12_saved S (mI (fun k => if 714 * c ≤ k ∧ k < 714 * c + (0 : Nat) then M (k - 714 * c) else V k)) := by
    rw [show (fun k => if 714 * c ≤ k ∧ k < 714 * c + ((0 : Nat) : Int) then M (k - 714 * c) else V k) = V from funext fun k => if_neg (by omega), ← hv]
    rfl
  have := upL (fun f j => DX12_keep_L51 k4 f (iI j) (uX12_saved S (mI (fun k => if 714 * c ≤ k ∧ k < 714 * c + (j : Nat) then M (k - 714 * c) else V k)))) (k4 (uX12_saved S (mI (putV V M c)))) 714 ?_ ?_ fu (by unfold fu; omega)
  · rw [← base] at this
    exact this
  · intro f j hj
    show DX12_keep_L51 _ _ _ _ = _
    rw [DX12_keep_L51]
    simp only [lt_eq, iI_lit]
    rw [if_le (by omega) (by omega) (by omega) (by omega), if_neg (by omega)]
    rw [show gX12_savedCount (uX12_saved S (mI (fun k => if 714 * c ≤ k ∧ k < 714 * c + (j : Nat) then M (k - 714 * c) else V k))) = iI c from hc, show gX12_m (uX12_saved S (mI (fun k => if 714 * c ≤ k ∧ k < 714 * c + (j : Nat) then M (k - 714 * c) else V k))) = mI M from hm, show gX12_saved (uX12_saved S (mI (fun k => if 714 * c ≤ k ∧ k < 714 * c + (j : Nat) then M (k - 714 * c) else V k))) = mI (fun k => if 714 * c ≤ k ∧ k < 714 * c + (j : Nat) then M (k - 714 * c) else V k) from rfl]
    simp only [iI_mul, iI_add]
    rw [gd_iI (by omega) (by omega) (by omega), gd_iI (by omega) (by omega) (by omega), mI_at (by omega) (by omega), mI_upd (by omega) (by omega), show ((j + 1 : Nat) : Int) = (j : Int) + 1 by omega]
    have e : updI (fun k => if 714 * c ≤ k ∧ k < 714 * c + (j : Int) then M (k - 714 * c) else V k) (714 * c + j) (M j) = fun k => if 714 * c ≤ k ∧ k < 714 * c + ((j : Int) + 1) then M (k - 714 * c) else V k := by
      funext k
      unfold updI
      by_cases q : k = 714 * c + j
      · rw [if_pos q, if_pos (by omega), show k - 714 * c = j by omega]
      · rw [if_neg q]
        show (if 714 * c ≤ k ∧ k < 714 * c + (j : Int) then M (k - 714 * c) else V k) = _
        by_cases q2 : 714 * c ≤ k ∧ k < 714 * c + (j : Int)
        · rw [if_pos q2, if_pos (by omega)]
        · rw [if_neg q2, if_neg (by omega)]
    rw [e]
    rfl
  · intro f
    show DX12_keep_L51 _ _ _ _ = _
    rw [DX12_keep_L51]
    simp only [iI_lit]
    rw [if_le (by omega) (by omega) (by omega) (by omega), if_pos (by omega)]
    rfl
theorem R_dropL (hv : gX12_saved S = mI V) (k16 : SX12 → Option SX12) : DX12_keep_L10 k16 fu (iI 0) S = k16 (uX12_saved S (mI (dropV V))) := by
  have base : S = uX12_saved S (mI (fun k => if 0 ≤ k ∧ k < ((0 : Nat) : Int) then V (k + 714) else V k)) := by
    rw [show (fun k => if 0 ≤ k ∧ k < ((0 : Nat) : Int) then V (k + 714) else V k) = V from funext fun k => if_neg (by omega), ← hv]
    rfl
  have := upL (fun f j => DX12_keep_L10 k16 f (iI j) (uX12_saved S (mI (fun k => if 0 ≤ k ∧ k < (j : Int) then V (k + 714) else V k)))) (k16 (uX12_saved S (mI (dropV V)))) 2142 ?_ ?_ fu (by unfold fu; omega)
  · rw [← base] at this
    exact this
  · intro f j hj
    show DX12_keep_L10 _ _ _ _ = _
    rw [DX12_keep_L10]
    simp only [lt_eq, iI_lit]
    rw [if_le (by omega) (by omega) (by omega) (by omega), if_neg (by omega)]
    rw [show gX12_saved (uX12_saved S (mI (fun k => if 0 ≤ k ∧ k < (j : Int) then V (k + 714) else V k))) = mI (fun k => if 0 ≤ k ∧ k < (j : Int) then V (k + 714) else V k) from rfl]
    simp only [iI_add]
    rw [gd_iI (by omega) (by omega) (by omega), gd_iI (by omega) (by omega) (by omega), mI_at (by omega) (by omega), mI_upd (by omega) (by omega), show ((j + 1 : Nat) : Int) = (j : Int) + 1 by omega]
    have e : updI (fun k => if 0 ≤ k ∧ k < (j : Int) then V (k + 714) else V k) j (if 0 ≤ (j : Int) + 714 ∧ (j : Int) + 714 < j then V ((j : Int) + 714 + 714) else V ((j : Int) + 714)) = fun k => if 0 ≤ k ∧ k < (j : Int) + 1 then V (k + 714) else V k := by
      funext k
      unfold updI
      by_cases q : k = j
      · rw [if_pos q, if_neg (by omega), if_pos (by omega), q]
      · rw [if_neg q]
        show (if 0 ≤ k ∧ k < (j : Int) then V (k + 714) else V k) = _
        by_cases q2 : 0 ≤ k ∧ k < (j : Int)
        · rw [if_pos q2, if_pos (by omega)]
        · rw [if_neg q2, if_neg (by omega)]
    rw [e]
    rfl
  · intro f
    show DX12_keep_L10 _ _ _ _ = _
    rw [DX12_keep_L10]
    simp only [iI_lit]
    rw [if_le (by omega) (by omega) (by omega) (by omega), if_pos (by omega)]
    rfl
theorem sv1 (S : SX12) (v : Nat → Int32) (w : Int32) : gX12_saved (uX12_savedCount (uX12_saved S v) w) = v := rfl
theorem sv2 (S : SX12) (v : Nat → Int32) (w : Int32) : gX12_m (uX12_savedCount (uX12_saved S v) w) = gX12_m S := rfl
theorem sv3 (S : SX12) (w : Int32) : gX12_savedCount (uX12_savedCount S w) = w := rfl
theorem sv4 (S : SX12) (v : Nat → Int32) : gX12_savedCount (uX12_saved S v) = gX12_savedCount S := rfl
theorem sv5 (S : SX12) (v w : Nat → Int32) (a b : Int32) : uX12_savedCount (uX12_saved (uX12_savedCount (uX12_saved S v) a) w) b = uX12_savedCount (uX12_saved S w) b := rfl
/-- the saved cells and their number behind keep -/
def keepV (V M : Int → Int) (c : Int) : Int → Int := if c = 4 then putV (dropV V) M 3 else putV V M c
def keepC (c : Int) : Int := if c = 4 then 4 else c + 1
theorem R_keep {c : Int} (hm : gX12_m S = mI M) (hv : gX12_saved S = mI V) (hc : gX12_savedCount S = iI c) (h0 : 0 ≤ c) (h4 : c ≤ 4) :
    DX12_keep S = some (uX12_savedCount (uX12_saved S (mI (keepV V M c))) (iI (keepC c))) := by
  unfold DX12_keep keepV keepC
  simp only [jn_eq, lt_eq, iI_lit]
  rw [hc, if_eq (by omega) (by omega) (by omega) (by omega)]
  by_cases q : c = 4
  · rw [if_pos q, if_pos q, if_pos q, R_dropL hv]
    have hc9 : gX12_savedCount (uX12_savedCount (uX12_saved S (mI (dropV V))) (gX12_savedCount (uX12_saved S (mI (dropV V))) - iI 1)) = iI 3 := by
      rw [sv3, sv4, hc, q, iI_sub]
      exact congrArg iI (by decide)
    have hm9 : gX12_m (uX12_savedCount (uX12_saved S (mI (dropV V))) (gX12_savedCount (uX12_saved S (mI (dropV V))) - iI 1)) = mI M := by
      rw [sv2, hm]
    rw [R_keepL hm9 (sv1 S _ _) hc9 (by omega) (by omega)]
    rw [sv4, sv4, sv3, hc, q, iI_sub, iI_add, sv5]
    exact congrArg (fun z => some (uX12_savedCount (uX12_saved S (mI (putV (dropV V) M 3))) (iI z))) (by decide)
  · rw [if_neg q, if_neg q, if_neg q, R_keepL hm hv hc h0 (by omega)]
    rw [sv4, hc, iI_add]
end RK
