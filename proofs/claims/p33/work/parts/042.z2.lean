section RQ
variable {S : SX12} {M : Int → Int}
theorem R_in {a b c : Int} (h1 : -2147483648 ≤ a) (h2 : a < 2147483648) (h3 : -2147483648 ≤ b) (h4 : b < 2147483648) (h5 : -2147483648 ≤ c) (h6 : c < 2147483648) :
    DX12_in (iI a) (iI b) (iI c) = some (bI (decide (b ≤ a ∧ a ≤ c))) := by
  unfold DX12_in jn
  simp only [iI_lit]
  rw [if_lt h1 h2 h3 h4, if_lt h5 h6 h1 h2]
  by_cases q1 : a < b
  · rw [if_pos q1, decide_eq_false (by omega)]; rfl
  · rw [if_neg q1]
    by_cases q2 : c < a
    · rw [if_pos q2, decide_eq_false (by omega)]; rfl
    · rw [if_neg q2, decide_eq_true (by omega)]; rfl
theorem R_seat (j e : Int) : DX12_seat (iI j) (iI e) = some (iI (12 * j + e)) := by
  unfold DX12_seat
  simp only [iI_lit, iI_mul, iI_add]
def isBarredZ (M : Int → Int) (j e : Int) : Bool := decide (M (378 + (12 * j + e)) = 1)
theorem R_isBarred (hm : gX12_m S = mI M) (hR : rg M) {j e : Int} (hj : 0 ≤ j) (hj' : j < 7) (he : 0 ≤ e) (he' : e < 12) : DX12_isBarred S (iI j) (iI e) = some (bI (isBarredZ M j e)) := by
  unfold DX12_isBarred jn
  have := hR (378 + (12 * j + e))
  simp only [R_seat, Option.bind_some, iI_lit, iI_add]
  rw [gd_iI (by omega) (by omega) (by omega), hm, mI_at (by omega) (by omega), if_eq this.1 this.2 (by omega) (by omega)]
  unfold isBarredZ
  by_cases q : M (378 + (12 * j + e)) = 1
  · rw [if_pos q, decide_eq_true q]; rfl
  · rw [if_neg q, decide_eq_false q]; rfl
def countsZ (M : Int → Int) (row j e : Int) : Bool := decide (0 ≤ M (row + (12 * j + e))) && !isBarredZ M j e
theorem R_counts (hm : gX12_m S = mI M) (hR : rg M) {row j e : Int} (hr : 0 ≤ row) (hr' : row ≤ 570) (hj : 0 ≤ j) (hj' : j < 7) (he : 0 ≤ e) (he' : e < 12) : DX12_counts S (iI row) (iI j) (iI e) = some (bI (countsZ M row j e)) := by
  unfold DX12_counts jn
  have := hR (row + (12 * j + e))
  simp only [R_seat, Option.bind_some, iI_lit, iI_add]
  rw [gd_iI (by omega) (by omega) (by omega), hm, mI_at (by omega) (by omega), if_lt this.1 this.2 (by omega) (by omega), R_isBarred hm hR hj hj' he he']
  unfold countsZ
  simp only [Option.bind_some, if_bz]
  by_cases q : M (row + (12 * j + e)) < 0
  · rw [if_pos q, decide_eq_false (by omega)]; rfl
  · rw [if_neg q, decide_eq_true (by omega)]
    cases isBarredZ M j e <;> rfl
/-- how many of the first n -/
def cn (p : Int → Bool) : Nat → Int
  | 0 => 0
  | n + 1 => cn p n + (if p n = true then 1 else 0)
theorem cn_lo (p : Int → Bool) : ∀ n, 0 ≤ cn p n := by
  intro n
  induction n with
  | zero => exact Int.le_refl 0
  | succ n ih => unfold cn; split <;> omega
theorem cn_hi (p : Int → Bool) : ∀ n : Nat, cn p n ≤ n := by
  intro n
  induction n with
  | zero => exact Int.le_refl 0
  | succ n ih => unfold cn; split <;> omega
theorem cn_congr {p q : Int → Bool} : ∀ n : Nat, (∀ k : Nat, k < n → p k = q k) → cn p n = cn q n := by
  intro n
  induction n with
  | zero => intro _; rfl
  | succ n ih => intro h; unfold cn; rw [ih (fun k hk => h k (by omega)), h n (by omega)]
def countingZ (M : Int → Int) (row e : Int) : Int := cn (fun j => countsZ M row j e) (M 0).toNat
theorem R_counting (hm : gX12_m S = mI M) (hR : rg M) (h0 : 0 ≤ M 0) (h0' : M 0 ≤ 7) {row e : Int} (hr : 0 ≤ row) (hr' : row ≤ 570) (he : 0 ≤ e) (he' : e < 12) : DX12_counting S (iI row) (iI e) = some (iI (countingZ M row e)) := by
  unfold DX12_counting
  simp only [iI_lit]
  refine upL (fun f j => DX12_counting_L5 S (iI row) (iI e) (fun v => some v) f (iI (cn (fun j => countsZ M row j e) j)) (iI j)) _ (M 0).toNat ?_ ?_ fu (by unfold fu; omega)
  · intro f j hj
    show DX12_counting_L5 _ _ _ _ _ _ _ = _
    rw [DX12_counting_L5, hm]
    simp only [show mI M 0 = iI (M 0) from rfl, iI_lit, iI_add]
    rw [if_le (by omega) (by omega) (by omega) (by omega), if_neg (by omega), R_counts hm hR hr hr' (by omega) (by omega) he he']
    simp only [Option.bind_some, if_bz, jn, iI_add]
    rw [show ((j + 1 : Nat) : Int) = (j : Int) + 1 by omega, cn]
    cases countsZ M row j e <;> simp
  · intro f
    show DX12_counting_L5 _ _ _ _ _ _ _ = _
    rw [DX12_counting_L5, hm]
    simp only [show mI M 0 = iI (M 0) from rfl]
    rw [if_le (by omega) (by omega) (by omega) (by omega), if_pos (by omega)]
    rfl
end RQ
