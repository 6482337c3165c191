/-- the marks that count, one after another: how many, their sum, the lowest, the highest -/
def mfold (em : Int → Int) : Nat → Int × Int × Int × Int
  | 0 => (0, 0, 100, 0)
  | n + 1 => if em n < 0 then mfold em n else ((mfold em n).1 + 1, (mfold em n).2.1 + em n, (if (mfold em n).2.2.1 ≤ em n then (mfold em n).2.2.1 else em n), (if em n ≤ (mfold em n).2.2.2 then (mfold em n).2.2.2 else em n))
def meanZ (em : Int → Int) (n : Nat) : Int :=
  if (mfold em n).1 = 0 then -1 else if 4 ≤ (mfold em n).1 then 1000 * ((mfold em n).2.1 - (mfold em n).2.2.1 - (mfold em n).2.2.2) / ((mfold em n).1 - 2) else 1000 * (mfold em n).2.1 / (mfold em n).1
theorem mfold_ok (em : Int → Int) : ∀ n : Nat, (∀ k : Nat, k < n → em k ≤ 100) →
    0 ≤ (mfold em n).1 ∧ (mfold em n).1 ≤ n ∧ 0 ≤ (mfold em n).2.1 ∧ (mfold em n).2.1 ≤ 100 * n ∧ 0 ≤ (mfold em n).2.2.1 ∧ (mfold em n).2.2.1 ≤ 100 ∧ 0 ≤ (mfold em n).2.2.2 ∧ (mfold em n).2.2.2 ≤ 100 ∧
    ((mfold em n).1 = 0 → (mfold em n).2 = (0, 100, 0)) ∧ ((mfold em n).1 = 1 → (mfold em n).2.2.1 = (mfold em n).2.1 ∧ (mfold em n).2.2.2 = (mfold em n).2.1) ∧ (1 ≤ (mfold em n).1 → (mfold em n).2.2.1 ≤ (mfold em n).2.1 ∧ (mfold em n).2.2.2 ≤ (mfold em n).2.1) ∧ (2 ≤ (mfold em n).1 → (mfold em n).2.2.1 + (mfold em n).2.2.2 ≤ (mfold em n).2.1) := by
  intro n
  induction n with
  | zero => intro _; simp [mfold]
  | succ n ih =>
    intro h
    have h0 := h n (by omega)
    obtain ⟨a1, a2, a3, a4, a5, a6, a7, a8, a9, a10, a11, a12⟩ := ih (fun k hk => h k (by omega))
    unfold mfold
    by_cases q : em n < 0
    · rw [if_pos q]
      exact ⟨a1, by omega, a3, by omega, a5, a6, a7, a8, a9, a10, a11, a12⟩
    · rw [if_neg q]
      generalize mfold em n = Q at *
      obtain ⟨c, s, lo, hi⟩ := Q
      simp only [Prod.mk.injEq] at *
      refine ⟨by omega, by omega, by omega, by omega, by split <;> omega, by split <;> omega, by split <;> omega, by split <;> omega, by omega, ?_, ?_, ?_⟩
      · intro hc
        obtain ⟨b1, b2, b3⟩ := a9 (by omega)
        constructor <;> split <;> omega
      · intro hc
        by_cases hz : c = 0
        · obtain ⟨b1, b2, b3⟩ := a9 hz
          constructor <;> split <;> omega
        · obtain ⟨b1, b2⟩ := a11 (by omega)
          constructor <;> split <;> omega
      · intro hc
        by_cases hz : c = 1
        · obtain ⟨b1, b2⟩ := a10 hz
          split <;> split <;> omega
        · have b1 := a12 (by omega)
          obtain ⟨b2, b3⟩ := a11 (by omega)
          split <;> split <;> omega
theorem meanZ_lo {em : Int → Int} {n : Nat} (h : ∀ k : Nat, k < n → em k ≤ 100) : -1 ≤ meanZ em n := by
  obtain ⟨a1, a2, a3, a4, a5, a6, a7, a8, a9, a10, a11, a12⟩ := mfold_ok em n h
  unfold meanZ
  split
  · omega
  · split
    · have := a12 (by omega)
      have := Int.ediv_nonneg (a := 1000 * ((mfold em n).2.1 - (mfold em n).2.2.1 - (mfold em n).2.2.2)) (b := (mfold em n).1 - 2) (by omega) (by omega)
      omega
    · have := Int.ediv_nonneg (a := 1000 * (mfold em n).2.1) (b := (mfold em n).1) (by omega) (by omega)
      omega
theorem meanZ_nn {em : Int → Int} {n : Nat} (h : ∀ k : Nat, k < n → em k ≤ 100) : meanZ em n ≠ -1 → 0 ≤ meanZ em n := by
  have := meanZ_lo h
  omega
theorem meanZ_hi {em : Int → Int} {n : Nat} (h : ∀ k : Nat, k < n → em k ≤ 100) : meanZ em n ≤ 100000 * n := by
  obtain ⟨a1, a2, a3, a4, a5, a6, a7, a8, a9, a10, a11, a12⟩ := mfold_ok em n h
  unfold meanZ
  split
  · omega
  · split
    · have := Int.ediv_le_self (a := 1000 * ((mfold em n).2.1 - (mfold em n).2.2.1 - (mfold em n).2.2.2)) ((mfold em n).1 - 2) (by have := a12 (by omega); omega)
      omega
    · have := Int.ediv_le_self (a := 1000 * (mfold em n).2.1) ((mfold em n).1) (by omega)
      omega
theorem meanZ_none {em : Int → Int} {n : Nat} (h : ∀ k : Nat, k < n → em k < 0) : meanZ em n = -1 := by
  have : ∀ m : Nat, m ≤ n → (mfold em m) = (0, 0, 100, 0) := by
    intro m
    induction m with
    | zero => intro _; rfl
    | succ m ih => intro hm; unfold mfold; rw [if_pos (h m (by omega))]; exact ih (by omega)
  unfold meanZ
  rw [if_pos (by rw [this n (Nat.le_refl n)])]
theorem mfold_congr {em en : Int → Int} : ∀ n : Nat, (∀ k : Nat, k < n → em k = en k ∨ (em k < 0 ∧ en k < 0)) → mfold em n = mfold en n := by
  intro n
  induction n with
  | zero => intro _; rfl
  | succ n ih =>
    intro h
    have h1 := ih (fun k hk => h k (by omega))
    unfold mfold
    rcases h n (by omega) with e | ⟨e1, e2⟩
    · rw [e, h1]
    · rw [if_pos e1, if_pos e2, h1]
theorem meanZ_congr {em en : Int → Int} {n : Nat} (h : ∀ k : Nat, k < n → em k = en k ∨ (em k < 0 ∧ en k < 0)) : meanZ em n = meanZ en n := by
  unfold meanZ
  rw [mfold_congr n h]
section RM
variable {S : SX12} {M : Int → Int}
def emZ (M : Int → Int) (row e w j : Int) : Int := if j = w then -1 else if countsZ M row j e = true then M (row + (12 * j + e)) else -1
theorem R_mean (hm : gX12_m S = mI M) (hR : rg M) (h0 : 0 ≤ M 0) (h0' : M 0 ≤ 7) {row e w : Int} (hr : 0 ≤ row) (hr' : row ≤ 570) (he : 0 ≤ e) (he' : e < 12) (hw : -1 ≤ w) (hw' : w < 7) (hk : ∀ j : Int, 0 ≤ j → j < 7 → M (row + (12 * j + e)) ≤ 100) :
    DX12_mean S (iI row) (iI e) (iI w) = some (iI (meanZ (emZ M row e w) (M 0).toNat)) := by
  have hem : ∀ k : Nat, k < (M 0).toNat → emZ M row e w k ≤ 100 := by
    intro k hk9
    unfold emZ
    have := hk k (by omega) (by omega)
    split
    · omega
    · split <;> omega
  unfold DX12_mean
  simp only [iI_lit, iI_neg, jn]
  refine upL (fun f j => DX12_mean_L16 S (iI row) (iI e) (iI w) _ f (iI (mfold (emZ M row e w) j).1) (iI (mfold (emZ M row e w) j).2.1) (iI (mfold (emZ M row e w) j).2.2.1) (iI (mfold (emZ M row e w) j).2.2.2) (iI j)) _ (M 0).toNat ?_ ?_ fu (by unfold fu; omega)
  · intro f j hj
    show DX12_mean_L16 _ _ _ _ _ _ _ _ _ _ _ = _
    obtain ⟨a1, a2, a3, a4, a5, a6, a7, a8, -⟩ := mfold_ok (emZ M row e w) j (fun k hk9 => hem k (by omega))
    rw [DX12_mean_L16, hm]
    simp only [show mI M 0 = iI (M 0) from rfl, iI_lit, iI_add, jn]
    rw [if_le (by omega) (by omega) (by omega) (by omega), if_neg (by omega), if_eq (by omega) (by omega) (by omega) (by omega)]
    rw [show ((j + 1 : Nat) : Int) = (j : Int) + 1 by omega, mfold]
    by_cases q : (j : Int) = w
    · rw [if_pos q, if_pos (show emZ M row e w j < 0 by unfold emZ; rw [if_pos q]; decide)]
    · rw [if_neg q, R_counts hm hR hr hr' (by omega) (by omega) he he']
      simp only [Option.bind_some, if_bz]
      cases hc : countsZ M row j e with
      | false =>
        rw [if_neg (by decide), if_pos (show emZ M row e w j < 0 by unfold emZ; rw [if_neg q, hc, if_neg (by decide)]; decide)]
      | true =>
        rw [if_pos rfl, R_seat]
        have hee : emZ M row e w j = M (row + (12 * j + e)) := by unfold emZ; rw [if_neg q, if_pos hc]
        have hnn : 0 ≤ M (row + (12 * j + e)) := by
          unfold countsZ at hc
          simp only [Bool.and_eq_true, decide_eq_true_eq] at hc
          exact hc.1
        have hb := hk j (by omega) (by omega)
        rw [hee, if_neg (by omega)]
        simp only [Option.bind_some, iI_add]
        rw [gd_iI (by omega) (by omega) (by omega), mI_at (by omega) (by omega), if_le (by omega) (by omega) (by omega) (by omega)]
        simp (disch := omega) only [iI_add, iI_le]
        by_cases q1 : (mfold (emZ M row e w) j).2.2.1 ≤ M (row + (12 * j + e))
        · by_cases q2 : M (row + (12 * j + e)) ≤ (mfold (emZ M row e w) j).2.2.2
          · simp only [if_pos q1, if_pos q2]
          · simp only [if_pos q1, if_neg q2]
        · by_cases q2 : M (row + (12 * j + e)) ≤ (mfold (emZ M row e w) j).2.2.2
          · simp only [if_neg q1, if_pos q2]
          · simp only [if_neg q1, if_neg q2]
  · intro f
    show DX12_mean_L16 _ _ _ _ _ _ _ _ _ _ _ = _
    obtain ⟨a1, a2, a3, a4, a5, a6, a7, a8, a9, a10, a11, a12⟩ := mfold_ok (emZ M row e w) (M 0).toNat hem
    rw [DX12_mean_L16, hm]
    simp only [show mI M 0 = iI (M 0) from rfl, iI_lit, iI_add, iI_sub, iI_mul, jn]
    rw [if_le (by omega) (by omega) (by omega) (by omega), if_pos (by omega), if_eq (by omega) (by omega) (by omega) (by omega)]
    unfold meanZ
    by_cases q : (mfold (emZ M row e w) (M 0).toNat).1 = 0
    · rw [if_pos q, if_pos q]
    · rw [if_neg q, if_neg q, if_le (by omega) (by omega) (by omega) (by omega)]
      by_cases q4 : 4 ≤ (mfold (emZ M row e w) (M 0).toNat).1
      · have := a12 (by omega)
        rw [if_pos q4, if_pos q4, gz_iI (by omega) (by omega) (by omega), iI_div (by omega) (by omega) (by omega) (by omega)]
      · rw [if_neg q4, if_neg q4, gz_iI (by omega) (by omega) (by omega), iI_div (by omega) (by omega) (by omega) (by omega)]
end RM
