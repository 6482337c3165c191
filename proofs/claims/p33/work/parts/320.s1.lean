/-! rows for the law's own sums: bits (those of bt, b_.., s_l begun with kit/laws/BITS), means, counts -/
def bt (x : Int32) (i : Nat) : Bool := x.toBitVec.getLsbD i
theorem b_ext {x y : Int32} (h : ∀ i, i < 32 → bt x i = bt y i) : x = y := Int32.toBitVec_inj.mp (BitVec.eq_of_getLsbD_eq (fun i hi => h i hi))
theorem b_or (x y : Int32) (i : Nat) : bt (x ||| y) i = (bt x i || bt y i) := by unfold bt; rw [Int32.toBitVec_or, BitVec.getLsbD_or]
theorem b_and (x y : Int32) (i : Nat) : bt (x &&& y) i = (bt x i && bt y i) := by unfold bt; rw [Int32.toBitVec_and, BitVec.getLsbD_and]
theorem b_xor (x y : Int32) (i : Nat) : bt (x ^^^ y) i = (bt x i ^^ bt y i) := by unfold bt; rw [Int32.toBitVec_xor, BitVec.getLsbD_xor]
theorem b_m1 : ∀ i, i < 32 → bt (-1) i = true := by decide +kernel
theorem b_0 (i : Nat) : bt 0 i = false := BitVec.getLsbD_zero
theorem b_1 : ∀ i, i < 32 → bt 1 i = decide (i = 0) := by decide +kernel
theorem s_l : ∀ n, n < 32 → ((nI n &&& 31).toBitVec.smod 32).toNat = n := by decide +kernel
theorem b_shl (n : Nat) (hn : n < 32) (x : Int32) {i : Nat} (hi : i < 32) : bt (x <<< (nI n &&& 31)) i = (decide (n ≤ i) && bt x (i - n)) := by
  unfold bt
  rw [Int32.toBitVec_shiftLeft]
  show (x.toBitVec <<< ((nI n &&& 31).toBitVec.smod 32).toNat).getLsbD i = _
  rw [s_l n hn, BitVec.getLsbD_shiftLeft]
  rcases Nat.lt_or_ge i n with h | h
  · simp [h, Nat.not_le.mpr h]
  · simp [hi, h, Nat.not_lt.mpr h]
theorem b_sshr (n : Nat) (hn : n < 32) (x : Int32) {i : Nat} (hi : i < 32) : bt (x >>> (nI n &&& 31)) i = if n + i < 32 then bt x (n + i) else bt x 31 := by
  unfold bt
  rw [Int32.toBitVec_shiftRight]
  show (x.toBitVec.sshiftRight ((nI n &&& 31).toBitVec.smod 32).toNat).getLsbD i = _
  rw [s_l n hn, BitVec.getLsbD_sshiftRight, BitVec.msb_eq_getLsbD_last]
  simp [hi]
theorem nI_i {n : Nat} (h : n < 2 ^ 31) : nI n = iI (n : Int) := Int32.toInt_inj.mp ((nI_toInt h).trans (iI_toInt (by omega) (by omega)).symm)
theorem and_1 (y : Int32) : (y &&& iI 1 = iI 1) = (bt y 0 = true) := by
  apply propext
  constructor
  · intro h
    have h1 := congrArg (fun z => bt z 0) h
    simp only [show iI 1 = (1 : Int32) from rfl, b_and, b_1 0 (by omega)] at h1
    simpa using h1
  · intro h
    apply b_ext
    intro i hi
    rw [b_and, show iI 1 = (1 : Int32) from rfl, b_1 i hi]
    by_cases q : i = 0
    · rw [q, h]; rfl
    · rw [decide_eq_false q, Bool.and_false]
/-- bit e of a set of entrants -/
theorem bit_at {s : Int32} {e : Int} (h0 : 0 ≤ e) (h1 : e < 12) : ((s >>> (iI e &&& iI 31)) &&& iI 1 = iI 1) = (bt s e.toNat = true) := by
  rw [and_1]
  have e1 : iI e = nI e.toNat := by rw [nI_i (by omega), Int.toNat_of_nonneg h0]
  rw [e1, show iI 31 = (31 : Int32) from rfl, b_sshr e.toNat (by omega) s (by omega), if_pos (by omega)]
  rfl
theorem bit_or {s : Int32} {a : Int} {i : Nat} (h0 : 0 ≤ a) (h1 : a < 12) (hi : i < 12) : bt (s ||| (iI 1 <<< (iI a &&& iI 31))) i = (bt s i || decide ((i : Int) = a)) := by
  have e1 : iI a = nI a.toNat := by rw [nI_i (by omega), Int.toNat_of_nonneg h0]
  rw [b_or, e1, show iI 31 = (31 : Int32) from rfl, b_shl a.toNat (by omega) (iI 1) (by omega), show iI 1 = (1 : Int32) from rfl, b_1 _ (by omega)]
  congr 1
  by_cases q : (i : Int) = a
  · rw [decide_eq_true q, decide_eq_true (by omega), decide_eq_true (by omega)]; rfl
  · rw [decide_eq_false q]
    by_cases q2 : a.toNat ≤ i
    · rw [decide_eq_true q2, decide_eq_false (by omega)]; rfl
    · rw [decide_eq_false q2]; rfl
theorem ne10 : (iI 1 = iI 0) = False := by simp only [iI_eq (show (-2147483648 : Int) ≤ 1 by omega) (show (1 : Int) < 2147483648 by omega) (show (-2147483648 : Int) ≤ 0 by omega) (show (0 : Int) < 2147483648 by omega)]; decide
theorem ne01 : (iI 0 = iI 1) = False := by simp only [iI_eq (show (-2147483648 : Int) ≤ 0 by omega) (show (0 : Int) < 2147483648 by omega) (show (-2147483648 : Int) ≤ 1 by omega) (show (1 : Int) < 2147483648 by omega)]; decide
section S1
variable {M N : Int → Int}
/-- a mean is at most that of 100s -/
theorem mfold_100 (em : Int → Int) : ∀ n : Nat, (∀ k : Nat, k < n → em k ≤ 100) → (mfold em n).2.1 ≤ 100 * (mfold em n).1 ∧ (1 ≤ (mfold em n).1 → (mfold em n).2.1 - (mfold em n).2.2.1 ≤ 100 * ((mfold em n).1 - 1) ∧ (mfold em n).2.1 - (mfold em n).2.2.2 ≤ 100 * ((mfold em n).1 - 1)) ∧ (2 ≤ (mfold em n).1 → (mfold em n).2.1 - (mfold em n).2.2.1 - (mfold em n).2.2.2 ≤ 100 * ((mfold em n).1 - 2)) := by
  intro n
  induction n with
  | zero => intro _; simp [mfold]
  | succ n ih =>
    intro h
    have h0 := h n (by omega)
    obtain ⟨b1, b2, b3⟩ := ih (fun k hk => h k (by omega))
    obtain ⟨a1, a2, a3, a4, a5, a6, a7, a8, a9, a10, a11, a12⟩ := mfold_ok em n (fun k hk => h k (by omega))
    unfold mfold
    by_cases q : em n < 0
    · rw [if_pos q]
      exact ⟨b1, b2, b3⟩
    · rw [if_neg q]
      generalize mfold em n = Q at *
      obtain ⟨c, s, lo, hi⟩ := Q
      simp only [Prod.mk.injEq] at *
      refine ⟨by omega, fun hc => ?_, fun hc => ?_⟩
      · by_cases hz : c = 0
        · obtain ⟨c1, c2, c3⟩ := a9 hz
          constructor <;> split <;> omega
        · obtain ⟨c1, c2⟩ := b2 (by omega)
          constructor <;> split <;> omega
      · by_cases hz : c = 1
        · obtain ⟨c1, c2⟩ := a10 hz
          split <;> split <;> omega
        · have c1 := b3 (by omega)
          obtain ⟨c2, c3⟩ := b2 (by omega)
          split <;> split <;> omega
theorem meanZ_100 {em : Int → Int} {n : Nat} (h : ∀ k : Nat, k < n → em k ≤ 100) : meanZ em n ≤ 100000 := by
  obtain ⟨a1, a2, a3, a4, a5, a6, a7, a8, a9, a10, a11, a12⟩ := mfold_ok em n h
  obtain ⟨b1, b2, b3⟩ := mfold_100 em n h
  unfold meanZ
  split
  · omega
  · split
    · exact Int.ediv_le_of_le_mul (by omega) (by have := b3 (by omega); omega)
    · exact Int.ediv_le_of_le_mul (by omega) (by omega)
theorem scoreZ_100 (hI : MI M) {e : Int} (he : 0 ≤ e) (he' : e < 12) : -1 ≤ scoreZ M e ∧ scoreZ M e ≤ 100000 := by
  have hb := scoreZ_b hI he he'
  refine ⟨hb.1, ?_⟩
  obtain ⟨hR, hT, hW, hIn, hTi, hk, hs, hO, hN, hru, hba, hty, hml⟩ := hI
  have hm := meanZ_100 (em_hi (row := 486) (w := -1) (fun j a b => (hk j e a b he he').1) hT.1.2)
  have h2 := hT.2.2.1
  unfold scoreZ
  split
  · omega
  · next q =>
    have hp : hpZ M e = true := by
      cases hh : hpZ M e with
      | true => rfl
      | false => exact absurd (Or.inr hh) q
    have h3 := hs e he he' hp
    have h4 : 0 ≤ 10 * M 2 * M (474 + e) := Int.mul_nonneg (by omega) h3.1
    split <;> omega
theorem score_hp {e : Int} (h : 0 ≤ scoreZ M e) : hpZ M e = true := by
  unfold scoreZ at h
  cases hh : hpZ M e with
  | true => rfl
  | false => rw [hh, if_pos (Or.inr rfl)] at h; omega
/-- how many have given a mark -/
def gvZ (M : Int → Int) (e : Int) (n : Nat) : Int := cn (fun j => decide (0 ≤ M (486 + (12 * j + e)))) n
theorem cn_imp {p q : Int → Bool} : ∀ n : Nat, (∀ k : Nat, k < n → p k = true → q k = true) → cn p n ≤ cn q n := by
  intro n
  induction n with
  | zero => intro _; exact Int.le_refl _
  | succ n ih =>
    intro h
    have h1 := ih (fun k hk => h k (by omega))
    have h2 := h n (by omega)
    unfold cn
    by_cases q1 : p n = true
    · rw [if_pos q1, if_pos (h2 q1)]; omega
    · rw [if_neg q1]; split <;> omega
theorem cnt_gv (e : Int) : countingZ M 486 e ≤ gvZ M e (M 0).toNat := by
  unfold countingZ gvZ
  refine cn_imp _ fun k _ h => ?_
  unfold countsZ at h
  rw [Bool.and_eq_true] at h
  exact h.1
theorem sm_al {g : Int → Int} : ∀ n : Nat, (∀ k : Nat, k < n → g k = 0) → sm g n = 0 := by
  intro n
  induction n with
  | zero => intro _; rfl
  | succ n ih => intro h; unfold sm; rw [ih (fun k hk => h k (by omega)), h n (by omega)]; rfl
/-- what holds besides, in every state -/
def yI (M : Int → Int) : Prop := (M 3 = 1 → ∀ e : Int, 0 ≤ e → e < M 6 → (plcZ M e ≠ -1 ↔ M (126 + e) = 1)) ∧ (∀ j e : Int, 0 ≤ j → j < 7 → 0 ≤ e → e < 12 → M (570 + (12 * j + e)) ≤ 10) ∧ (∀ e : Int, 0 ≤ e → e < 12 → M (654 + e) = 1 → M (126 + e) = 1) ∧ (M 3 = 2 → M 9 < tiedZ M) ∧ (M 3 = 0 → M 4 = 0) ∧ ∀ r : Int, 0 ≤ r → r < 4 → M (ruleZ r 4) = 0 ∨ M (ruleZ r 4) = 1
theorem ofE (M : Int → Int) (e : Int) : ofEntrantZ M e 0 = M (126 + e) ∧ ofEntrantZ M e 1 = plcZ M e ∧ ofEntrantZ M e 2 = (if hpZ M e = true then M (474 + e) else -1) ∧ ofEntrantZ M e 3 = countingZ M (if M 3 = 2 then 570 else 486) e ∧ ofEntrantZ M e 4 = scoreZ M e ∧ ofEntrantZ M e 5 = (if isCompleteZ M e = true then 1 else 0) ∧ ofEntrantZ M e 6 = M (654 + e) := ⟨rfl, rfl, rfl, rfl, rfl, rfl, rfl⟩
theorem inf (M : Int → Int) : infoZ M 0 = M 0 ∧ infoZ M 1 = M 1 ∧ infoZ M 2 = M 2 ∧ infoZ M 3 = M 3 ∧ infoZ M 4 = M 4 ∧ infoZ M 5 = M 5 ∧ infoZ M 6 = M 6 ∧ infoZ M 7 = countInZ M ∧ infoZ M 8 = M 7 ∧ infoZ M 9 = M 8 ∧ infoZ M 10 = tiedZ M ∧ infoZ M 11 = M 9 ∧ infoZ M 12 = M 10 := ⟨rfl, rfl, rfl, rfl, rfl, rfl, rfl, rfl, rfl, rfl, rfl, rfl, rfl⟩
theorem hp_plc {e : Int} : hpZ M e = true ↔ 0 ≤ plcZ M e ∧ plcZ M e ≤ M 8 - 1 := by
  unfold hpZ
  exact decide_eq_true_iff
end S1
