section RC
variable {S : SX12} {M : Int → Int}
def closeOk (M : Int → Int) (e : Int) : Bool := if M 3 = 1 then (decide (plcZ M e = -1) || isCompleteZ M e) else (decide (M (654 + e) = 0) || isMarkedZ M 570 e)
def isClosableZ (M : Int → Int) : Bool := decide (M 3 = 1 ∨ M 3 = 2) && al (closeOk M) (M 6).toNat
theorem plcZ_b (M : Int → Int) (e : Int) (h7 : M 7 ≤ 12) : -1 ≤ plcZ M e ∧ plcZ M e < 12 ∧ (plcZ M e ≠ -1 → plcZ M e < M 7) := by
  have h1 := fst_lo (fun k => decide (M (462 + k) = e)) (M 7).toNat
  have h2 := fst_hi (fun k => decide (M (462 + k) = e)) (M 7).toNat
  have h3 : plcZ M e = fst (fun k => decide (M (462 + k) = e)) (M 7).toNat := rfl
  by_cases q : 0 ≤ M 7
  · exact ⟨by omega, by omega, fun _ => by omega⟩
  · refine ⟨by omega, by omega, fun h => absurd ?_ h⟩
    rw [h3, show (M 7).toNat = 0 by omega]
    rfl
theorem R_isClosable (hm : gX12_m S = mI M) (hR : rg M) (hT : stI M) : DX12_isClosable S = some (bI (isClosableZ M)) := by
  obtain ⟨t0, t1, t2, t3, t4, t6, t7, t8⟩ := hT
  unfold DX12_isClosable
  simp only [iI_lit, jn]
  rw [hm]
  simp only [show mI M 3 = iI (M 3) from rfl]
  simp (disch := omega) only [if_eq]
  have key : ∀ b : Bool, DX12_isClosable_L28 S (fun v => gd (isB v) (some v)) fu (bI b) (iI 0) = some (bI (b && al (closeOk M) (M 6).toNat)) := by
    intro b
    have base : b = (b && al (closeOk M) 0) := by cases b <;> rfl
    have := upL (fun f j => DX12_isClosable_L28 S (fun v => gd (isB v) (some v)) f (bI (b && al (closeOk M) j)) (iI j)) (some (bI (b && al (closeOk M) (M 6).toNat))) (M 6).toNat ?_ ?_ fu (by unfold fu; omega)
    · rw [← base] at this
      exact this
    · intro f j hj
      show DX12_isClosable_L28 _ _ _ _ _ = _
      have r6 := hR (654 + j)
      obtain ⟨p1, p2, -⟩ := plcZ_b M j (by omega)
      rw [DX12_isClosable_L28, hm]
      simp only [show mI M 6 = iI (M 6) from rfl, show mI M 3 = iI (M 3) from rfl, iI_lit, iI_add, iI_neg, jn]
      rw [if_le (by omega) (by omega) (by omega) (by omega), if_neg (by omega), R_placeOf hm hR (by omega) (by omega) (by omega) (by omega), R_isComplete hm hR (by omega) (by omega) (by omega) (by omega) (by omega) (by omega) (by omega) (by omega), R_isMarked hm hR (by omega) (by omega) (by omega) (by omega) (by omega) (by omega), al, show ((j + 1 : Nat) : Int) = (j : Int) + 1 by omega]
      simp (disch := omega) only [gd_iI, mI_at, if_eq, Option.bind_some, if_bz]
      unfold closeOk
      generalize al (fun e => if M 3 = 1 then (decide (plcZ M e = -1) || isCompleteZ M e) else (decide (M (654 + e) = 0) || isMarkedZ M 570 e)) j = A
      by_cases q1 : M 3 = 1
      · rw [if_pos q1, if_pos q1]
        by_cases q2 : plcZ M j = -1
        · rw [if_pos q2, decide_eq_true q2]
          cases b <;> cases A <;> rfl
        · rw [if_neg q2, decide_eq_false q2]
          generalize isCompleteZ M j = C
          cases b <;> cases A <;> cases C <;> rfl
      · rw [if_neg q1, if_neg q1]
        by_cases q2 : M (654 + j) = 0
        · rw [if_pos q2, decide_eq_true q2]
          cases b <;> cases A <;> rfl
        · rw [if_neg q2, decide_eq_false q2]
          generalize isMarkedZ M 570 j = C
          cases b <;> cases A <;> cases C <;> rfl
    · intro f
      show DX12_isClosable_L28 _ _ _ _ _ = _
      rw [DX12_isClosable_L28, hm]
      simp only [show mI M 6 = iI (M 6) from rfl]
      rw [if_le (by omega) (by omega) (by omega) (by omega), if_pos (by omega), gd_bI]
  unfold isClosableZ
  by_cases q1 : M 3 = 1
  · rw [if_pos q1, decide_eq_true (Or.inl q1)]; exact key true
  · by_cases q2 : M 3 = 2
    · rw [if_neg q1, if_pos q2, decide_eq_true (Or.inr q2)]; exact key true
    · rw [if_neg q1, if_neg q2, decide_eq_false (by omega)]; exact key false
/-- how far a juror's marks are from those of the others -/
def farZ (M : Int → Int) (j e : Int) : Int := if 0 ≤ 1000 * M (486 + (12 * j + e)) - meanZ (emZ M 486 e j) (M 0).toNat then 1000 * M (486 + (12 * j + e)) - meanZ (emZ M 486 e j) (M 0).toNat else -(1000 * M (486 + (12 * j + e)) - meanZ (emZ M 486 e j) (M 0).toNat)
def distZ (M : Int → Int) (j : Int) : Nat → Int
  | 0 => -1
  | n + 1 => if countsZ M 486 j (M (462 + n)) = true ∧ meanZ (emZ M 486 (M (462 + n)) j) (M 0).toNat ≠ -1 then (if distZ M j n = -1 then 0 else distZ M j n) + farZ M j (M (462 + n)) else distZ M j n
def ordI (M : Int → Int) : Prop := (∀ k : Int, 0 ≤ k → k < M 7 → 0 ≤ M (462 + k) ∧ M (462 + k) < M 6) ∧ ∀ i k : Int, 0 ≤ i → i < k → k < M 7 → M (462 + i) ≠ M (462 + k)
theorem farZ_b (hk : mkI M) (h0' : M 0 ≤ 7) {j e : Int} (hj : 0 ≤ j) (hj' : j < 7) (he : 0 ≤ e) (he' : e < 12) (hc : countsZ M 486 j e = true) : 0 ≤ farZ M j e ∧ farZ M j e ≤ 800001 := by
  have b1 := meanZ_lo (em_hi (M := M) (row := 486) (e := e) (w := j) (fun j h1 h2 => (hk j e h1 h2 he he').1) h0')
  have b2 := meanZ_hi (em_hi (M := M) (row := 486) (e := e) (w := j) (fun j h1 h2 => (hk j e h1 h2 he he').1) h0')
  have b3 := (hk j e hj hj' he he').1
  unfold countsZ at hc
  simp only [Bool.and_eq_true, decide_eq_true_eq] at hc
  have b4 := hc.1
  unfold farZ
  split <;> omega
theorem distZ_b (hT : stI M) (hk : mkI M) (hO : ordI M) {j : Int} (hj : 0 ≤ j) (hj' : j < 7) : ∀ n : Nat, (n : Int) ≤ M 7 → -1 ≤ distZ M j n ∧ distZ M j n ≤ 800001 * n := by
  obtain ⟨t0, t1, t2, t3, t4, t6, t7, t8⟩ := hT
  intro n
  induction n with
  | zero => intro _; unfold distZ; omega
  | succ n ih =>
    intro hn
    have h1 := ih (by omega)
    have h2 := hO.1 n (by omega) (by omega)
    unfold distZ
    split
    · next q =>
      have := farZ_b hk t0.2 hj hj' h2.1 (by omega) q.1
      split <;> omega
    · omega
theorem R_strL (hm : gX12_m S = mI M) (hR : rg M) (hT : stI M) (hk : mkI M) (hO : ordI M) {j : Int} (hj : 0 ≤ j) (hj' : j < 7) (c1 c2 : Int32) (k : Int32 → Option Int32) :
    DX12_strangest_L32 S c1 c2 (iI j) k fu (iI (-1)) (iI 0) = k (iI (distZ M j (M 8).toNat)) := by
  have hT' := hT
  obtain ⟨t0, t1, t2, t3, t4, t6, t7, t8⟩ := hT
  refine upL (fun f i => DX12_strangest_L32 S c1 c2 (iI j) k f (iI (distZ M j i)) (iI i)) _ (M 8).toNat ?_ ?_ fu (by unfold fu; omega)
  · intro f i hi
    show DX12_strangest_L32 _ _ _ _ _ _ _ _ = _
    obtain ⟨o1, o2⟩ := hO.1 i (by omega) (by omega)
    obtain ⟨d1, d2⟩ := distZ_b hT' hk hO hj hj' i (by omega)
    have b1 := meanZ_lo (em_hi (M := M) (row := 486) (e := M (462 + i)) (w := j) (fun j h1 h2 => (hk j (M (462 + i)) h1 h2 (by omega) (by omega)).1) t0.2)
    have b2 := meanZ_hi (em_hi (M := M) (row := 486) (e := M (462 + i)) (w := j) (fun j h1 h2 => (hk j (M (462 + i)) h1 h2 (by omega) (by omega)).1) t0.2)
    rw [DX12_strangest_L32, hm]
    simp only [show mI M 8 = iI (M 8) from rfl, iI_lit, iI_add, iI_neg, jn]
    rw [if_le (by omega) (by omega) (by omega) (by omega), if_neg (by omega)]
    simp (disch := omega) only [gd_iI, mI_at]
    rw [R_mean hm hR (by omega) (by omega) (by omega) (by omega) o1 (by omega) (by omega) (by omega) (fun j h1 h2 => (hk j _ h1 h2 o1 (by omega)).1), R_counts hm hR (by omega) (by omega) hj hj' o1 (by omega), R_seat]
    simp only [Option.bind_some, if_bz, iI_add]
    rw [distZ, show ((i + 1 : Nat) : Int) = (i : Int) + 1 by omega]
    cases hc : countsZ M 486 j (M (462 + i)) with
    | false => rw [if_neg (show ¬ false = true by decide), if_neg (fun h => nomatch h.1)]
    | true =>
      rw [if_pos (show true = true from rfl), if_eq (by omega) (by omega) (by omega) (by omega)]
      by_cases q : meanZ (emZ M 486 (M (462 + i)) j) (M 0).toNat = -1
      · rw [if_pos q, if_neg (fun h => h.2 q)]
      · rw [if_neg q, if_pos (show true = true ∧ meanZ (emZ M 486 (M (462 + i)) j) (M 0).toNat ≠ -1 from ⟨rfl, q⟩)]
        obtain ⟨f1, f2⟩ := farZ_b hk t0.2 hj hj' o1 (by omega) hc
        have c3 := hc
        unfold countsZ at c3
        simp only [Bool.and_eq_true, decide_eq_true_eq] at c3
        have b3 := (hk j _ hj hj' o1 (show M (462 + i) < 12 by omega)).1
        have b4 := c3.1
        simp (disch := omega) only [gd_iI, mI_at, iI_mul, iI_sub, iI_neg, if_eq, if_le]
        unfold farZ
        by_cases q1 : distZ M j i = -1
        · rw [if_pos q1, if_pos q1]
          by_cases q2 : 0 ≤ 1000 * M (486 + (12 * j + M (462 + i))) - meanZ (emZ M 486 (M (462 + i)) j) (M 0).toNat
          · simp only [if_pos q2, iI_add]
          · simp only [if_neg q2, iI_add]
        · rw [if_neg q1, if_neg q1]
          by_cases q2 : 0 ≤ 1000 * M (486 + (12 * j + M (462 + i))) - meanZ (emZ M 486 (M (462 + i)) j) (M 0).toNat
          · simp only [if_pos q2, iI_add]
          · simp only [if_neg q2, iI_add]
  · intro f
    show DX12_strangest_L32 _ _ _ _ _ _ _ _ = _
    rw [DX12_strangest_L32, hm]
    simp only [show mI M 8 = iI (M 8) from rfl]
    rw [if_le (by omega) (by omega) (by omega) (by omega), if_pos (by omega)]
/-- the strangest of the first n jurors, and how far -/
def strZ (d : Int → Int) : Nat → Int × Int
  | 0 => (-1, 0)
  | n + 1 => if d n ≠ -1 ∧ ((strZ d n).1 = -1 ∨ (strZ d n).2 < d n) then (n, d n) else strZ d n
theorem strZ_b {d : Int → Int} {b : Int} (hb : 0 ≤ b) : ∀ n : Nat, (∀ k : Nat, k < n → -1 ≤ d k ∧ d k ≤ b) → -1 ≤ (strZ d n).1 ∧ (strZ d n).1 < n ∧ 0 ≤ (strZ d n).2 ∧ (strZ d n).2 ≤ b := by
  intro n
  induction n with
  | zero => intro _; unfold strZ; simp; exact hb
  | succ n ih =>
    intro h
    obtain ⟨a1, a2, a3, a4⟩ := ih fun k hk => h k (by omega)
    have := h n (by omega)
    unfold strZ
    split
    · next q => simp only; omega
    · omega
def strangestZ (M : Int → Int) : Int := if M 3 = 1 then (strZ (fun j => distZ M j (M 8).toNat) (M 0).toNat).1 else -1
theorem R_strangest (hm : gX12_m S = mI M) (hR : rg M) (hT : stI M) (hk : mkI M) (hO : ordI M) : DX12_strangest S = some (iI (strangestZ M)) := by
  have hT' := hT
  obtain ⟨t0, t1, t2, t3, t4, t6, t7, t8⟩ := hT
  unfold DX12_strangest strangestZ
  simp only [iI_lit, iI_neg, jn]
  by_cases q : M 3 = 1
  · rw [if_pos q]
    refine upL (fun f j => DX12_strangest_L6 S (fun v => some v) f (iI (strZ (fun j => distZ M j (M 8).toNat) j).1) (iI (strZ (fun j => distZ M j (M 8).toNat) j).2) (iI j)) _ (M 0).toNat ?_ ?_ fu (by unfold fu; omega)
    · intro f j hj
      show DX12_strangest_L6 _ _ _ _ _ _ = _
      obtain ⟨d1, d2⟩ := distZ_b hT' hk hO (j := j) (by omega) (by omega) (M 8).toNat (by omega)
      obtain ⟨s1, s2, s3, s4⟩ := strZ_b (d := fun j => distZ M j (M 8).toNat) (b := 9600012) (by decide) j (fun k hk9 => by
        have := distZ_b hT' hk hO (j := k) (by omega) (by omega) (M 8).toNat (by omega)
        show -1 ≤ distZ M k (M 8).toNat ∧ distZ M k (M 8).toNat ≤ 9600012
        omega)
      rw [DX12_strangest_L6, hm]
      simp only [show mI M 0 = iI (M 0) from rfl, show mI M 3 = iI (M 3) from rfl, iI_lit, iI_add, iI_neg, jn]
      rw [if_le (by omega) (by omega) (by omega) (by omega), if_neg (by omega), if_eq (by omega) (by omega) (by omega) (by omega), if_pos q]
      rw [R_strL hm hR hT' hk hO (by omega) (by omega)]
      rw [strZ, show ((j + 1 : Nat) : Int) = (j : Int) + 1 by omega]
      generalize strZ (fun j => distZ M j (M 8).toNat) j = Q at *
      generalize distZ M j (M 8).toNat = dd at *
      simp (disch := omega) only [if_eq, if_le, if_true, reduceIte, Int.reduceEq]
      have p1 : ∀ h : dd = -1, ¬ (dd ≠ -1 ∧ (Q.1 = -1 ∨ Q.2 < dd)) := fun h h2 => h2.1 h
      by_cases q1 : dd = -1
      · rw [if_pos q1, if_neg (p1 q1)]
      · rw [if_neg q1]
        by_cases q2 : Q.1 = -1
        · rw [if_pos q2, if_pos (show dd ≠ -1 ∧ (Q.1 = -1 ∨ Q.2 < dd) from ⟨q1, Or.inl q2⟩)]
        · rw [if_neg q2]
          by_cases q3 : dd ≤ Q.2
          · rw [if_pos q3, if_neg (show ¬ (dd ≠ -1 ∧ (Q.1 = -1 ∨ Q.2 < dd)) from fun h => by rcases h.2 with h | h; exact q2 h; omega)]
          · rw [if_neg q3, if_pos (show dd ≠ -1 ∧ (Q.1 = -1 ∨ Q.2 < dd) from ⟨q1, Or.inr (by omega)⟩)]
    · intro f
      show DX12_strangest_L6 _ _ _ _ _ _ = _
      rw [DX12_strangest_L6, hm]
      simp only [show mI M 0 = iI (M 0) from rfl]
      rw [if_le (by omega) (by omega) (by omega) (by omega), if_pos (by omega)]
  · rw [if_neg q, show fu = 999999 + 1 from rfl, DX12_strangest_L6, hm]
    simp only [show mI M 0 = iI (M 0) from rfl, show mI M 3 = iI (M 3) from rfl, iI_lit]
    simp (disch := omega) only [if_eq, if_le]
    rw [if_neg q]
    split <;> rfl
end RC
