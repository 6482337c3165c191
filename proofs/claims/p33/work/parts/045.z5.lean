section RF
variable {S : SX12} {M : Int → Int}
def cellZ (e r : Int) : Int := 138 + 5 * (4 * e + r)
def workAtZ (M : Int → Int) (e r k : Int) : Int := if 0 ≤ k ∧ k ≤ M (cellZ e r) - 1 then M (cellZ e r + 1 + k) else -1
/-- the works and the programs are in their ranges -/
def wkI (M : Int → Int) : Prop :=
  (0 ≤ M 5 ∧ M 5 ≤ 30) ∧ (∀ k : Int, 0 ≤ k → k < M 5 → (0 ≤ M (12 + 3 * k) ∧ M (12 + 3 * k) ≤ 9) ∧ (0 ≤ M (12 + 3 * k + 1) ∧ M (12 + 3 * k + 1) ≤ 4) ∧ (1 ≤ M (12 + 3 * k + 2) ∧ M (12 + 3 * k + 2) ≤ 60)) ∧
  (∀ e r : Int, 0 ≤ e → e < 12 → 0 ≤ r → r < 4 → (0 ≤ M (cellZ e r) ∧ M (cellZ e r) ≤ 4) ∧ ∀ k : Int, 0 ≤ k → k < M (cellZ e r) → 0 ≤ M (cellZ e r + 1 + k) ∧ M (cellZ e r + 1 + k) < M 5)
theorem workAtZ_b (hW : wkI M) {e r k : Int} (he : 0 ≤ e) (he' : e < 12) (hr : 0 ≤ r) (hr' : r < 4) : -1 ≤ workAtZ M e r k ∧ workAtZ M e r k < M 5 := by
  obtain ⟨h5, -, h⟩ := hW
  obtain ⟨-, h⟩ := h e r he he' hr hr'
  unfold workAtZ
  split
  · next q => have := h k q.1 (by omega); omega
  · omega
theorem workAtZ_in (hW : wkI M) {e r k : Int} (he : 0 ≤ e) (he' : e < 12) (hr : 0 ≤ r) (hr' : r < 4) (hk : 0 ≤ k) (hk' : k < M (cellZ e r)) : workAtZ M e r k = M (cellZ e r + 1 + k) ∧ 0 ≤ workAtZ M e r k ∧ workAtZ M e r k < M 5 := by
  obtain ⟨h5, -, h⟩ := hW
  obtain ⟨-, h⟩ := h e r he he' hr hr'
  have := h k hk hk'
  unfold workAtZ
  rw [if_pos ⟨hk, by omega⟩]
  exact ⟨rfl, this⟩
theorem R_programAt (e r : Int) : DX12_programAt (iI e) (iI r) = some (iI (cellZ e r)) := by
  unfold DX12_programAt cellZ
  simp only [iI_lit, iI_mul, iI_add]
theorem R_workAt (hm : gX12_m S = mI M) (hW : wkI M) {e r k : Int} (he : 0 ≤ e) (he' : e < 12) (hr : 0 ≤ r) (hr' : r < 4) (hk : -2147483648 ≤ k) (hk' : k < 2147483648) : DX12_workAt S (iI e) (iI r) (iI k) = some (iI (workAtZ M e r k)) := by
  unfold DX12_workAt
  have hc : cellZ e r = 138 + 5 * (4 * e + r) := rfl
  obtain ⟨hc1, hc2⟩ := (hW.2.2 e r he he' hr hr').1
  rw [R_programAt]
  simp only [Option.bind_some, jn, hm, iI_lit]
  rw [gd_iI (by omega) (by omega) (by omega), mI_at (by omega) (by omega)]
  simp only [iI_sub]
  rw [R_in (by omega) (by omega) (by omega) (by omega) (by omega) (by omega)]
  simp only [Option.bind_some, if_bz, iI_add, iI_neg]
  unfold workAtZ
  by_cases q : 0 ≤ k ∧ k ≤ M (cellZ e r) - 1
  · rw [if_pos q, if_pos (decide_eq_true q), gd_iI (by omega) (by omega) (by omega), mI_at (by omega) (by omega)]
  · rw [if_neg q, if_neg (by rw [decide_eq_false q]; decide)]
def wasZ (M : Int → Int) (e w : Int) (n : Nat) : Bool := !(al (fun k => decide (workAtZ M e (k / 4) (k - k / 4 * 4) ≠ w)) n)
theorem R_wasPlayed (hm : gX12_m S = mI M) (hW : wkI M) {e r w : Int} (he : 0 ≤ e) (he' : e < 12) (hr : 0 ≤ r) (hr' : r < 4) (hw : -2147483648 ≤ w) (hw' : w < 2147483648) : DX12_wasPlayed S (iI e) (iI r) (iI w) = some (bI (wasZ M e w (4 * r).toNat)) := by
  unfold DX12_wasPlayed
  have h5 := hW.1
  simp only [iI_lit]
  refine upL (fun f j => DX12_wasPlayed_L6 S (iI e) (iI r) (iI w) _ f (bI (wasZ M e w j)) (iI j)) _ (4 * r).toNat ?_ ?_ fu (by unfold fu; omega)
  · intro f j hj
    show DX12_wasPlayed_L6 _ _ _ _ _ _ _ _ = _
    rw [DX12_wasPlayed_L6]
    have hb := workAtZ_b hW (e := e) (r := (j : Int) / 4) (k := (j : Int) - (j : Int) / 4 * 4) he he' (by omega) (by omega)
    simp only [iI_lit, iI_mul, jn, iI_add]
    rw [if_le (by omega) (by omega) (by omega) (by omega), if_neg (by omega), iI_div (by omega) (by omega) (by omega) (by omega)]
    simp only [iI_mul, iI_sub]
    rw [R_workAt hm hW he he' (by omega) (by omega) (by omega) (by omega)]
    simp only [Option.bind_some, if_bz]
    rw [if_eq (by omega) (by omega) (by omega) (by omega), show wasZ M e w (j + 1) = (wasZ M e w j || decide (workAtZ M e ((j : Int) / 4) ((j : Int) - (j : Int) / 4 * 4) = w)) by unfold wasZ; rw [al, Bool.not_and]; by_cases q : workAtZ M e ((j : Int) / 4) ((j : Int) - (j : Int) / 4 * 4) = w <;> simp [q]]
    rw [show ((j + 1 : Nat) : Int) = (j : Int) + 1 by omega]
    by_cases q : workAtZ M e ((j : Int) / 4) ((j : Int) - (j : Int) / 4 * 4) = w
    · rw [if_pos q, decide_eq_true q]
      cases wasZ M e w j <;> rfl
    · rw [if_neg q, decide_eq_false q]
      cases wasZ M e w j <;> rfl
  · intro f
    show DX12_wasPlayed_L6 _ _ _ _ _ _ _ _ = _
    rw [DX12_wasPlayed_L6]
    simp only [iI_lit, iI_mul]
    rw [if_le (by omega) (by omega) (by omega) (by omega), if_pos (by omega), gd_bI]
/-- the composer of the program's k-th work -/
def compZ (M : Int → Int) (e r k : Int) : Int := M (12 + 3 * workAtZ M e r k)
def eraZ (M : Int → Int) (e r k : Int) : Int := M (12 + 3 * workAtZ M e r k + 1)
def minZ (M : Int → Int) (e r k : Int) : Int := M (12 + 3 * workAtZ M e r k + 2)
def alikeZ (M : Int → Int) (e r c : Int) (n : Nat) : Int := cn (fun i => decide (compZ M e r i = c)) n
/-- the flaw's four sums over the first n works of the program of N works -/
def flZ (M : Int → Int) (e r : Int) (N : Nat) : Nat → Int × Int32 × Int × Bool
  | 0 => (0, iI 0, 0, false)
  | n + 1 => ((flZ M e r N n).1 + minZ M e r n, (flZ M e r N n).2.1 ||| (iI 1 <<< (iI (eraZ M e r n) &&& iI 31)), (if alikeZ M e r (compZ M e r n) N ≤ (flZ M e r N n).2.2.1 then (flZ M e r N n).2.2.1 else alikeZ M e r (compZ M e r n) N), (flZ M e r N n).2.2.2 || wasZ M e (workAtZ M e r n) (4 * r).toNat)
theorem flZ_ok (hW : wkI M) {e r : Int} (he : 0 ≤ e) (he' : e < 12) (hr : 0 ≤ r) (hr' : r < 4) (N : Nat) (hN : N = (M (cellZ e r)).toNat) : ∀ n : Nat, n ≤ N → 0 ≤ (flZ M e r N n).1 ∧ (flZ M e r N n).1 ≤ 60 * n ∧ 0 ≤ (flZ M e r N n).2.2.1 ∧ (flZ M e r N n).2.2.1 ≤ N := by
  intro n
  induction n with
  | zero => intro _; unfold flZ; exact ⟨Int.le_refl _, by simp, Int.le_refl _, by simp⟩
  | succ n ih =>
    intro hn
    obtain ⟨a1, a2, a3, a4⟩ := ih (by omega)
    have hc := (hW.2.2 e r he he' hr hr').1
    obtain ⟨b1, b2, b3⟩ := workAtZ_in hW he he' hr hr' (k := n) (by omega) (by omega)
    obtain ⟨-, -, c3⟩ := hW.2.1 _ b2 b3
    have d1 := cn_lo (fun i => decide (compZ M e r i = compZ M e r n)) N
    have d2 := cn_hi (fun i => decide (compZ M e r i = compZ M e r n)) N
    have d3 : alikeZ M e r (compZ M e r n) N = cn (fun i => decide (compZ M e r i = compZ M e r n)) N := rfl
    unfold flZ
    simp only
    unfold minZ
    refine ⟨by omega, by omega, ?_, ?_⟩
    · split <;> omega
    · split <;> omega
def ruleZ (r i : Int) : Int := 102 + 6 * r + i
def flawZ (M : Int → Int) (e r : Int) : Int :=
  if M (cellZ e r) = 0 then 1 else
  if M (ruleZ r 0) ≤ (flZ M e r (M (cellZ e r)).toNat (M (cellZ e r)).toNat).1 then
    if (flZ M e r (M (cellZ e r)).toNat (M (cellZ e r)).toNat).1 ≤ M (ruleZ r 1) then
      if (iI (M (ruleZ r 2)) &&& ((flZ M e r (M (cellZ e r)).toNat (M (cellZ e r)).toNat).2.1 ^^^ iI (-1))) = iI 0 then
        if (flZ M e r (M (cellZ e r)).toNat (M (cellZ e r)).toNat).2.2.1 ≤ M (ruleZ r 3) then
          if M (ruleZ r 4) = 1 ∧ (flZ M e r (M (cellZ e r)).toNat (M (cellZ e r)).toNat).2.2.2 = true then 6 else 0
        else 5
      else 4
    else 3
  else 2
theorem R_flawL (hm : gX12_m S = mI M) (hW : wkI M) {e r : Int} (he : 0 ≤ e) (he' : e < 12) (hr : 0 ≤ r) (hr' : r < 4) (N : Nat) (hN : N = (M (cellZ e r)).toNat) (c3 : Int32) (k8 : Int32 → Int32 → Int32 → Int32 → Option Int32) :
    DX12_flawOf_L35 S (iI e) (iI r) c3 (iI N) k8 fu (iI 0) (iI 0) (iI 0) (iI 0) (iI 0) = k8 (iI (flZ M e r N N).1) (flZ M e r N N).2.1 (iI (flZ M e r N N).2.2.1) (bI (flZ M e r N N).2.2.2) := by
  have hc : cellZ e r = 138 + 5 * (4 * e + r) := rfl
  obtain ⟨hc1, hc2⟩ := (hW.2.2 e r he he' hr hr').1
  refine upL (fun f j => DX12_flawOf_L35 S (iI e) (iI r) c3 (iI N) k8 f (iI (flZ M e r N j).1) (flZ M e r N j).2.1 (iI (flZ M e r N j).2.2.1) (bI (flZ M e r N j).2.2.2) (iI j)) _ N ?_ ?_ fu (by unfold fu; omega)
  · intro f j hj
    show DX12_flawOf_L35 _ _ _ _ _ _ _ _ _ _ _ _ = _
    obtain ⟨a1, a2, a3, a4⟩ := flZ_ok hW he he' hr hr' N hN j (by omega)
    obtain ⟨b1, b2, b3⟩ := workAtZ_in hW he he' hr hr' (k := j) (by omega) (by omega)
    obtain ⟨c1, c2, c3⟩ := hW.2.1 _ b2 b3
    have h5 := hW.1
    have d1 := cn_lo (fun i => decide (compZ M e r i = compZ M e r j)) N
    have d2 := cn_hi (fun i => decide (compZ M e r i = compZ M e r j)) N
    have d3 : alikeZ M e r (compZ M e r j) N = cn (fun i => decide (compZ M e r i = compZ M e r j)) N := rfl
    rw [DX12_flawOf_L35]
    rw [if_le (by omega) (by omega) (by omega) (by omega), if_neg (by omega), R_workAt hm hW he he' hr hr' (by omega) (by omega)]
    simp only [Option.bind_some, hm, iI_lit, iI_mul, iI_add, jn]
    rw [gd_iI (by omega) (by omega) (by omega), mI_at (by omega) (by omega)]
    have inner : ∀ k : Int32 → Option Int32, ∀ v5 v6 v7 v8 v9 c3 : Int32, DX12_flawOf_L72 S (iI e) (iI r) c3 (iI N) v5 v6 v7 v8 v9 (iI (workAtZ M e r j)) (iI (M (12 + 3 * workAtZ M e r j))) k fu (iI 0) (iI 0) = k (iI (alikeZ M e r (compZ M e r j) N)) := by
      intro k v5 v6 v7 v8 v9 c3
      refine upL (fun f i => DX12_flawOf_L72 S (iI e) (iI r) c3 (iI N) v5 v6 v7 v8 v9 (iI (workAtZ M e r j)) (iI (M (12 + 3 * workAtZ M e r j))) k f (iI (alikeZ M e r (compZ M e r j) i)) (iI i)) _ N ?_ ?_ fu (by unfold fu; omega)
      · intro f i hi
        show DX12_flawOf_L72 _ _ _ _ _ _ _ _ _ _ _ _ _ _ _ _ = _
        obtain ⟨g1, g2, g3⟩ := workAtZ_in hW he he' hr hr' (k := i) (by omega) (by omega)
        obtain ⟨i1, i2, i3⟩ := hW.2.1 _ g2 g3
        rw [DX12_flawOf_L72, if_le (by omega) (by omega) (by omega) (by omega), if_neg (by omega), R_workAt hm hW he he' hr hr' (by omega) (by omega)]
        simp only [Option.bind_some, hm, iI_lit, iI_mul, iI_add, jn]
        rw [gd_iI (by omega) (by omega) (by omega), mI_at (by omega) (by omega), if_eq (by omega) (by omega) (by omega) (by omega), show ((i + 1 : Nat) : Int) = (i : Int) + 1 by omega]
        unfold alikeZ
        rw [cn]
        unfold compZ
        by_cases q : M (12 + 3 * workAtZ M e r i) = M (12 + 3 * workAtZ M e r j)
        · rw [if_pos q, decide_eq_true q]; rfl
        · rw [if_neg q, decide_eq_false q]; rfl
      · intro f
        show DX12_flawOf_L72 _ _ _ _ _ _ _ _ _ _ _ _ _ _ _ _ = _
        rw [DX12_flawOf_L72, if_le (by omega) (by omega) (by omega) (by omega), if_pos (by omega)]
    rw [inner]
    simp (disch := omega) only [gd_iI, mI_at]
    rw [R_wasPlayed hm hW he he' hr hr' (by omega) (by omega)]
    simp only [Option.bind_some, if_bz, iI_add]
    rw [show ((j + 1 : Nat) : Int) = (j : Int) + 1 by omega, flZ, if_le (by omega) (by omega) (by omega) (by omega)]
    simp only
    unfold minZ eraZ
    by_cases q : alikeZ M e r (compZ M e r j) N ≤ (flZ M e r N j).2.2.1
    · simp only [if_pos q]
      cases (flZ M e r N j).2.2.2 <;> cases wasZ M e (workAtZ M e r j) (4 * r).toNat <;> rfl
    · simp only [if_neg q]
      cases (flZ M e r N j).2.2.2 <;> cases wasZ M e (workAtZ M e r j) (4 * r).toNat <;> rfl
  · intro f
    show DX12_flawOf_L35 _ _ _ _ _ _ _ _ _ _ _ _ = _
    rw [DX12_flawOf_L35, if_le (by omega) (by omega) (by omega) (by omega), if_pos (by omega)]
theorem R_flawOf (hm : gX12_m S = mI M) (hR : rg M) (hW : wkI M) {e r : Int} (he : 0 ≤ e) (he' : e < 12) (hr : 0 ≤ r) (hr' : r < 4) : DX12_flawOf S (iI e) (iI r) = some (iI (flawZ M e r)) := by
  unfold DX12_flawOf
  have hc : cellZ e r = 138 + 5 * (4 * e + r) := rfl
  obtain ⟨hc1, hc2⟩ := (hW.2.2 e r he he' hr hr').1
  obtain ⟨N, hN⟩ : ∃ N : Nat, N = (M (cellZ e r)).toNat := ⟨_, rfl⟩
  have hN' : M (cellZ e r) = (N : Int) := by omega
  rw [R_programAt]
  simp only [Option.bind_some, jn, hm, iI_lit]
  rw [gd_iI (by omega) (by omega) (by omega), mI_at (by omega) (by omega), hN']
  obtain ⟨a1, a2, a3, a4⟩ := flZ_ok hW he he' hr hr' N hN N (by omega)
  simp only [R_flawL hm hW he he' hr hr' N hN]
  rw [if_eq (by omega) (by omega) (by omega) (by omega)]
  unfold flawZ
  rw [← hN, hN']
  by_cases q : (N : Int) = 0
  · rw [if_pos q, if_pos q]
  · rw [if_neg q, if_neg q]
    have e0 := hR (ruleZ r 0); have e1 := hR (ruleZ r 1); have e2 := hR (ruleZ r 2); have e3 := hR (ruleZ r 3); have e4 := hR (ruleZ r 4)
    have f0 : 102 + 6 * r + 0 = ruleZ r 0 := rfl
    have f1 : 102 + 6 * r + 1 = ruleZ r 1 := rfl
    have f2 : 102 + 6 * r + 2 = ruleZ r 2 := rfl
    have f3 : 102 + 6 * r + 3 = ruleZ r 3 := rfl
    have f4 : 102 + 6 * r + 4 = ruleZ r 4 := rfl
    simp only [iI_add, iI_mul, f0, f1, f2, f3, f4, if_bz, iI_neg]
    rw [gd_iI (by omega) (by omega) (by omega), mI_at (by omega) (by omega), if_le (by omega) (by omega) (by omega) (by omega)]
    by_cases q0 : M (ruleZ r 0) ≤ (flZ M e r N N).1
    · rw [if_pos q0, if_pos q0, gd_iI (by omega) (by omega) (by omega), mI_at (by omega) (by omega), if_le (by omega) (by omega) (by omega) (by omega)]
      by_cases q1 : (flZ M e r N N).1 ≤ M (ruleZ r 1)
      · rw [if_pos q1, if_pos q1, gd_iI (by omega) (by omega) (by omega), mI_at (by omega) (by omega)]
        by_cases q2 : (iI (M (ruleZ r 2)) &&& ((flZ M e r N N).2.1 ^^^ iI (-1))) = iI 0
        · rw [if_pos q2, if_pos q2, gd_iI (by omega) (by omega) (by omega), mI_at (by omega) (by omega), if_le (by omega) (by omega) (by omega) (by omega)]
          by_cases q3 : (flZ M e r N N).2.2.1 ≤ M (ruleZ r 3)
          · rw [if_pos q3, if_pos q3, gd_iI (by omega) (by omega) (by omega), mI_at (by omega) (by omega), if_eq (by omega) (by omega) (by omega) (by omega)]
            by_cases q4 : M (ruleZ r 4) = 1
            · rw [if_pos q4]
              cases h : (flZ M e r N N).2.2.2 with
              | false => rw [if_neg (show ¬ false = true by decide), if_neg (fun h => nomatch h.2)]
              | true => rw [if_pos (show true = true from rfl), if_pos ⟨q4, rfl⟩]
            · rw [if_neg q4, if_neg (fun h => q4 h.1)]
          · rw [if_neg q3, if_neg q3]
        · rw [if_neg q2, if_neg q2]
      · rw [if_neg q1, if_neg q1]
    · rw [if_neg q0, if_neg q0]
end RF
