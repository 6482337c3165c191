section CQ
variable {M : Int → Int}
def cW (W : SX10) (M : Int → Int) : Prop := gX10_count W = iI (M 5) ∧ ∀ k : Int, 0 ≤ k → k < M 5 → gX10_composers W k.toNat = iI (M (12 + 3 * k)) ∧ gX10_eras W k.toNat = iI (M (12 + 3 * k + 1)) ∧ gX10_lengths W k.toNat = iI (M (12 + 3 * k + 2))
def cE (E : SX2) (M : Int → Int) : Prop := gX2_count E = iI (M 6) ∧ ∀ e : Int, 0 ≤ e → e < 12 → gX2_in E e.toNat = iI (M (126 + e))
def cR (R : Nat → Nat → Int32) (M : Int → Int) : Prop := ∀ r i : Int, 0 ≤ r → r < 4 → 0 ≤ i → i < 6 → R r.toNat i.toNat = iI (M (ruleZ r i))
def cP (P : SX4) (M : Int → Int) : Prop := ∀ e r k : Int, 0 ≤ e → e < 12 → 0 ≤ r → r < 4 → 0 ≤ k → k < 4 → gX4_places P ((e * 4 + r) * 4 + k).toNat = iI (workAtZ M e r k)
def cJ (J : SX3) (M : Int → Int) : Prop := gX3_size J = iI (M 0) ∧ ∀ j e : Int, 0 ≤ j → j < 7 → 0 ≤ e → e < 12 → gX3_barred J j.toNat e.toNat = iI (M (378 + (12 * j + e)))
def cS (T : SX7) (M : Int → Int) : Prop := gX7_players T = iI (M 7) ∧ gX7_played T = iI (M 8) ∧ gX7_seed T = Int64.ofInt (M 11) ∧ (∀ k : Int, 0 ≤ k → k < M 7 → gX7_order T k.toNat = iI (M (462 + k))) ∧ ∀ e : Int, 0 ≤ e → e < 12 → gX7_slips T e.toNat = iI (if hpZ M e = true then M (474 + e) else -1)
def cH (H : SX6) (M : Int → Int) (row : Int) : Prop := ∀ j e : Int, 0 ≤ j → j < 7 → 0 ≤ e → e < 12 → gX6_rows H j.toNat e.toNat = iI (M (row + (12 * j + e)))
def cT (T : SX9) (M : Int → Int) : Prop := gX9_number T = iI (M 10) ∧ gX9_places T = iI (M 9) ∧ (∀ e : Int, 0 ≤ e → e < 12 → gX9_tied T e.toNat = iI (M (654 + e))) ∧ cH (gX9_sheet T) M 570
def cC (R : Nat → Nat → Int32) (M : Int → Int) : Prop := ∀ r e : Int, 0 ≤ r → r < 4 → 0 ≤ e → e < 12 → R r.toNat e.toNat = iI (M (666 + 4 * e + r))
theorem C_between {a b c : Int} (h1 : -2147483648 ≤ a) (h2 : a < 2147483648) (h3 : -2147483648 ≤ b) (h4 : b < 2147483648) (h5 : -2147483648 ≤ c) (h6 : c < 2147483648) :
    DX11_isBetween (iI a) (iI b) (iI c) = some (bI (decide (b ≤ a ∧ a ≤ c))) := R_in h1 h2 h3 h4 h5 h6
theorem C_has10 {W : SX10} (h : cW W M) (h5 : 0 ≤ M 5) (h5' : M 5 ≤ 30) {w : Int} (hw : -2147483648 ≤ w) (hw' : w < 2147483648) : DX10_has W (iI w) = some (bI (decide (0 ≤ w ∧ w < M 5))) := by
  unfold DX10_has
  rw [h.1]
  simp only [iI_lit, jn]
  simp (disch := omega) only [if_lt, if_le]
  by_cases q1 : w < 0
  · rw [if_pos q1, decide_eq_false (by omega)]; rfl
  · rw [if_neg q1]
    by_cases q2 : M 5 ≤ w
    · rw [if_pos q2, decide_eq_false (by omega)]; rfl
    · rw [if_neg q2, if_neg (by omega), decide_eq_true (by omega)]; rfl
theorem C_comp {W : SX10} (h : cW W M) (h5 : 0 ≤ M 5) (h5' : M 5 ≤ 30) {w : Int} (hw : -1 ≤ w) (hw' : w < M 5) : DX10_composerOf W (iI w) = some (iI (if w = -1 then -1 else M (12 + 3 * w))) := by
  unfold DX10_composerOf
  rw [C_has10 h h5 h5' (by omega) (by omega)]
  simp only [Option.bind_some, iI_lit, jn, if_bz, iI_neg]
  by_cases q : w = -1
  · rw [if_pos q, decide_eq_false (by omega), if_neg (by decide)]
  · rw [if_neg q, decide_eq_true (by omega), if_pos (show true = true from rfl), gd_iI (by omega) (by omega) (by omega), iI_nat (by omega) (by omega), (h.2 w (by omega) hw').1]
theorem C_era {W : SX10} (h : cW W M) (h5 : 0 ≤ M 5) (h5' : M 5 ≤ 30) {w : Int} (hw : -1 ≤ w) (hw' : w < M 5) : DX10_eraOf W (iI w) = some (iI (if w = -1 then -1 else M (12 + 3 * w + 1))) := by
  unfold DX10_eraOf
  rw [C_has10 h h5 h5' (by omega) (by omega)]
  simp only [Option.bind_some, iI_lit, jn, if_bz, iI_neg]
  by_cases q : w = -1
  · rw [if_pos q, decide_eq_false (by omega), if_neg (by decide)]
  · rw [if_neg q, decide_eq_true (by omega), if_pos (show true = true from rfl), gd_iI (by omega) (by omega) (by omega), iI_nat (by omega) (by omega), (h.2 w (by omega) hw').2.1]
theorem C_mins {W : SX10} (h : cW W M) (h5 : 0 ≤ M 5) (h5' : M 5 ≤ 30) {w : Int} (hw : -1 ≤ w) (hw' : w < M 5) : DX10_minutesOf W (iI w) = some (iI (if w = -1 then 0 else M (12 + 3 * w + 2))) := by
  unfold DX10_minutesOf
  rw [C_has10 h h5 h5' (by omega) (by omega)]
  simp only [Option.bind_some, iI_lit, jn, if_bz, iI_neg]
  by_cases q : w = -1
  · rw [if_pos q, decide_eq_false (by omega), if_neg (by decide)]
  · rw [if_neg q, decide_eq_true (by omega), if_pos (show true = true from rfl), gd_iI (by omega) (by omega) (by omega), iI_nat (by omega) (by omega), (h.2 w (by omega) hw').2.2]
theorem C_fact {W : SX10} (h : cW W M) (h5 : 0 ≤ M 5) (h5' : M 5 ≤ 30) {w i : Int} (hw : 0 ≤ w) (hw' : w < M 5) (hi : 0 ≤ i) (hi' : i < 3) : DX10_fact W (iI w) (iI i) = some (iI (M (12 + 3 * w + i))) := by
  unfold DX10_fact
  rw [C_comp h h5 h5' (by omega) hw', C_era h h5 h5' (by omega) hw', C_mins h h5 h5' (by omega) hw']
  simp only [Option.bind_some, iI_lit]
  simp (disch := omega) only [if_eq]
  rw [if_neg (show ¬ w = -1 by omega), if_neg (show ¬ w = -1 by omega), if_neg (show ¬ w = -1 by omega)]
  by_cases q : i = 0
  · rw [if_pos q, q, Int.add_zero]
  · rw [if_neg q]
    by_cases q1 : i = 1
    · rw [if_pos q1, q1]
    · rw [if_neg q1, show i = 2 by omega]
theorem C_has2 {E : SX2} (h : cE E M) (h6 : 0 ≤ M 6) (h6' : M 6 ≤ 12) {e : Int} (he : -2147483648 ≤ e) (he' : e < 2147483648) : DX2_has E (iI e) = some (bI (decide (0 ≤ e ∧ e < M 6))) := by
  unfold DX2_has
  rw [h.1]
  simp only [iI_lit, jn]
  simp (disch := omega) only [if_lt, if_le]
  by_cases q1 : e < 0
  · rw [if_pos q1, decide_eq_false (by omega)]; rfl
  · rw [if_neg q1]
    by_cases q2 : M 6 ≤ e
    · rw [if_pos q2, decide_eq_false (by omega)]; rfl
    · rw [if_neg q2, if_neg (by omega), decide_eq_true (by omega)]; rfl
theorem C_isIn {E : SX2} (h : cE E M) (hI : inI M) (h6 : 0 ≤ M 6) (h6' : M 6 ≤ 12) {e : Int} (he : 0 ≤ e) (he' : e < 12) : DX2_isIn E (iI e) = some (iI (M (126 + e))) := by
  have h1 := hI e he he'
  unfold DX2_isIn
  rw [C_has2 h h6 h6' (by omega) (by omega)]
  simp only [Option.bind_some, iI_lit, jn, if_bz]
  rw [gd_iI (by omega) (by omega) (by omega), iI_nat (by omega) (by omega), h.2 e he he']
  simp (disch := omega) only [if_eq]
  by_cases q : 0 ≤ e ∧ e < M 6
  · rw [decide_eq_true q, if_pos (show true = true from rfl)]
    rcases h1.1 with h2 | h2
    · rw [h2]; rfl
    · rw [h2]; rfl
  · rw [decide_eq_false q, if_neg (show ¬ false = true by decide), h1.2 (by omega)]; rfl
theorem C_countIn {E : SX2} (h : cE E M) (hI : inI M) (hT : stI M) : DX2_countIn E = some (iI (countInZ M)) := by
  obtain ⟨t0, t1, t2, t3, t4, t6, t7, t8⟩ := hT
  unfold DX2_countIn
  simp only [iI_lit]
  refine upL (fun f j => DX2_countIn_L4 E _ f (iI (sm (fun e => M (126 + e)) j)) (iI j)) _ (M 6).toNat ?_ ?_ fu (by unfold fu; omega)
  · intro f j hj
    show DX2_countIn_L4 _ _ _ _ _ = _
    have h1 := (hI j (by omega) (by omega)).1
    rw [DX2_countIn_L4, h.1]
    simp only [iI_lit, iI_add, jn]
    rw [if_le (by omega) (by omega) (by omega) (by omega), if_neg (by omega), C_isIn h hI (by omega) (by omega) (by omega) (by omega), sm, show ((j + 1 : Nat) : Int) = (j : Int) + 1 by omega]
    simp only [Option.bind_some]
    rcases h1 with h2 | h2
    · rw [h2]; simp
    · rw [h2]; rfl
  · intro f
    show DX2_countIn_L4 _ _ _ _ _ = _
    rw [DX2_countIn_L4, h.1]
    rw [if_le (by omega) (by omega) (by omega) (by omega), if_pos (by omega)]
    rfl
theorem C_isBarred {J : SX3} (h : cJ J M) (hR : rg M) {j e : Int} (hj : 0 ≤ j) (hj' : j < 7) (he : 0 ≤ e) (he' : e < 12) : DX3_isBarred J (iI j) (iI e) = some (bI (isBarredZ M j e)) := by
  have hr := hR (378 + (12 * j + e))
  unfold DX3_isBarred isBarredZ
  simp only [iI_lit, jn]
  simp (disch := omega) only [if_lt, if_le, gd_iI, iI_nat]
  rw [h.2 j e hj hj' he he']
  rw [if_neg (by omega), if_neg (by omega), if_neg (by omega), if_neg (by omega)]
  simp (disch := omega) only [if_eq, Int.reduceEq, reduceIte]
  by_cases q : M (378 + (12 * j + e)) = 1
  · rw [if_pos q, decide_eq_true q]; rfl
  · rw [if_neg q, decide_eq_false q]; rfl
theorem C_at {H : SX6} {row : Int} (h : cH H M row) {j e : Int} (hj : 0 ≤ j) (hj' : j < 7) (he : 0 ≤ e) (he' : e < 12) : DX6_at H (iI j) (iI e) = some (iI (M (row + (12 * j + e)))) := by
  unfold DX6_at
  simp only [iI_lit, jn]
  simp (disch := omega) only [if_lt, if_le, gd_iI, iI_nat]
  rw [h j e hj hj' he he', if_neg (by omega), if_neg (by omega), if_neg (by omega), if_neg (by omega)]
  simp (disch := omega) only [if_eq, Int.reduceEq, reduceIte]
theorem C_counts {J : SX3} {H : SX6} {row : Int} (hJ : cJ J M) (h : cH H M row) (hR : rg M) {j e : Int} (hj : 0 ≤ j) (hj' : j < 7) (he : 0 ≤ e) (he' : e < 12) : DX3_counts J H (iI j) (iI e) = some (bI (countsZ M row j e)) := by
  have hr := hR (row + (12 * j + e))
  unfold DX3_counts countsZ
  rw [C_at h hj hj' he he', C_isBarred hJ hR hj hj' he he']
  simp only [Option.bind_some, iI_lit, jn, if_bz]
  simp (disch := omega) only [if_lt]
  by_cases q : M (row + (12 * j + e)) < 0
  · rw [if_pos q, decide_eq_false (by omega)]; rfl
  · rw [if_neg q, decide_eq_true (by omega)]
    cases isBarredZ M j e <;> rfl
theorem C_countMarks {J : SX3} {H : SX6} {row : Int} (hJ : cJ J M) (h : cH H M row) (hR : rg M) (hT : stI M) {e : Int} (he : 0 ≤ e) (he' : e < 12) : DX3_countMarks J H (iI e) = some (iI (countingZ M row e)) := by
  obtain ⟨t0, t1, t2, t3, t4, t6, t7, t8⟩ := hT
  unfold DX3_countMarks
  simp only [iI_lit]
  refine upL (fun f j => DX3_countMarks_L5 J H (iI e) (fun v => some v) f (iI (cn (fun j => countsZ M row j e) j)) (iI j)) _ (M 0).toNat ?_ ?_ fu (by unfold fu; omega)
  · intro f j hj
    show DX3_countMarks_L5 _ _ _ _ _ _ _ = _
    rw [DX3_countMarks_L5, hJ.1]
    simp only [iI_lit, iI_add, jn]
    rw [if_le (by omega) (by omega) (by omega) (by omega), if_neg (by omega), C_counts hJ h hR (by omega) (by omega) he he']
    simp only [Option.bind_some, if_bz]
    rw [show ((j + 1 : Nat) : Int) = (j : Int) + 1 by omega, cn]
    cases countsZ M row j e <;> simp
  · intro f
    show DX3_countMarks_L5 _ _ _ _ _ _ _ = _
    rw [DX3_countMarks_L5, hJ.1]
    rw [if_le (by omega) (by omega) (by omega) (by omega), if_pos (by omega)]
    rfl
end CQ
