section CM
variable {M : Int → Int}
/-- the effective marks where one juror's mark is another -/
def emC (M : Int → Int) (row e w v j : Int) : Int := if isBarredZ M j e = true then -1 else if j = w then v else M (row + (12 * j + e))
theorem C_meanL {J : SX3} {H : SX6} {row : Int} (hJ : cJ J M) (h : cH H M row) (hR : rg M) (hT : stI M) {e w v : Int} (he : 0 ≤ e) (he' : e < 12) (hw : -1 ≤ w) (hw' : w < 7) (hv : -2147483648 ≤ v) (hv' : v ≤ 100) (hk : ∀ j : Int, 0 ≤ j → j < 7 → M (row + (12 * j + e)) ≤ 100) (hem : ∀ k : Nat, k < (M 0).toNat → emC M row e w v k ≤ 100)
    (k : Int32 → Int32 → Int32 → Int32 → Option Int32) :
    DX3_meanIf_L16 J H (iI e) (iI w) (iI v) k fu (iI 0) (iI 0) (iI 100) (iI 0) (iI 0) = k (iI (mfold (emC M row e w v) (M 0).toNat).1) (iI (mfold (emC M row e w v) (M 0).toNat).2.1) (iI (mfold (emC M row e w v) (M 0).toNat).2.2.1) (iI (mfold (emC M row e w v) (M 0).toNat).2.2.2) := by
  obtain ⟨t0, t1, t2, t3, t4, t6, t7, t8⟩ := hT
  refine upL (fun f j => DX3_meanIf_L16 J H (iI e) (iI w) (iI v) k f (iI (mfold (emC M row e w v) j).1) (iI (mfold (emC M row e w v) j).2.1) (iI (mfold (emC M row e w v) j).2.2.1) (iI (mfold (emC M row e w v) j).2.2.2) (iI j)) _ (M 0).toNat ?_ ?_ fu (by unfold fu; omega)
  · intro f j hj
    show DX3_meanIf_L16 _ _ _ _ _ _ _ _ _ _ _ _ = _
    obtain ⟨a1, a2, a3, a4, a5, a6, a7, a8, -⟩ := mfold_ok (emC M row e w v) j (fun k hk9 => hem k (by omega))
    have r1 := hR (row + (12 * j + e))
    have r2 := hk j (by omega) (by omega)
    rw [DX3_meanIf_L16, hJ.1]
    simp only [iI_lit, iI_add, jn]
    rw [if_le (by omega) (by omega) (by omega) (by omega), if_neg (by omega), if_eq (by omega) (by omega) (by omega) (by omega), C_at h (by omega) (by omega) he he', C_isBarred hJ hR (by omega) (by omega) he he']
    rw [show ((j + 1 : Nat) : Int) = (j : Int) + 1 by omega, mfold]
    simp only [Option.bind_some, if_bz, iI_add]
    have hx : emC M row e w v j = if isBarredZ M j e = true then -1 else if (j : Int) = w then v else M (row + (12 * j + e)) := rfl
    obtain ⟨x, x1, x2, hX, hx9⟩ : ∃ x : Int, -2147483648 ≤ x ∧ x ≤ 100 ∧ emC M row e w v j = (if isBarredZ M j e = true then -1 else x) ∧ x = (if (j : Int) = w then v else M (row + (12 * j + e))) := by
      by_cases q : (j : Int) = w
      · exact ⟨v, hv, hv', by rw [hx, if_pos q], by rw [if_pos q]⟩
      · exact ⟨M (row + (12 * j + e)), r1.1, r2, by rw [hx, if_neg q], by rw [if_neg q]⟩
    generalize emC M row e w v j = X at *
    generalize isBarredZ M j e = B at *
    generalize mfold (emC M row e w v) j = Q at *
    have fin : (if iI x < iI 0 then DX3_meanIf_L16 J H (iI e) (iI w) (iI v) k f (iI Q.1) (iI Q.2.1) (iI Q.2.2.1) (iI Q.2.2.2) (iI (j + 1)) else
        if B = true then DX3_meanIf_L16 J H (iI e) (iI w) (iI v) k f (iI Q.1) (iI Q.2.1) (iI Q.2.2.1) (iI Q.2.2.2) (iI (j + 1)) else
        DX3_meanIf_L16 J H (iI e) (iI w) (iI v) k f (iI (Q.1 + 1)) (iI (Q.2.1 + x)) (if iI x < iI Q.2.2.1 then iI x else iI Q.2.2.1) (if iI Q.2.2.2 < iI x then iI x else iI Q.2.2.2) (iI (j + 1))) =
        DX3_meanIf_L16 J H (iI e) (iI w) (iI v) k f (iI (if X < 0 then Q else (Q.1 + 1, Q.2.1 + X, (if Q.2.2.1 ≤ X then Q.2.2.1 else X), (if X ≤ Q.2.2.2 then Q.2.2.2 else X))).1) (iI (if X < 0 then Q else (Q.1 + 1, Q.2.1 + X, (if Q.2.2.1 ≤ X then Q.2.2.1 else X), (if X ≤ Q.2.2.2 then Q.2.2.2 else X))).2.1) (iI (if X < 0 then Q else (Q.1 + 1, Q.2.1 + X, (if Q.2.2.1 ≤ X then Q.2.2.1 else X), (if X ≤ Q.2.2.2 then Q.2.2.2 else X))).2.2.1) (iI (if X < 0 then Q else (Q.1 + 1, Q.2.1 + X, (if Q.2.2.1 ≤ X then Q.2.2.1 else X), (if X ≤ Q.2.2.2 then Q.2.2.2 else X))).2.2.2) (iI (j + 1)) := by
      rw [if_lt (by omega) (by omega) (by omega) (by omega), if_lt (by omega) (by omega) (by omega) (by omega), if_lt (by omega) (by omega) (by omega) (by omega)]
      cases B with
      | true =>
        rw [hX, if_pos (show true = true from rfl), if_pos (show true = true from rfl), if_pos (show (-1 : Int) < 0 by decide)]
        split <;> rfl
      | false =>
        rw [hX, if_neg (show ¬ false = true by decide), if_neg (show ¬ false = true by decide)]
        by_cases q : x < 0
        · rw [if_pos q, if_pos q]
        · rw [if_neg q, if_neg q]
          have e1 : (if x < Q.2.2.1 then iI x else iI Q.2.2.1) = iI (if Q.2.2.1 ≤ x then Q.2.2.1 else x) := by split <;> split <;> first | rfl | (exfalso; omega)
          have e2 : (if Q.2.2.2 < x then iI x else iI Q.2.2.2) = iI (if x ≤ Q.2.2.2 then Q.2.2.2 else x) := by split <;> split <;> first | rfl | (exfalso; omega)
          rw [e1, e2]
    rw [← fin]
    by_cases q : (j : Int) = w
    · rw [if_pos q] at hx9 ⊢
      rw [hx9]
    · rw [if_neg q] at hx9 ⊢
      rw [hx9]
  · intro f
    show DX3_meanIf_L16 _ _ _ _ _ _ _ _ _ _ _ _ = _
    rw [DX3_meanIf_L16, hJ.1, if_le (by omega) (by omega) (by omega) (by omega), if_pos (by omega)]
theorem C_meanIf {J : SX3} {H : SX6} {row : Int} (hJ : cJ J M) (h : cH H M row) (hR : rg M) (hT : stI M) {e w v : Int} (he : 0 ≤ e) (he' : e < 12) (hw : -1 ≤ w) (hw' : w < 7) (hv : -2147483648 ≤ v) (hv' : v ≤ 100) (hk : ∀ j : Int, 0 ≤ j → j < 7 → M (row + (12 * j + e)) ≤ 100) :
    DX3_meanIf J H (iI e) (iI w) (iI v) = some (iI (meanZ (emC M row e w v) (M 0).toNat)) := by
  have hT' := hT
  obtain ⟨t0, t1, t2, t3, t4, t6, t7, t8⟩ := hT
  have hem : ∀ k : Nat, k < (M 0).toNat → emC M row e w v k ≤ 100 := by
    intro k hk9
    unfold emC
    have := hk k (by omega) (by omega)
    split
    · omega
    · split <;> omega
  unfold DX3_meanIf
  simp only [iI_lit, iI_neg]
  simp only [C_meanL hJ h hR hT' he he' hw hw' hv hv' hk hem]
  obtain ⟨a1, a2, a3, a4, a5, a6, a7, a8, a9, a10, a11, a12⟩ := mfold_ok (emC M row e w v) (M 0).toNat hem
  simp only [iI_add, iI_sub, iI_mul, jn_eq]
  unfold meanZ
  generalize mfold (emC M row e w v) (M 0).toNat = Q at *
  simp (disch := omega) only [if_lt, if_le]
  by_cases q4 : Q.1 < 4
  · rw [if_pos q4]
    by_cases q : Q.1 ≤ 0
    · rw [if_pos q, if_pos (show Q.1 = 0 by omega)]
    · rw [if_neg q, if_neg (show ¬ Q.1 = 0 by omega), if_neg (show ¬ 4 ≤ Q.1 by omega), gz_iI (by omega) (by omega) (by omega), iI_div (by omega) (by omega) (by omega) (by omega), Int.mul_comm]
  · have := a12 (by omega)
    rw [if_neg q4, if_neg (show ¬ Q.1 + -2 ≤ 0 by omega), if_neg (show ¬ Q.1 = 0 by omega), if_pos (show 4 ≤ Q.1 by omega), gz_iI (by omega) (by omega) (by omega), iI_div (by omega) (by omega) (by omega) (by omega), Int.mul_comm, show Q.2.1 - (Q.2.2.1 + Q.2.2.2) = Q.2.1 - Q.2.2.1 - Q.2.2.2 by omega, show Q.1 + -2 = Q.1 - 2 by omega]
theorem emC_em {row e w : Int} {n : Nat} : meanZ (emC M row e w (-1)) n = meanZ (emZ M row e w) n := by
  refine meanZ_congr fun k hk => ?_
  unfold emC emZ countsZ
  by_cases q : (k : Int) = w
  · rw [if_pos q, if_pos q]
    right
    constructor
    · split <;> decide
    · decide
  · rw [if_neg q, if_neg q]
    cases isBarredZ M k e with
    | true => right; rw [if_pos (show true = true from rfl), Bool.not_true, Bool.and_false, if_neg (show ¬ false = true by decide)]; exact ⟨by decide, by decide⟩
    | false =>
      by_cases q2 : 0 ≤ M (row + (12 * k + e))
      · left
        rw [if_neg (show ¬ false = true by decide), decide_eq_true q2]; rfl
      · right
        rw [if_neg (show ¬ false = true by decide), decide_eq_false q2, if_neg (show ¬ (false && !false) = true by decide)]
        exact ⟨by omega, by decide⟩
theorem C_slipsOf {T : SX7} (h : cS T M) {e : Int} (he : 0 ≤ e) (he' : e < 12) : DX7_slipsOf T (iI e) = some (iI (if hpZ M e = true then M (474 + e) else -1)) := by
  unfold DX7_slipsOf
  simp only [iI_lit, jn, iI_neg]
  rw [C_between (by omega) (by omega) (by omega) (by omega) (by omega) (by omega)]
  simp only [Option.bind_some, if_bz]
  rw [decide_eq_true (by omega), if_pos (show true = true from rfl), gd_iI (by omega) (by omega) (by omega), iI_nat (by omega) (by omega), h.2.2.2.2 e he he']
theorem C_hasPlayed {T : SX7} (h : cS T M) (hs : slI M) (hR : rg M) {e : Int} (he : 0 ≤ e) (he' : e < 12) : DX7_hasPlayed T (iI e) = some (bI (hpZ M e)) := by
  unfold DX7_hasPlayed
  have := hR (474 + e)
  rw [C_slipsOf h he he']
  simp only [Option.bind_some, iI_lit, jn, iI_neg]
  cases hp : hpZ M e with
  | true =>
    have := hs e he he' hp
    rw [if_pos (show true = true from rfl), if_eq (by omega) (by omega) (by omega) (by omega), if_neg (by omega)]; rfl
  | false => rw [if_neg (show ¬ false = true by decide)]; rfl
/-- no mark stands with one who has not played -/
def npI (M : Int → Int) : Prop := ∀ j e : Int, 0 ≤ j → j < 7 → 0 ≤ e → e < 12 → hpZ M e = false → M (486 + (12 * j + e)) = -1
theorem mean_np (hN : npI M) (hT : stI M) {e : Int} (he : 0 ≤ e) (he' : e < 12) (h : hpZ M e = false) (w : Int) : meanZ (emZ M 486 e w) (M 0).toNat = -1 := by
  refine meanZ_none fun k hk => ?_
  have := hN k e (by omega) (by have := hT.1; omega) he he' h
  unfold emZ
  rw [this]
  split
  · decide
  · split <;> decide
end CM
