section FR
variable {M N : Int → Int}
theorem plc_c (h : ∀ k : Int, (k = 7 ∨ (462 ≤ k ∧ k < 474)) → N k = M k) (h7 : M 7 ≤ 12) (e : Int) : plcZ N e = plcZ M e := by
  unfold plcZ
  rw [h 7 (Or.inl rfl)]
  exact fst_congr _ fun k hk => by
    show decide (N (462 + k) = e) = decide (M (462 + k) = e)
    rw [h (462 + k) (by omega)]
theorem hp_c (h : ∀ k : Int, (k = 7 ∨ k = 8 ∨ (462 ≤ k ∧ k < 474)) → N k = M k) (h7 : M 7 ≤ 12) (e : Int) : hpZ N e = hpZ M e := by
  unfold hpZ
  rw [plc_c (fun k hk => h k (by omega)) h7, h 8 (by omega)]
theorem st_c (h : ∀ k : Int, 0 ≤ k → k ≤ 8 → N k = M k) (hT : stI M) : stI N := by
  unfold stI
  rw [h 0 (by omega) (by omega), h 1 (by omega) (by omega), h 2 (by omega) (by omega), h 3 (by omega) (by omega), h 4 (by omega) (by omega), h 6 (by omega) (by omega), h 7 (by omega) (by omega), h 8 (by omega) (by omega)]
  exact hT
theorem wk_c (h : ∀ k : Int, (k = 5 ∨ (12 ≤ k ∧ k < 102) ∨ (138 ≤ k ∧ k < 378)) → N k = M k) (hW : wkI M) : wkI N := by
  obtain ⟨h5, h1, h2⟩ := hW
  have e5 := h 5 (Or.inl rfl)
  refine ⟨by rw [e5]; exact h5, fun k a b => ?_, fun e r a b c d => ?_⟩
  · rw [e5] at b
    rw [h (12 + 3 * k) (by omega), h (12 + 3 * k + 1) (by omega), h (12 + 3 * k + 2) (by omega)]
    exact h1 k a b
  · have ec := h (cellZ e r) (by unfold cellZ; omega)
    obtain ⟨p, q⟩ := h2 e r a b c d
    rw [ec]
    refine ⟨p, fun k hk hk' => ?_⟩
    rw [h (cellZ e r + 1 + k) (by unfold cellZ at *; omega), e5]
    exact q k hk hk'
theorem in_c (h : ∀ k : Int, (k = 6 ∨ (126 ≤ k ∧ k < 138)) → N k = M k) (hI : inI M) : inI N := by
  intro e a b
  rw [h (126 + e) (by omega), h 6 (Or.inl rfl)]
  exact hI e a b
theorem ti_c (h : ∀ k : Int, (654 ≤ k ∧ k < 666) → N k = M k) (hI : tiI M) : tiI N := by
  intro e a b
  rw [h (654 + e) (by omega)]
  exact hI e a b
theorem mk_c (h : ∀ k : Int, (486 ≤ k ∧ k < 654) → N k = M k) (hI : mkI M) : mkI N := by
  intro j e a b c d
  rw [h (486 + (12 * j + e)) (by omega), h (570 + (12 * j + e)) (by omega)]
  exact hI j e a b c d
theorem ml_c (h : ∀ k : Int, (486 ≤ k ∧ k < 654) → N k = M k) (hI : mlI M) : mlI N := by
  intro j e a b c d
  rw [h (486 + (12 * j + e)) (by omega), h (570 + (12 * j + e)) (by omega)]
  exact hI j e a b c d
theorem sl_c (h : ∀ k : Int, (k = 7 ∨ k = 8 ∨ (462 ≤ k ∧ k < 486)) → N k = M k) (h7 : M 7 ≤ 12) (hI : slI M) : slI N := by
  intro e a b c
  rw [h (474 + e) (by omega)]
  rw [hp_c (fun k hk => h k (by omega)) h7] at c
  exact hI e a b c
theorem or_c (h : ∀ k : Int, (k = 6 ∨ k = 7 ∨ (462 ≤ k ∧ k < 474)) → N k = M k) (h7 : M 7 ≤ 12) (hI : ordI M) : ordI N := by
  obtain ⟨h1, h2⟩ := hI
  have e7 := h 7 (by omega)
  refine ⟨fun k a b => ?_, fun i k a b c => ?_⟩
  · rw [e7] at b
    rw [h (462 + k) (by omega), h 6 (Or.inl rfl)]
    exact h1 k a b
  · rw [e7] at c
    rw [h (462 + i) (by omega), h (462 + k) (by omega)]
    exact h2 i k a b c
theorem np_c (h : ∀ k : Int, (k = 7 ∨ k = 8 ∨ (462 ≤ k ∧ k < 474) ∨ (486 ≤ k ∧ k < 570)) → N k = M k) (h7 : M 7 ≤ 12) (hI : npI M) : npI N := by
  intro j e a b c d f
  rw [h (486 + (12 * j + e)) (by omega)]
  rw [hp_c (fun k hk => h k (by omega)) h7] at f
  exact hI j e a b c d f
theorem ru_c (h : ∀ k : Int, (102 ≤ k ∧ k < 126) → N k = M k) (hI : ruI M) : ruI N := by
  intro r a b
  rw [h (ruleZ r 5) (by unfold ruleZ; omega)]
  exact hI r a b
theorem ba_c (h : ∀ k : Int, (378 ≤ k ∧ k < 462) → N k = M k) (hI : baI M) : baI N := by
  intro j e a b c d
  rw [h (378 + (12 * j + e)) (by omega)]
  exact hI j e a b c d
theorem ty_c (h : ∀ k : Int, (k = 3 ∨ k = 7 ∨ (9 ≤ k ∧ k < 12) ∨ (462 ≤ k ∧ k < 474) ∨ (570 ≤ k ∧ k < 666)) → N k = M k) (h7 : M 7 ≤ 12) (hI : tyI M) : tyI N := by
  obtain ⟨h1, h2, h3, h4, h5, h6, h8, h9⟩ := hI
  have e3 := h 3 (by omega)
  have e7 := h 7 (by omega)
  have e9 := h 9 (by omega)
  have e10 := h 10 (by omega)
  have e11 := h 11 (by omega)
  unfold tyI
  rw [e3, e7, e9, e10, e11]
  refine ⟨fun e a b c => ?_, fun j e a b c d f => ?_, h3, h4, h5, h6, h8, h9⟩
  · rw [h (654 + e) (by omega)] at c
    rw [plc_c (fun k hk => h k (by omega)) h7]
    exact h1 e a b c
  · rw [h (654 + e) (by omega)] at f
    rw [h (570 + (12 * j + e)) (by omega)]
    exact h2 j e a b c d f
theorem x_c (h : ∀ k : Int, (k = 3 ∨ k = 6 ∨ k = 7 ∨ (666 ≤ k ∧ k < 714)) → N k = M k) (hI : xI M) : xI N := by
  unfold xI
  rw [h 3 (by omega), h 6 (by omega), h 7 (by omega)]
  refine ⟨hI.1, fun e r a b c d f => ?_⟩
  rw [h (666 + 4 * e + r) (by omega)]
  exact hI.2 e r a b c d f
theorem rg_upd {z v : Int} (h : rg M) (h1 : -2147483648 ≤ v) (h2 : v < 2147483648) : rg (updI M z v) := by
  intro k
  unfold updI
  split
  · exact ⟨h1, h2⟩
  · exact h k
variable {C : SX0}
theorem cW_c {W : SX10} (h : ∀ k : Int, (k = 5 ∨ (12 ≤ k ∧ k < 102)) → N k = M k) (h5 : M 5 ≤ 30) (hc : cW W M) : cW W N := by
  have e5 := h 5 (Or.inl rfl)
  refine ⟨by rw [e5]; exact hc.1, fun k a b => ?_⟩
  rw [e5] at b
  rw [h (12 + 3 * k) (by omega), h (12 + 3 * k + 1) (by omega), h (12 + 3 * k + 2) (by omega)]
  exact hc.2 k a b
theorem cE_c {E : SX2} (h : ∀ k : Int, (k = 6 ∨ (126 ≤ k ∧ k < 138)) → N k = M k) (hc : cE E M) : cE E N := by
  refine ⟨by rw [h 6 (Or.inl rfl)]; exact hc.1, fun e a b => ?_⟩
  rw [h (126 + e) (by omega)]
  exact hc.2 e a b
theorem cR_c {R : Nat → Nat → Int32} (h : ∀ k : Int, (102 ≤ k ∧ k < 126) → N k = M k) (hc : cR R M) : cR R N := by
  intro r i a b c d
  rw [h (ruleZ r i) (by unfold ruleZ; omega)]
  exact hc r i a b c d
theorem wa_c (h : ∀ k : Int, (138 ≤ k ∧ k < 378) → N k = M k) {e r k : Int} (a : 0 ≤ e) (b : e < 12) (c : 0 ≤ r) (d : r < 4) (hc : M (cellZ e r) ≤ 4) : workAtZ N e r k = workAtZ M e r k := by
  unfold workAtZ
  rw [h (cellZ e r) (by unfold cellZ; omega)]
  by_cases q : 0 ≤ k ∧ k ≤ M (cellZ e r) - 1
  · rw [if_pos q, if_pos q, h (cellZ e r + 1 + k) (by unfold cellZ at *; omega)]
  · rw [if_neg q, if_neg q]
theorem cP_c {P : SX4} (h : ∀ k : Int, (138 ≤ k ∧ k < 378) → N k = M k) (hW : wkI M) (hc : cP P M) : cP P N := by
  intro e r k a b c d f g
  rw [wa_c h a b c d (hW.2.2 e r a b c d).1.2]
  exact hc e r k a b c d f g
theorem cJ_c {J : SX3} (h : ∀ k : Int, (k = 0 ∨ (378 ≤ k ∧ k < 462)) → N k = M k) (hc : cJ J M) : cJ J N := by
  refine ⟨by rw [h 0 (Or.inl rfl)]; exact hc.1, fun j e a b c d => ?_⟩
  rw [h (378 + (12 * j + e)) (by omega)]
  exact hc.2 j e a b c d
theorem cS_c {T : SX7} (h : ∀ k : Int, (k = 7 ∨ k = 8 ∨ k = 11 ∨ (462 ≤ k ∧ k < 486)) → N k = M k) (h7 : M 7 ≤ 12) (hc : cS T M) : cS T N := by
  obtain ⟨h1, h2, h3, h4, h5⟩ := hc
  have e7 := h 7 (by omega)
  refine ⟨by rw [e7]; exact h1, by rw [h 8 (by omega)]; exact h2, by rw [h 11 (by omega)]; exact h3, fun k a b => ?_, fun e a b => ?_⟩
  · rw [e7] at b
    rw [h (462 + k) (by omega)]
    exact h4 k a b
  · rw [h (474 + e) (by omega), hp_c (fun k hk => h k (by omega)) h7]
    exact h5 e a b
theorem cH_c {H : SX6} {row : Int} (h : ∀ k : Int, (row ≤ k ∧ k < row + 84) → N k = M k) (hc : cH H M row) : cH H N row := by
  intro j e a b c d
  rw [h (row + (12 * j + e)) (by omega)]
  exact hc j e a b c d
theorem cT_c {T : SX9} (h : ∀ k : Int, (k = 9 ∨ k = 10 ∨ (570 ≤ k ∧ k < 666)) → N k = M k) (hc : cT T M) : cT T N := by
  obtain ⟨h1, h2, h3, h4⟩ := hc
  refine ⟨by rw [h 10 (by omega)]; exact h1, by rw [h 9 (by omega)]; exact h2, fun e a b => ?_, cH_c (fun k hk => h k (by omega)) h4⟩
  rw [h (654 + e) (by omega)]
  exact h3 e a b
theorem cC_c {R : Nat → Nat → Int32} (h : ∀ k : Int, (666 ≤ k ∧ k < 714) → N k = M k) (hc : cC R M) : cC R N := by
  intro r e a b c d
  rw [h (666 + 4 * e + r) (by omega)]
  exact hc r e a b c d
/-- the class's parts, each on its own -/
def CpP (st ro rs pe : Int32) (W : SX10) (E : SX2) (Ru : Nat → Nat → Int32) (P : SX4) (J : SX3) (T : SX7) (H : SX6) (Ti : SX9) (Cl : Nat → Nat → Int32) (M : Int → Int) : Prop := st = iI (M 3) ∧ ro = iI (M 4) ∧ rs = iI (M 1) ∧ pe = iI (M 2) ∧ cW W M ∧ cE E M ∧ cR Ru M ∧ cP P M ∧ cJ J M ∧ cS T M ∧ cH H M 486 ∧ cT Ti M ∧ cC Cl M
end FR
