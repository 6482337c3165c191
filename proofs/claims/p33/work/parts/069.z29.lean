section BT
variable {M N X : Int → Int}
theorem dr_rg (hR : rg X) (P : Int) : ∀ n : Nat, rg (drZ X P n) := by
  intro n
  induction n with
  | zero => exact hR
  | succ n ih =>
    rw [drZ]
    have := ds_b (drZ X P n)
    exact rg_upd (rg_upd (rg_upd ih (by omega) (by omega)) (ih _).1 (ih _).2) (ih _).1 (ih _).2
/-- what a round's beginning takes for granted -/
def preI (M : Int → Int) : Prop := rg M ∧ (3 ≤ M 0 ∧ M 0 ≤ 7) ∧ (1 ≤ M 1 ∧ M 1 ≤ 4) ∧ (0 ≤ M 2 ∧ M 2 ≤ 100) ∧ (0 ≤ M 6 ∧ M 6 ≤ 12) ∧ wkI M ∧ inI M ∧ ruI M ∧ baI M ∧ 0 ≤ M 11 ∧ ∀ e r : Int, 0 ≤ e → e < 12 → 0 ≤ r → r < 4 → M 6 ≤ e → M (666 + 4 * e + r) = -1
theorem br_0 (h6' : M 6 ≤ 12) (r : Int) {k : Int} (hk : ¬ (k = 11 ∨ (462 ≤ k ∧ k < 474))) : brZ M r k = br0 M r k := by
  have b7 := bg_7 (M := M) r (M 6).toNat
  have g7 : br0 M r 7 = bgZ M r (M 6).toNat 7 := updI_ne (by decide)
  unfold brZ
  by_cases q : 1 ≤ br0 M r 7
  · exact dr_fr (by omega) _ (by omega) k hk
  · rw [show (br0 M r 7 - 1).toNat = 0 by omega]; rfl
theorem br_m0 (h6' : M 6 ≤ 12) (r : Int) {k : Int} (hk : ¬ (k = 3 ∨ k = 7 ∨ k = 11 ∨ (126 ≤ k ∧ k < 138) ∨ (462 ≤ k ∧ k < 474))) : brZ M r k = m0Z M r k := by
  rw [br_0 h6' r (by omega)]
  unfold br0
  rw [updI_ne (by omega)]
  exact bg_fr r _ (by omega) k (by omega)
theorem br_m (h6' : M 6 ≤ 12) (r : Int) {k : Int} (hk : ¬ (k = 3 ∨ k = 4 ∨ (7 ≤ k ∧ k ≤ 11) ∨ (126 ≤ k ∧ k < 138) ∨ (462 ≤ k ∧ k < 474) ∨ (486 ≤ k ∧ k < 666))) : brZ M r k = M k := by
  rw [br_m0 h6' r (by omega)]
  unfold m0Z
  rw [if_neg (by omega), if_neg (by omega), if_neg (by omega), if_neg (by omega), if_neg (by omega)]
theorem br_7 (h6' : M 6 ≤ 12) (r : Int) : brZ M r 7 = bgZ M r (M 6).toNat 7 := by
  rw [br_0 h6' r (by omega)]
  exact updI_ne (by decide)
theorem br_3 (h6' : M 6 ≤ 12) (r : Int) : brZ M r 3 = if bgZ M r (M 6).toNat 7 = 0 then 3 else 1 := by
  rw [br_0 h6' r (by omega)]
  exact updI_self _ _ _
theorem br_in (h6 : 0 ≤ M 6) (h6' : M 6 ≤ 12) (hI : inI M) (r : Int) {e : Int} (he : 0 ≤ e) (he' : e < 12) : brZ M r (126 + e) = if e < M 6 then (if selZ M r e = true then 1 else 0) else 0 := by
  rw [br_0 h6' r (by omega)]
  unfold br0
  rw [updI_ne (by omega)]
  by_cases q : e < M 6
  · rw [if_pos q]
    exact bg_in r _ (by omega) e he (by omega)
  · rw [if_neg q, bg_fr r _ (by omega) _ (by omega)]
    unfold m0Z
    rw [if_neg (by omega), if_neg (by omega), if_neg (by omega), if_neg (by omega), if_neg (by omega)]
    exact (hI e he he').2 (by omega)
theorem m0_at (r k : Int) : (k = 4 → m0Z M r k = r) ∧ ((7 ≤ k ∧ k ≤ 10) → m0Z M r k = 0) ∧ ((486 ≤ k ∧ k < 654) → m0Z M r k = -1) ∧ ((654 ≤ k ∧ k < 666) → m0Z M r k = 0) := by
  unfold m0Z
  refine ⟨fun h => ?_, fun h => ?_, fun h => ?_, fun h => ?_⟩
  · rw [if_neg (by omega), if_pos h]
  · rw [if_neg (by omega), if_neg (by omega), if_pos h]
  · rw [if_neg (by omega), if_neg (by omega), if_neg (by omega), if_pos h]
  · rw [if_neg (by omega), if_neg (by omega), if_neg (by omega), if_neg (by omega), if_pos h]
theorem hp_0 (h : X 8 = 0) (e : Int) : hpZ X e = false := by
  unfold hpZ
  rw [h]
  exact decide_eq_false (by omega)
theorem br_ord (h6 : 0 ≤ M 6) (h6' : M 6 ≤ 12) (r : Int) : ordI (brZ M r) := by
  have b7 := bg_7 (M := M) r (M 6).toNat
  obtain ⟨o1, o2⟩ := bg_od (M := M) r (M 6).toNat (by omega)
  have g7 : br0 M r 7 = bgZ M r (M 6).toNat 7 := updI_ne (by decide)
  have g6 : br0 M r 6 = M 6 := by unfold br0; rw [updI_ne (by decide)]; exact bg_m r (by omega) (by omega)
  have gk : ∀ k : Int, 0 ≤ k → k < 12 → br0 M r (462 + k) = bgZ M r (M 6).toNat (462 + k) := fun k h1 h2 => updI_ne (by omega)
  obtain ⟨d1, d2⟩ := dr_ord (M := br0 M r) (P := br0 M r 7) (by omega) (fun k h1 h2 => by
    rw [gk k h1 (by omega), g6]
    have := o1 k h1 (by omega)
    omega) (fun a b h1 h2 h3 h4 h5 => by
    rw [gk a h1 (by omega), gk b h3 (by omega)]
    by_cases q : a < b
    · have := o2 a b h1 q (by omega); omega
    · have := o2 b a h3 (by omega) (by omega); omega) (br0 M r 7 - 1).toNat (by omega)
  unfold ordI
  rw [br_7 h6' r, show brZ M r 6 = M 6 from br_m h6' r (by omega)]
  rw [g6] at d1
  rw [← g7]
  exact ⟨d1, fun i k h1 h2 h3 => d2 i k h1 (by omega) (by omega) h3 (by omega)⟩
theorem br_11 (h6' : M 6 ≤ 12) (r : Int) (h11 : 0 ≤ M 11) (hR : rg M) : 0 ≤ brZ M r 11 := by
  have b7 := bg_7 (M := M) r (M 6).toNat
  have g7 : br0 M r 7 = bgZ M r (M 6).toNat 7 := updI_ne (by decide)
  have r11 := hR 11
  have g11 : br0 M r 11 = M 11 := by unfold br0; rw [updI_ne (by decide)]; exact bg_m r (by omega) (by omega)
  exact (dr_11 (M := br0 M r) (P := br0 M r 7) (by omega) (by omega) (br0 M r 7 - 1).toNat (by omega)).1
theorem br_MK (h : preI M) {r : Int} (hr : 0 ≤ r) (hr' : r < 4) : MK (brZ M r) := by
  obtain ⟨hR, h0, h1, h2, h6, hW, hI, hru, hba, h11, hcl⟩ := h
  have b7 := bg_7 (M := M) r (M 6).toNat
  have g7 := br_7 h6.2 r
  have g3 := br_3 h6.2 r
  have g4 : brZ M r 4 = r := by rw [br_m0 h6.2 r (by omega)]; exact (m0_at r 4).1 rfl
  have g8 : brZ M r 8 = 0 := by rw [br_m0 h6.2 r (by omega)]; exact (m0_at r 8).2.1 (by omega)
  have g9 : brZ M r 9 = 0 := by rw [br_m0 h6.2 r (by omega)]; exact (m0_at r 9).2.1 (by omega)
  have g10 : brZ M r 10 = 0 := by rw [br_m0 h6.2 r (by omega)]; exact (m0_at r 10).2.1 (by omega)
  have gm : ∀ k : Int, 486 ≤ k → k < 654 → brZ M r k = -1 := fun k a b => by rw [br_m0 h6.2 r (by omega)]; exact (m0_at r k).2.2.1 (by omega)
  have gt : ∀ k : Int, 654 ≤ k → k < 666 → brZ M r k = 0 := fun k a b => by rw [br_m0 h6.2 r (by omega)]; exact (m0_at r k).2.2.2 (by omega)
  have g6 : brZ M r 6 = M 6 := br_m h6.2 r (by omega)
  have h3 : brZ M r 3 = 1 ∨ brZ M r 3 = 3 := by rw [g3]; split <;> omega
  refine ⟨⟨?_, ?_, wk_c (fun k hk => br_m h6.2 r (by omega)) hW, ?_, ?_, ?_, ?_, br_ord h6.1 h6.2 r, ?_, ru_c (fun k hk => br_m h6.2 r (by omega)) hru, ba_c (fun k hk => br_m h6.2 r (by omega)) hba, ?_, ?_⟩, ?_, ?_⟩
  · exact dr_rg (rg_upd (bg_rg hR hr hr' _ (by omega)) (by split <;> omega) (by split <;> omega)) _ _
  · unfold stI
    rw [show brZ M r 0 = M 0 from br_m h6.2 r (by omega), show brZ M r 1 = M 1 from br_m h6.2 r (by omega), show brZ M r 2 = M 2 from br_m h6.2 r (by omega), g4, g6, g7, g8]
    refine ⟨h0, h1, h2, by omega, by omega, h6, by omega, by omega⟩
  · intro e a b
    rw [br_in h6.1 h6.2 hI r a b, g6]
    refine ⟨?_, fun hq => if_neg (by omega)⟩
    split
    · split <;> omega
    · omega
  · intro e a b
    rw [gt _ (by omega) (by omega)]
    omega
  · intro j e a b c d
    rw [gm _ (by omega) (by omega), gm _ (by omega) (by omega)]
    omega
  · intro e a b c
    rw [hp_0 g8] at c
    cases c
  · intro j e a b c d f
    exact gm _ (by omega) (by omega)
  · unfold tyI
    rw [g7, g9, g10]
    refine ⟨fun e a b c => ?_, fun j e a b c d f => gm _ (by omega) (by omega), fun _ => ⟨rfl, rfl⟩, fun hq => by omega, by omega, by omega, fun hq => by omega, br_11 h6.2 r h11 hR⟩
    rw [gt _ (by omega) (by omega)] at c
    omega
  · intro j e a b c d
    rw [gm _ (by omega) (by omega), gm _ (by omega) (by omega)]
    omega
  · intro hq
    rw [g3] at hq
    rw [g7]
    by_cases q : bgZ M r (M 6).toNat 7 = 0
    · rw [if_pos q] at hq; omega
    · omega
  · intro e i a b c d f
    rw [g6] at f
    rw [br_m h6.2 r (by omega)]
    exact hcl e i a b c d f
theorem br_nz (hz : nz M) (h6' : M 6 ≤ 12) (r : Int) : nz (brZ M r) := by
  intro k hk
  rw [br_m h6' r (by omega)]
  exact hz k hk
end BT
