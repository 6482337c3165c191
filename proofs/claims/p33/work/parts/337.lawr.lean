/-! the law's rules -/
section LR
variable {M N V : Int → Int} {T : SX11} {L cc : Int} {c : Int32 → Int32}
theorem law_rules (c2 c4 c5 : Int32) {W E a0 : Int} (k71 k73 : SX11 → Option Int32) (hE : E ≤ 12) (hP : ∀ T' N, S0 T' N → PQ N W E → N 0 = a0 → LK (k73 T')) : ∀ (d f : Nat) (T : SX11) (M : Int → Int) (i : Int), 8 - i = d → 0 ≤ i → d < f → S0 T M → PQ M W E → M 0 = a0 → LK (DL_law_L430 c c2 c4 c5 k71 k73 f (iI i) T) := by
  intro d
  induction d with
  | zero =>
    intro f T M i hd h0 hf h hq ha
    obtain ⟨g, rfl⟩ : ∃ g, f = g + 1 := ⟨f - 1, by omega⟩
    rw [DL_law_L430]
    simp only [lits]
    rw [if_le (by omega) (by omega) (by omega) (by omega), if_pos (by omega)]
    exact hP T M h hq ha
  | succ d ih =>
    intro f T M i hd h0 hf h hq ha
    obtain ⟨g, rfl⟩ : ∃ g, f = g + 1 := ⟨f - 1, by omega⟩
    rw [DL_law_L430]
    simp only [lits, lit9]
    rw [if_le (by omega) (by omega) (by omega) (by omega), if_neg (by omega)]
    simp only [iI_add]
    rw [gd_nn (by omega) (by omega)]
    generalize c (iI (13 + i)) = s
    simp only [lws, Option.bind_some, iI_add]
    have b1 := lw_b s (n := 3) (by omega)
    have b2 := lw_b (s >>> (iI 2 &&& iI 31)) (n := 6) (by omega)
    generalize lw s 3 = r at *
    generalize lw (s >>> (iI 2 &&& iI 31)) 6 = w at *
    generalize s >>> (iI 5 &&& iI 31) = y
    obtain ⟨q3, q4, q5, q6, q7, q8⟩ := id hq
    refine LKjn (fun j303 h303 => ?_)
    have key : ∀ v : Int, loR w ≤ v → v ≤ hiR w → LK (j303 (iI v) T) := by
      intro v hv hv'
      have rb := E_rule h.rr (r := r) (i := w) (by omega) (by omega) (by omega) (by omega)
      obtain ⟨T', e1, e2⟩ := E_setRule h (r := r) (w := w) (v := v) (by omega) (by omega) ⟨hv, hv'⟩ q3
      have st := e2.st
      have ra := E_rule st.rr (r := r) (i := w) (by omega) (by omega) (by omega) (by omega)
      rw [updI_self] at ra
      rw [h303]
      simp only [rb, e1, ra, Option.bind_some, if_true]
      have rw' : 102 ≤ ruleZ r w ∧ ruleZ r w < 126 := by unfold ruleZ; omega
      have fr : ∀ k : Int, k ≠ ruleZ r w → updI M (ruleZ r w) v k = M k := fun k hk => updI_ne hk
      refine ih g T' _ (i + 1) (by omega) (by omega) (by omega) st ⟨by rw [fr 3 (by omega), q3], by rw [fr 4 (by omega), q4], by rw [fr 5 (by omega), q5], by rw [fr 6 (by omega), q6], fun e h1 h2 => ?_, fun r' h1 h2 => ?_⟩ (by rw [fr 0 (by omega), ha])
      · rw [fr _ (by omega)]
        exact q7 e h1 h2
      · by_cases q : ruleZ r' 4 = ruleZ r w
        · have hw : w = 4 := by unfold ruleZ at q; omega
          rw [q, updI_self]
          unfold loR hiR at *
          subst hw
          simp at hv hv'
          omega
        · rw [fr _ q]
          exact q8 r' h1 h2
    clear h303
    have z1 := lw_b y (n := 12) (by omega)
    have z2 := lw_b y (n := 100) (by omega)
    have z3 := lw_b y (n := 4) (by omega)
    have z4 := lw_b y (n := 2) (by omega)
    rw [if_eq (by omega) (by omega) (by omega) (by omega), if_eq (by omega) (by omega) (by omega) (by omega), if_eq (by omega) (by omega) (by omega) (by omega), if_eq (by omega) (by omega) (by omega) (by omega)]
    by_cases w0 : w = 0
    · rw [if_pos w0]
      exact key _ (by subst w0; simp [loR]; omega) (by subst w0; simp [hiR]; omega)
    · rw [if_neg w0]
      by_cases w1 : w = 1
      · rw [if_pos w1]
        exact key _ (by subst w1; simp [loR]; omega) (by subst w1; simp [hiR]; omega)
      · rw [if_neg w1]
        by_cases w2 : w = 2
        · rw [if_pos w2]
          exact key _ (by subst w2; simp [loR]; omega) (by subst w2; simp [hiR]; omega)
        · rw [if_neg w2]
          by_cases w4 : w = 4
          · rw [if_pos w4]
            exact key _ (by subst w4; simp [loR]; omega) (by subst w4; simp [hiR]; omega)
          · rw [if_neg w4]
            have lo : loR w = 1 := if_neg (by omega)
            have hi : 4 ≤ hiR w := by
              unfold hiR
              rw [if_neg (by omega), if_neg w2]
              split
              · omega
              · first | omega | (rw [if_neg w4]; omega)
            exact key _ (by omega) (by omega)
end LR
