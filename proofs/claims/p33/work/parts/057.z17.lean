section CI
variable {M : Int → Int} {P : SX4} {W : SX10} {Ru : Nat → Nat → Int32}
theorem C_flawOf (h : cP P M) (hR : rg M) (hW : wkI M) (hWk : cW W M) (hRu : cR Ru M) {e r : Int} (he : 0 ≤ e) (he' : e < 12) (hr : 0 ≤ r) (hr' : r < 4) : DX4_flawOf P Ru W (iI e) (iI r) = some (iI (flawZ M e r)) := by
  have hc := (hW.2.2 e r he he' hr hr').1
  have a := flZ_ok hW he he' hr hr' (M (cellZ e r)).toNat rfl (M (cellZ e r)).toNat (Nat.le_refl _)
  have e0 := hR (ruleZ r 0); have e1 := hR (ruleZ r 1); have e2 := hR (ruleZ r 2); have e3 := hR (ruleZ r 3); have e4 := hR (ruleZ r 4)
  have f0 := hRu r 0 hr hr' (by decide) (by decide)
  have f1 := hRu r 1 hr hr' (by decide) (by decide)
  have f2 := hRu r 2 hr hr' (by decide) (by decide)
  have f3 := hRu r 3 hr hr' (by decide) (by decide)
  have f4 := hRu r 4 hr hr' (by decide) (by decide)
  unfold DX4_flawOf
  simp only [iI_lit, iI_neg, jn_eq]
  rw [if_lt (by omega) (by omega) (by omega) (by omega), if_neg (show ¬ r < 0 by omega), if_le (by omega) (by omega) (by omega) (by omega), if_neg (show ¬ 4 ≤ r by omega), C_sizeOf h hW he he' hr hr']
  simp only [Option.bind_some]
  rw [if_eq (by omega) (by omega) (by omega) (by omega)]
  unfold flawZ
  by_cases q : M (cellZ e r) = 0
  · rw [if_pos q, if_pos q]
  · rw [if_neg q, if_neg q, gd_iI (by omega) (by omega) (by omega), C_minutes h hW hWk he he' hr hr', iI_nat (by omega) (by omega)]
    simp only [Option.bind_some]
    rw [show Ru r.toNat 0 = iI (M (ruleZ r 0)) from f0, show Ru r.toNat 1 = iI (M (ruleZ r 1)) from f1, show Ru r.toNat 2 = iI (M (ruleZ r 2)) from f2, show Ru r.toNat 3 = iI (M (ruleZ r 3)) from f3, show Ru r.toNat 4 = iI (M (ruleZ r 4)) from f4]
    generalize hfl : flZ M e r (M (cellZ e r)).toNat (M (cellZ e r)).toNat = Q at *
    rw [if_le (by omega) (by omega) (by omega) (by omega)]
    by_cases q0 : M (ruleZ r 0) ≤ Q.1
    · rw [if_pos q0, if_pos q0, if_le (by omega) (by omega) (by omega) (by omega)]
      by_cases q1 : Q.1 ≤ M (ruleZ r 1)
      · rw [if_pos q1, if_pos q1, C_eras h hW hWk he he' hr hr', hfl]
        simp only [Option.bind_some]
        by_cases q2 : (iI (M (ruleZ r 2)) &&& (Q.2.1 ^^^ iI (-1))) = iI 0
        · rw [if_pos q2, if_pos q2, C_most h hW hWk he he' hr hr', hfl]
          simp only [Option.bind_some]
          rw [if_le (by omega) (by omega) (by omega) (by omega)]
          by_cases q3 : Q.2.2.1 ≤ M (ruleZ r 3)
          · rw [if_pos q3, if_pos q3, if_eq (by omega) (by omega) (by omega) (by omega)]
            by_cases q4 : M (ruleZ r 4) = 1
            · rw [if_pos q4, C_repeats h hW he he' hr hr', rep_fl hW he he' hr hr', hfl]
              simp only [Option.bind_some, if_bz]
              by_cases q5 : Q.2.2.2 = true
              · rw [if_pos q5, if_pos ⟨q4, q5⟩]
              · rw [if_neg q5, if_neg (fun h => q5 h.2)]
            · rw [if_neg q4, if_neg (fun h => q4 h.1)]
          · rw [if_neg q3, if_neg q3]
        · rw [if_neg q2, if_neg q2]
      · rw [if_neg q1, if_neg q1]
    · rw [if_neg q0, if_neg q0]
end CI
