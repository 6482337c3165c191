section CK
variable {M : Int → Int} {C T : SX0}
theorem C_copy10 (S T : SX10) : DX10_copyFrom S T = some T := by
  unfold DX10_copyFrom
  simp only [lt_eq]
  rfl
theorem C_copy2 (S T : SX2) : DX2_copyFrom S T = some T := by
  unfold DX2_copyFrom
  simp only [lt_eq]
  rfl
theorem C_copy4 (S T : SX4) : DX4_copyFrom S T = some T := by
  unfold DX4_copyFrom
  simp only [lt_eq]
  rfl
theorem C_copy3 (S T : SX3) : DX3_copyFrom S T = some T := by
  unfold DX3_copyFrom
  simp only [lt_eq]
  rfl
theorem C_copy7 (S T : SX7) : DX7_copyFrom S T = some T := by
  unfold DX7_copyFrom
  simp only [lt_eq]
  rfl
theorem C_copy6 (S T : SX6) : DX6_copyFrom S T = some T := by
  unfold DX6_copyFrom
  simp only [lt_eq]
  rfl
theorem C_copy9 (S T : SX9) : DX9_copyFrom S T = some T := by
  unfold DX9_copyFrom
  simp only [lt_eq, C_copy6, Option.bind_some]
  rfl
/-- the class's copy: all of the other but its room to work in -/
theorem C_copy (C T : SX0) : DX0_copyFrom C T = some (uX0_cut T (gX0_cut C)) := by
  unfold DX0_copyFrom
  simp only [lt_eq, C_copy10, C_copy2, C_copy4, C_copy3, C_copy7, C_copy6, C_copy9, Option.bind_some]
  obtain ⟨c1, c2, c3, c4, c5, c6, c7, c8, c9, c10, c11, c12, c13, c14⟩ := C
  obtain ⟨t1, t2, t3, t4, t5, t6, t7, t8, t9, t10, t11, t12, t13, t14⟩ := T
  simp only [uX0_state, gX0_state, uX0_round, gX0_round, uX0_rounds, gX0_rounds, uX0_penalty, gX0_penalty, uX0_works, gX0_works, uX0_entrants, gX0_entrants, uX0_rules, gX0_rules, uX0_programs, gX0_programs, uX0_jury, gX0_jury, uX0_stage, gX0_stage, uX0_sheet, gX0_sheet, uX0_tie, gX0_tie, uX0_closedScores, gX0_closedScores, uX0_cut, gX0_cut]
theorem Cp_cut (h : Cp C M) (z : SX1) : Cp (uX0_cut C z) M := h
end CK
