section CF
variable {M : Int → Int} {P : SX4} {W : SX10}
theorem C_workAt (h : cP P M) (hW : wkI M) {e r k : Int} (he : 0 ≤ e) (he' : e < 12) (hr : 0 ≤ r) (hr' : r < 4) (hk : -2147483648 ≤ k) (hk' : k < 2147483648) : DX4_workAt P (iI e) (iI r) (iI k) = some (iI (workAtZ M e r k)) := by
  have hc := (hW.2.2 e r he he' hr hr').1
  unfold DX4_workAt
  simp only [iI_lit, iI_neg, jn_eq, iI_mul, iI_add]
  simp (disch := omega) only [if_lt, if_le]
  rw [if_neg (by omega), if_neg (by omega), if_neg (by omega), if_neg (by omega)]
  by_cases q : 0 ≤ k ∧ k < 4
  · rw [if_neg (by omega), if_neg (by omega), if_eq (by omega) (by omega) (by omega) (by omega), if_neg (by omega), gd_iI (by omega) (by omega) (by omega), iI_nat (by omega) (by omega), h e r k he he' hr hr' q.1 q.2]
  · have e1 : workAtZ M e r k = -1 := if_neg (by omega)
    rw [e1]
    split
    · rfl
    · split
      · rfl
      · exfalso; omega
theorem C_sizeOf (h : cP P M) (hW : wkI M) {e r : Int} (he : 0 ≤ e) (he' : e < 12) (hr : 0 ≤ r) (hr' : r < 4) : DX4_sizeOf P (iI e) (iI r) = some (iI (M (cellZ e r))) := by
  have hc := (hW.2.2 e r he he' hr hr').1
  have h5 := hW.1
  unfold DX4_sizeOf
  simp only [iI_lit, jn_eq]
  have key : DX4_sizeOf_L2 P (iI e) (iI r) (fun v => some v) fu (iI 0) = some (iI (if fst (fun k => decide (workAtZ M e r k = -1)) 4 = -1 then 4 else fst (fun k => decide (workAtZ M e r k = -1)) 4)) := by
    refine upS (fun f j => DX4_sizeOf_L2 P (iI e) (iI r) (fun v => some v) f (iI j)) (fun z => some (iI (if z = -1 then 4 else z))) (fun k => decide (workAtZ M e r k = -1)) 4 ?_ ?_ ?_ fu (by unfold fu; omega)
    · intro f j hj hp
      show DX4_sizeOf_L2 _ _ _ _ _ _ = _
      have b := workAtZ_b hW (k := j) he he' hr hr'
      rw [DX4_sizeOf_L2, C_workAt h hW he he' hr hr' (by omega) (by omega)]
      simp only [iI_lit, iI_neg, iI_add, Option.bind_some]
      rw [if_le (by omega) (by omega) (by omega) (by omega), if_neg (by omega), if_eq (by omega) (by omega) (by omega) (by omega), if_neg (of_decide_eq_false hp)]
      rfl
    · intro f j hj hp
      show DX4_sizeOf_L2 _ _ _ _ _ _ = _
      have b := workAtZ_b hW (k := j) he he' hr hr'
      rw [DX4_sizeOf_L2, C_workAt h hW he he' hr hr' (by omega) (by omega)]
      simp only [iI_lit, iI_neg, iI_add, Option.bind_some]
      rw [if_le (by omega) (by omega) (by omega) (by omega), if_neg (by omega), if_eq (by omega) (by omega) (by omega) (by omega), if_pos (of_decide_eq_true hp), if_neg (show ¬ (j : Int) = -1 by omega)]
    · intro f
      show DX4_sizeOf_L2 _ _ _ _ _ _ = _
      rw [DX4_sizeOf_L2]
      simp only [iI_lit]
      rw [if_le (by omega) (by omega) (by omega) (by omega), if_pos (by omega)]
      rfl
  rw [key]
  congr 2
  obtain ⟨N, hN⟩ : ∃ N : Nat, M (cellZ e r) = N := ⟨(M (cellZ e r)).toNat, by omega⟩
  have lo : ∀ k : Nat, k < N → workAtZ M e r k ≠ -1 := fun k hk => by have := workAtZ_in hW he he' hr hr' (k := k) (by omega) (by omega); omega
  by_cases q : N = 4
  · rw [if_pos ((fst_none 4).mpr fun k hk => decide_eq_false (lo k (by omega))), hN, q]; rfl
  · rw [fst_ext (j := N) (decide_eq_true (if_neg (by omega))) (fun k hk => decide_eq_false (lo k hk)) 4 (by omega), if_neg (by omega), hN]
theorem flZ_1 (e r : Int) (N : Nat) : ∀ n, (flZ M e r N n).1 = sm (minZ M e r) n := by
  intro n
  induction n with
  | zero => rfl
  | succ n ih => rw [sm, ← ih]; rfl
theorem C_minutes (h : cP P M) (hW : wkI M) (hWk : cW W M) {e r : Int} (he : 0 ≤ e) (he' : e < 12) (hr : 0 ≤ r) (hr' : r < 4) : DX4_minutesOf P W (iI e) (iI r) = some (iI (flZ M e r (M (cellZ e r)).toNat (M (cellZ e r)).toNat).1) := by
  have hc := (hW.2.2 e r he he' hr hr').1
  have h5 := hW.1
  have key : DX4_minutesOf P W (iI e) (iI r) = some (iI (sm (fun k => if workAtZ M e r k = -1 then 0 else minZ M e r k) 4)) := by
    unfold DX4_minutesOf
    simp only [iI_lit]
    refine upL (fun f j => DX4_minutesOf_L6 P W (iI e) (iI r) (fun v => some v) f (iI (sm (fun k => if workAtZ M e r k = -1 then 0 else minZ M e r k) j)) (iI j)) _ 4 ?_ ?_ fu (by unfold fu; omega)
    · intro f j hj
      show DX4_minutesOf_L6 _ _ _ _ _ _ _ _ = _
      have b := workAtZ_b hW (k := j) he he' hr hr'
      rw [DX4_minutesOf_L6, C_workAt h hW he he' hr hr' (by omega) (by omega)]
      simp only [iI_lit, iI_add, Option.bind_some]
      rw [if_le (by omega) (by omega) (by omega) (by omega), if_neg (by omega), C_mins hWk h5.1 h5.2 (by omega) (by omega), sm, show ((j + 1 : Nat) : Int) = (j : Int) + 1 by omega]
      simp only [Option.bind_some, iI_add]
      rfl
    · intro f
      show DX4_minutesOf_L6 _ _ _ _ _ _ _ _ = _
      rw [DX4_minutesOf_L6]
      simp only [iI_lit]
      rw [if_le (by omega) (by omega) (by omega) (by omega), if_pos (by omega)]
  rw [key, flZ_1]
  obtain ⟨N, hN⟩ : ∃ N : Nat, M (cellZ e r) = N := ⟨(M (cellZ e r)).toNat, by omega⟩
  have lo : ∀ k : Nat, k < N → workAtZ M e r k ≠ -1 := fun k hk => by have := workAtZ_in hW he he' hr hr' (k := k) (by omega) (by omega); omega
  have t := sm_tail (g := fun k => if workAtZ M e r k = -1 then 0 else minZ M e r k) (n := N) (4 - N) (fun k h1 h2 => if_pos (if_neg (by omega)))
  rw [show N + (4 - N) = 4 by omega] at t
  rw [t, hN, sm_congr (g := fun k => if workAtZ M e r k = -1 then 0 else minZ M e r k) (k := minZ M e r) N (fun k hk => if_neg (lo k hk))]
  rfl
end CF
