section CV
variable {M : Int → Int} {C : SX0}
theorem plc_ord (hO : ordI M) {k : Int} (hk : 0 ≤ k) (hk' : k < M 7) : plcZ M (M (462 + k)) = k := by
  unfold plcZ
  obtain ⟨n, rfl⟩ : ∃ n : Nat, k = n := ⟨k.toNat, by omega⟩
  refine fst_ext (p := fun k => decide (M (462 + k) = M (462 + n))) (decide_eq_true rfl) (fun i hi => decide_eq_false (hO.2 i n (by omega) (by omega) hk')) _ (by omega)
theorem plc_at {e : Int} (h : plcZ M e ≠ -1) : M (462 + plcZ M e) = e := of_decide_eq_true (fst_at (p := fun k => decide (M (462 + k) = e)) (M 7).toNat h)
theorem plc_in (hT : stI M) (hO : ordI M) {e : Int} (h : plcZ M e ≠ -1) : 0 ≤ e ∧ e < M 6 := by
  have h1 := plcZ_b M e (by have := hT.2.2.2.2.2.1; have := hT.2.2.2.2.2.2.1; omega)
  have h2 := hO.1 (plcZ M e) (by omega) (h1.2.2 h)
  rw [plc_at h] at h2
  exact h2
theorem sm_tail {g : Int → Int} {n : Nat} : ∀ m : Nat, (∀ k : Nat, n ≤ k → k < n + m → g k = 0) → sm g (n + m) = sm g n := by
  intro m
  induction m with
  | zero => intro _; rfl
  | succ m ih => intro h; rw [← Nat.add_assoc, sm, ih (fun k h1 h2 => h k h1 (by omega)), h (n + m) (by omega) (by omega), Int.add_zero]
theorem C_count9 (h : Cp C M) (hI : MI M) : DX9_count (gX0_tie C) = some (iI (tiedZ M)) := by
  obtain ⟨hR, hT, hW, hIn, hTi, hk, hs, hO, hN, hru, hba, hty, hml⟩ := hI
  obtain ⟨h3, -, -, hp, -, hE, -, -, hJ, hS, hH, hTie, -⟩ := h
  have t6 := hT.2.2.2.2.2.1
  have e12 : tiedZ M = sm (fun e => M (654 + e)) 12 := by
    unfold tiedZ
    have := sm_tail (g := fun e => M (654 + e)) (n := (M 6).toNat) (12 - (M 6).toNat) (fun k h1 h2 => by
      show M (654 + k) = 0
      rcases hTi k (by omega) (by omega) with h3 | h3
      · exact h3
      · have := plc_in hT hO (hty.1 k (by omega) (by omega) h3).2
        omega)
    rw [show (M 6).toNat + (12 - (M 6).toNat) = 12 by omega] at this
    exact this.symm
  rw [e12]
  unfold DX9_count
  simp only [iI_lit]
  refine upL (fun f j => DX9_count_L13 (gX0_tie C) (iI 12) (fun v => some v) f (iI (sm (fun e => M (654 + e)) j)) (iI j)) _ 12 ?_ ?_ fu (by unfold fu; omega)
  · intro f j hj
    show DX9_count_L13 _ _ _ _ _ _ = _
    rw [DX9_count_L13, if_le (by omega) (by omega) (by omega) (by omega), if_neg (by omega), gd_iI (by omega) (by omega) (by omega), iI_nat (by omega) (by omega), hTie.2.2.1 j (by omega) (by omega), sm, show ((j + 1 : Nat) : Int) = (j : Int) + 1 by omega]
    simp only [iI_lit, iI_add]
  · intro f
    show DX9_count_L13 _ _ _ _ _ _ = _
    rw [DX9_count_L13, if_le (by omega) (by omega) (by omega) (by omega), if_pos (by omega)]
theorem C_tell (h : Cp C M) (hI : MI M) {w : Int} (hw : 0 ≤ w) (hw' : w < 13) : DX0_tell C (iI w) = some (iI (infoZ M w)) := by
  have h9 := C_count9 h hI
  obtain ⟨hR, hT, hW, hIn, hTi, hk, hs, hO, hN, hru, hba, hty, hml⟩ := hI
  obtain ⟨h3, h4, h1, h2, hWk, hE, -, -, hJ, hS, hH, hTie, -⟩ := h
  unfold DX0_tell
  rw [h9, C_countIn hE hIn hT, h3, h4, h1, h2, hWk.1, hE.1, hJ.1, hS.1, hS.2.1, hTie.1, hTie.2.1]
  simp only [iI_lit, Option.bind_some]
  unfold infoZ
  have hc : w = 0 ∨ w = 1 ∨ w = 2 ∨ w = 3 ∨ w = 4 ∨ w = 5 ∨ w = 6 ∨ w = 7 ∨ w = 8 ∨ w = 9 ∨ w = 10 ∨ w = 11 ∨ w = 12 := by omega
  rcases hc with rfl | rfl | rfl | rfl | rfl | rfl | rfl | rfl | rfl | rfl | rfl | rfl | rfl <;> rfl
theorem C_canBeMarked (h : Cp C M) (hI : MI M) {e : Int} (he : 0 ≤ e) (he' : e < 12) : DX0_canBeMarked C (iI e) = some (bI ((decide (M 3 = 1) && hpZ M e) || (decide (M 3 = 2) && decide (M (654 + e) = 1)))) := by
  obtain ⟨hR, hT, hW, hIn, hTi, hk, hs, hO, hN, hru, hba, hty, hml⟩ := hI
  obtain ⟨h3, h4, h1, h2, hWk, hE, -, -, hJ, hS, hH, hTie, -⟩ := h
  have t3 := hT.2.2.2.1
  unfold DX0_canBeMarked
  rw [h3, C_has9 hTie hTi he he', C_hasPlayed hS hs hR he he']
  simp only [iI_lit, Option.bind_some, jn_eq, if_bz]
  simp (disch := omega) only [if_eq]
  by_cases q2 : M 3 = 2
  · rw [if_pos q2, decide_eq_false (show ¬ M 3 = 1 by omega), decide_eq_true q2]
    rcases hTi e he he' with h5 | h5
    · rw [h5]; rfl
    · rw [h5]; rfl
  · rw [if_neg q2, decide_eq_false q2]
    by_cases q1 : M 3 = 1
    · rw [if_pos q1, decide_eq_true q1]
      cases hpZ M e <;> rfl
    · rw [if_neg q1, decide_eq_false q1]
      rfl
theorem distZ_tail (hI : MI M) {j : Int} : ∀ m : Nat, (((M 8).toNat + m : Nat) : Int) ≤ M 7 → distZ M j ((M 8).toNat + m) = distZ M j (M 8).toNat := by
  obtain ⟨hR, hT, hW, hIn, hTi, hk, hs, hO, hN, hru, hba, hty, hml⟩ := hI
  have hT' := hT
  obtain ⟨t0, t1, t2, t3, t4, t6, t7, t8⟩ := hT
  intro m
  induction m with
  | zero => intro _; rfl
  | succ m ih =>
    intro hm
    rw [← Nat.add_assoc, distZ, ih (by omega)]
    have o := hO.1 (((M 8).toNat + m : Nat) : Int) (by omega) (by omega)
    have hp : hpZ M (M (462 + (((M 8).toNat + m : Nat) : Int))) = false := by
      unfold hpZ
      rw [plc_ord hO (by omega) (by omega)]
      exact decide_eq_false (by omega)
    rw [if_neg (fun h9 => h9.2 (mean_np hN hT' o.1 (by omega) hp j))]
theorem C_distanceOf (h : Cp C M) (hI : MI M) {j : Int} (hj : 0 ≤ j) (hj' : j < 7) : DX0_distanceOf C (iI j) = some (iI (distZ M j (M 8).toNat)) := by
  have hI' := hI
  obtain ⟨hR, hT, hW, hIn, hTi, hk, hs, hO, hN, hru, hba, hty, hml⟩ := hI
  obtain ⟨h3, h4, h1, h2, hWk, hE, -, -, hJ, hS, hH, hTie, -⟩ := h
  have hT' := hT
  obtain ⟨t0, t1, t2, t3, t4, t6, t7, t8⟩ := hT
  have e7 := distZ_tail hI' (j := j) ((M 7).toNat - (M 8).toNat) (by omega)
  rw [show (M 8).toNat + ((M 7).toNat - (M 8).toNat) = (M 7).toNat by omega] at e7
  rw [← e7]
  unfold DX0_distanceOf
  simp only [iI_lit, iI_neg]
  refine upL (fun f i => DX0_distanceOf_L4 C (iI j) (fun v => some v) f (iI (distZ M j i)) (iI i)) _ (M 7).toNat ?_ ?_ fu (by unfold fu; omega)
  · intro f i hi
    show DX0_distanceOf_L4 _ _ _ _ _ _ = _
    obtain ⟨o1, o2⟩ := hO.1 i (by omega) (by omega)
    obtain ⟨d1, d2⟩ := distZ_b hT' hk hO hj hj' i (by omega)
    have b1 := meanZ_lo (em_hi (M := M) (row := 486) (e := M (462 + i)) (w := j) (fun j h1 h2 => (hk j (M (462 + i)) h1 h2 (by omega) (by omega)).1) t0.2)
    have b2 := meanZ_hi (em_hi (M := M) (row := 486) (e := M (462 + i)) (w := j) (fun j h1 h2 => (hk j (M (462 + i)) h1 h2 (by omega) (by omega)).1) t0.2)
    rw [DX0_distanceOf_L4, hS.1, C_playerAt hS hT' (by omega) (by omega), if_pos (show 0 ≤ (i : Int) ∧ (i : Int) < M 7 by omega)]
    simp only [iI_lit, iI_add, iI_neg, jn_eq, Option.bind_some]
    rw [if_le (by omega) (by omega) (by omega) (by omega), if_neg (by omega), C_meanIf hJ hH hR hT' o1 (by omega) (by omega) (by omega) (by omega) (by omega) (fun j h1 h2 => (hk j _ h1 h2 o1 (by omega)).1), emC_em, C_counts hJ hH hR hj hj' o1 (by omega), C_at hH hj hj' o1 (by omega)]
    simp only [Option.bind_some, if_bz]
    rw [distZ, show ((i + 1 : Nat) : Int) = (i : Int) + 1 by omega, if_eq (by omega) (by omega) (by omega) (by omega)]
    by_cases q : meanZ (emZ M 486 (M (462 + i)) j) (M 0).toNat = -1
    · rw [if_pos q, if_neg (show ¬ (countsZ M 486 j (M (462 + i)) = true ∧ meanZ (emZ M 486 (M (462 + i)) j) (M 0).toNat ≠ -1) from fun h => h.2 q)]
    · rw [if_neg q]
      cases hc : countsZ M 486 j (M (462 + i)) with
      | false => rw [if_neg (show ¬ false = true by decide), if_neg (show ¬ (false = true ∧ meanZ (emZ M 486 (M (462 + i)) j) (M 0).toNat ≠ -1) from fun h => nomatch h.1)]
      | true =>
        rw [if_pos (show true = true from rfl), if_pos (show true = true ∧ meanZ (emZ M 486 (M (462 + i)) j) (M 0).toNat ≠ -1 from ⟨rfl, q⟩)]
        obtain ⟨f1, f2⟩ := farZ_b hk t0.2 hj hj' o1 (by omega) hc
        have c3 := hc
        unfold countsZ at c3
        simp only [Bool.and_eq_true, decide_eq_true_eq] at c3
        have b3 := (hk j _ hj hj' o1 (show M (462 + i) < 12 by omega)).1
        have b4 := c3.1
        have g1 : (if iI 0 < iI (distZ M j i) then iI (distZ M j i) else iI 0) = iI (if distZ M j i = -1 then 0 else distZ M j i) := by
          rw [if_lt (by omega) (by omega) (by omega) (by omega)]
          split
          · rw [if_neg (by omega)]
          · split
            · rfl
            · rw [show distZ M j i = 0 by omega]
        have g2 : (if iI 0 ≤ iI 1000 * iI (M (486 + (12 * j + M (462 + i)))) - iI (meanZ (emZ M 486 (M (462 + i)) j) (M 0).toNat) then iI 1000 * iI (M (486 + (12 * j + M (462 + i)))) - iI (meanZ (emZ M 486 (M (462 + i)) j) (M 0).toNat) else iI 0 - (iI 1000 * iI (M (486 + (12 * j + M (462 + i)))) - iI (meanZ (emZ M 486 (M (462 + i)) j) (M 0).toNat))) = iI (farZ M j (M (462 + i))) := by
          simp only [iI_mul, iI_sub]
          rw [if_le (by omega) (by omega) (by omega) (by omega)]
          unfold farZ
          split
          · rfl
          · rw [Int.zero_sub]
        rw [g1, g2, iI_add]
  · intro f
    show DX0_distanceOf_L4 _ _ _ _ _ _ = _
    rw [DX0_distanceOf_L4, hS.1, if_le (by omega) (by omega) (by omega) (by omega), if_pos (by omega)]
end CV
