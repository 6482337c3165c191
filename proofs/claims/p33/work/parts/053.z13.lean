section CW
variable {M : Int → Int} {C : SX0}
def awaitedZ (M : Int → Int) (e : Int) : Bool := if M 3 = 2 then (decide (M (654 + e) = 1) && !isMarkedZ M 570 e) else !isCompleteZ M e
theorem C_isAwaited (h : Cp C M) (hI : MI M) {e : Int} (he : 0 ≤ e) (he' : e < 12) : DX0_isAwaited C (iI e) = some (bI (awaitedZ M e)) := by
  have h' := h
  have hI' := hI
  obtain ⟨hR, hT, hW, hIn, hTi, hk, hs, hO, hN, hru, hba, hty, hml⟩ := hI
  obtain ⟨h3, h4, h1, h2, hWk, hE, -, -, hJ, hS, hH, hTie, -⟩ := h
  have t3 := hT.2.2.2.1
  unfold DX0_isAwaited awaitedZ
  rw [h3, C_has9 hTie hTi he he', C_isComplete h' hI' he he', C_isSettled hJ hTie.2.2.2 hR hT he he' (fun j h1 h2 => (hml j e h1 h2 he he').2)]
  simp only [iI_lit, Option.bind_some, jn_eq, if_bz]
  rw [if_eq (by omega) (by omega) (by omega) (by omega)]
  by_cases q2 : M 3 = 2
  · rw [if_pos q2, if_pos q2]
    rcases hTi e he he' with h5 | h5
    · rw [h5]; rfl
    · rw [h5]
      cases isMarkedZ M 570 e <;> rfl
  · rw [if_neg q2, if_neg q2]
    cases isCompleteZ M e <;> rfl
theorem closable_iff (hI : MI M) (h : M 3 = 1 ∨ M 3 = 2) : al (closeOk M) (M 6).toNat = true ↔ fst (fun k => awaitedZ M (M (462 + k))) (M 7).toNat = -1 := by
  obtain ⟨hR, hT, hW, hIn, hTi, hk, hs, hO, hN, hru, hba, hty, hml⟩ := hI
  have hT' := hT
  obtain ⟨t0, t1, t2, t3, t4, t6, t7, t8⟩ := hT
  rw [al_iff, fst_none]
  constructor
  · intro h9 k hk9
    have o := hO.1 k (by omega) (by omega)
    have h8 := h9 (M (462 + k)).toNat (by omega)
    rw [Int.toNat_of_nonneg o.1] at h8
    unfold closeOk at h8
    unfold awaitedZ
    by_cases q : M 3 = 2
    · rw [if_neg (by omega)] at h8
      rw [if_pos q]
      simp only [Bool.or_eq_true, decide_eq_true_eq] at h8
      rcases h8 with h8 | h8
      · rw [decide_eq_false (by omega)]; rfl
      · rw [h8]; exact Bool.and_false _
    · rw [if_pos (by omega)] at h8
      rw [if_neg q]
      simp only [Bool.or_eq_true, decide_eq_true_eq] at h8
      rcases h8 with h8 | h8
      · rw [plc_ord hO (by omega) (by omega)] at h8
        omega
      · rw [h8]; rfl
  · intro h9 k hk9
    unfold closeOk
    by_cases q : M 3 = 2
    · rw [if_neg (by omega)]
      by_cases q1 : M (654 + k) = 1
      · have hp := (hty.1 k (by omega) (by omega) q1).2
        have b := plcZ_b M k (by omega)
        have h8 := h9 (plcZ M k).toNat (by have := b.2.2 hp; omega)
        rw [Int.toNat_of_nonneg (by omega), plc_at hp] at h8
        unfold awaitedZ at h8
        rw [if_pos q, decide_eq_true q1] at h8
        revert h8
        cases isMarkedZ M 570 k <;> intro h8 <;> simp_all
      · have := hTi k (by omega) (by omega)
        rw [decide_eq_true (by omega)]; rfl
    · rw [if_pos (by omega)]
      by_cases q1 : plcZ M k = -1
      · rw [decide_eq_true q1]; rfl
      · have b := plcZ_b M k (by omega)
        have h8 := h9 (plcZ M k).toNat (by have := b.2.2 q1; omega)
        rw [Int.toNat_of_nonneg (by omega), plc_at q1] at h8
        unfold awaitedZ at h8
        rw [if_neg q] at h8
        revert h8
        cases isCompleteZ M k <;> intro h8 <;> simp_all
theorem C_canBeClosed (h : Cp C M) (hI : MI M) : DX0_canBeClosed C = some (bI (isClosableZ M)) := by
  have h' := h
  have hI' := hI
  obtain ⟨hR, hT, hW, hIn, hTi, hk, hs, hO, hN, hru, hba, hty, hml⟩ := hI
  obtain ⟨h3, h4, h1, h2, hWk, hE, -, -, hJ, hS, hH, hTie, -⟩ := h
  have hT' := hT
  obtain ⟨t0, t1, t2, t3, t4, t6, t7, t8⟩ := hT
  have key : DX0_canBeClosed_L20 C (fun _ => some (iI 0)) (fun _ => some (iI 1)) fu (iI 0) = if fst (fun k => awaitedZ M (M (462 + k))) (M 7).toNat = -1 then some (iI 1) else some (iI 0) := by
    refine upS (fun f j => DX0_canBeClosed_L20 C _ _ f (iI j)) (fun z => if z = -1 then some (iI 1) else some (iI 0)) (fun k => awaitedZ M (M (462 + k))) (M 7).toNat ?_ ?_ ?_ fu (by unfold fu; omega)
    · intro f j hj hp
      show DX0_canBeClosed_L20 _ _ _ _ _ = _
      have o := hO.1 j (by omega) (by omega)
      rw [DX0_canBeClosed_L20, hS.1, C_playerAt hS hT' (by omega) (by omega), if_pos (show 0 ≤ (j : Int) ∧ (j : Int) < M 7 by omega)]
      simp only [Option.bind_some, iI_lit]
      rw [if_le (by omega) (by omega) (by omega) (by omega), if_neg (by omega), C_isAwaited h' hI' o.1 (by omega), show awaitedZ M (M (462 + j)) = false from hp]
      simp only [Option.bind_some, if_bz, iI_add]
      rw [if_neg (show ¬ false = true by decide)]
      rfl
    · intro f j hj hp
      show DX0_canBeClosed_L20 _ _ _ _ _ = _
      have o := hO.1 j (by omega) (by omega)
      rw [DX0_canBeClosed_L20, hS.1, C_playerAt hS hT' (by omega) (by omega), if_pos (show 0 ≤ (j : Int) ∧ (j : Int) < M 7 by omega)]
      simp only [Option.bind_some, iI_lit]
      rw [if_le (by omega) (by omega) (by omega) (by omega), if_neg (by omega), C_isAwaited h' hI' o.1 (by omega), show awaitedZ M (M (462 + j)) = true from hp]
      simp only [Option.bind_some, if_bz]
      rw [if_pos trivial, if_neg (by omega)]
    · intro f
      show DX0_canBeClosed_L20 _ _ _ _ _ = _
      rw [DX0_canBeClosed_L20, hS.1, if_le (by omega) (by omega) (by omega) (by omega), if_pos (by omega), if_pos rfl]
  unfold DX0_canBeClosed
  simp only [iI_lit, jn_eq]
  rw [h3, key, if_eq (by omega) (by omega) (by omega) (by omega), if_eq (by omega) (by omega) (by omega) (by omega)]
  unfold isClosableZ
  by_cases q : M 3 = 1 ∨ M 3 = 2
  · have hc := closable_iff hI' q
    rw [decide_eq_true q, Bool.true_and]
    have e : (if fst (fun k => awaitedZ M (M (462 + k))) (M 7).toNat = -1 then some (iI 1) else some (iI 0)) = some (bI (al (closeOk M) (M 6).toNat)) := by
      cases ha : al (closeOk M) (M 6).toNat with
      | true => rw [if_pos (hc.mp ha)]; rfl
      | false => rw [if_neg (fun h => by rw [hc.mpr h] at ha; cases ha)]; rfl
    rw [e]
    split
    · rfl
    · rw [if_pos (by omega)]
  · rw [if_neg (by omega), if_neg (by omega), decide_eq_false q]
    rfl
theorem C_strangest (h : Cp C M) (hI : MI M) : DX11_strangestJuror C = some (iI (strangestZ M)) := by
  have h' := h
  have hI' := hI
  obtain ⟨hR, hT, hW, hIn, hTi, hk, hs, hO, hN, hru, hba, hty, hml⟩ := hI
  obtain ⟨h3, h4, h1, h2, hWk, hE, -, -, hJ, hS, hH, hTie, -⟩ := h
  have hT' := hT
  obtain ⟨t0, t1, t2, t3, t4, t6, t7, t8⟩ := hT
  unfold DX11_strangestJuror strangestZ
  simp only [iI_lit, iI_neg, show gX11n_now C = C from rfl]
  rw [h3, if_eq (by omega) (by omega) (by omega) (by omega)]
  by_cases q : M 3 = 1
  · rw [if_pos q, if_pos q]
    have hd : ∀ k : Nat, k < (M 0).toNat → -1 ≤ distZ M k (M 8).toNat ∧ distZ M k (M 8).toNat ≤ 9600012 := fun k hk9 => by
      have := distZ_b hT' hk hO (j := k) (by omega) (by omega) (M 8).toNat (by omega)
      omega
    refine upL (fun f j => DX11_strangestJuror_L19 C (fun v => some v) f (iI (strZ (fun j => distZ M j (M 8).toNat) j).1) (iI (if (strZ (fun j => distZ M j (M 8).toNat) j).1 = -1 then -1 else (strZ (fun j => distZ M j (M 8).toNat) j).2)) (iI j)) _ (M 0).toNat ?_ ?_ fu (by unfold fu; omega)
    · intro f j hj
      show DX11_strangestJuror_L19 _ _ _ _ _ _ = _
      obtain ⟨d1, d2⟩ := hd j hj
      obtain ⟨s1, s2, s3, s4⟩ := strZ_b (d := fun j => distZ M j (M 8).toNat) (b := 9600012) (by decide) j (fun k hk9 => hd k (by omega))
      rw [DX11_strangestJuror_L19, show gX11n_now C = C from rfl, hJ.1, C_distanceOf h' hI' (by omega) (by omega)]
      simp only [iI_lit, iI_add, Option.bind_some, jn_eq]
      rw [if_le (by omega) (by omega) (by omega) (by omega), if_neg (by omega), strZ, show ((j + 1 : Nat) : Int) = (j : Int) + 1 by omega]
      generalize strZ (fun j => distZ M j (M 8).toNat) j = Q at *
      generalize distZ M j (M 8).toNat = dd at *
      by_cases q2 : Q.1 = -1
      · rw [if_pos q2, if_le (by omega) (by omega) (by omega) (by omega)]
        by_cases q1 : dd = -1
        · rw [if_pos (by omega), if_neg (show ¬ (dd ≠ -1 ∧ (Q.1 = -1 ∨ Q.2 < dd)) from fun h => h.1 q1), if_pos q2]
        · rw [if_neg (by omega), if_pos (show dd ≠ -1 ∧ (Q.1 = -1 ∨ Q.2 < dd) from ⟨q1, Or.inl q2⟩)]
          simp only
          rw [if_neg (by omega)]
      · rw [if_neg q2, if_le (by omega) (by omega) (by omega) (by omega)]
        by_cases q3 : dd ≤ Q.2
        · rw [if_pos q3, if_neg (show ¬ (dd ≠ -1 ∧ (Q.1 = -1 ∨ Q.2 < dd)) from fun h => by rcases h.2 with h | h; exact q2 h; omega), if_neg q2]
        · rw [if_neg q3, if_pos (show dd ≠ -1 ∧ (Q.1 = -1 ∨ Q.2 < dd) from ⟨by omega, Or.inr (by omega)⟩)]
          simp only
          rw [if_neg (by omega)]
    · intro f
      show DX11_strangestJuror_L19 _ _ _ _ _ _ = _
      rw [DX11_strangestJuror_L19, show gX11n_now C = C from rfl, hJ.1, if_le (by omega) (by omega) (by omega) (by omega), if_pos (by omega)]
  · rw [if_neg q, if_neg q]
end CW
