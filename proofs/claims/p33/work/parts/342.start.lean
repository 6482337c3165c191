/-! the law's first state -/
/-- the rules at first -/
def ruF (i : Int) : Int := if i = 0 then 1 else if i = 1 then 180 else if i = 3 then 4 else if i = 5 then 12 else 0
/-- the cells at first -/
def inZ : Int → Int := fun k => if k = 0 then 5 else if k = 1 then 1 else if k = 2 then 50 else if 102 ≤ k ∧ k < 126 then ruF ((k - 102) % 6) else if 486 ≤ k ∧ k < 654 then -1 else if 666 ≤ k ∧ k < 714 then -1 else 0
section IM
theorem in_z {k : Int} (h : k < 0 ∨ (3 ≤ k ∧ k < 102) ∨ (126 ≤ k ∧ k < 486) ∨ (654 ≤ k ∧ k < 666) ∨ 714 ≤ k) : inZ k = 0 := by
  unfold inZ
  rw [if_neg (show ¬ k = 0 by omega), if_neg (show ¬ k = 1 by omega), if_neg (show ¬ k = 2 by omega), if_neg (show ¬ (102 ≤ k ∧ k < 126) by omega), if_neg (show ¬ (486 ≤ k ∧ k < 654) by omega), if_neg (show ¬ (666 ≤ k ∧ k < 714) by omega)]
theorem in_m {k : Int} (h : (486 ≤ k ∧ k < 654) ∨ (666 ≤ k ∧ k < 714)) : inZ k = -1 := by
  unfold inZ
  rw [if_neg (show ¬ k = 0 by omega), if_neg (show ¬ k = 1 by omega), if_neg (show ¬ k = 2 by omega), if_neg (show ¬ (102 ≤ k ∧ k < 126) by omega)]
  by_cases q : 486 ≤ k ∧ k < 654
  · rw [if_pos q]
  · rw [if_neg q, if_pos (show 666 ≤ k ∧ k < 714 by omega)]
theorem in_r {r i : Int} (hr : 0 ≤ r) (hr' : r < 4) (hi : 0 ≤ i) (hi' : i < 6) : inZ (ruleZ r i) = ruF i := by
  unfold inZ ruleZ
  rw [if_neg (show ¬ 102 + 6 * r + i = 0 by omega), if_neg (show ¬ 102 + 6 * r + i = 1 by omega), if_neg (show ¬ 102 + 6 * r + i = 2 by omega), if_pos (show 102 ≤ 102 + 6 * r + i ∧ 102 + 6 * r + i < 126 by omega), show (102 + 6 * r + i - 102) % 6 = i by omega]
theorem in_nz : nz inZ := fun k hk => in_z (by omega)
theorem in_MK : MK inZ := by
  have i0 : inZ 0 = 5 := rfl
  have i1 : inZ 1 = 1 := rfl
  have i2 : inZ 2 = 50 := rfl
  have z : ∀ k : Int, (3 ≤ k ∧ k < 102) → inZ k = 0 := fun k hk => in_z (by omega)
  refine ⟨⟨fun k => ?_, ⟨by omega, by omega, by omega, by rw [z 3 (by omega)]; omega, by rw [z 4 (by omega)]; omega, by rw [z 6 (by omega)]; omega, by rw [z 7 (by omega), z 6 (by omega)]; omega, by rw [z 8 (by omega), z 7 (by omega)]; omega⟩, ?_, fun e a b => ⟨Or.inl (in_z (by omega)), fun _ => in_z (by omega)⟩, fun e a b => Or.inl (in_z (by omega)), fun j e a b d f => by rw [in_m (by omega), in_m (by omega)]; omega, fun e a b _ => by rw [in_z (by omega)]; omega, ⟨fun k a b => absurd b (by rw [z 7 (by omega)]; omega), fun i k a b d => absurd d (by rw [z 7 (by omega)]; omega)⟩, fun j e a b d f _ => in_m (by omega), fun r a b => by rw [in_r a b (by omega) (by omega)]; decide, fun j e a b d f => Or.inl (in_z (by omega)), ⟨fun e a b h => absurd h (by rw [in_z (by omega)]; omega), fun j e a b d f _ => in_m (by omega), fun _ => ⟨z 9 (by omega), z 10 (by omega)⟩, fun h => absurd h (by rw [z 3 (by omega)]; omega), by rw [z 9 (by omega)]; omega, by rw [z 10 (by omega)]; omega, fun _ => z 7 (by omega), by rw [z 11 (by omega)]; omega⟩, fun j e a b d f => by rw [in_m (by omega), in_m (by omega)]; omega⟩, ⟨fun h => absurd h (by rw [z 3 (by omega)]; omega), fun e r a b d f _ => in_m (by omega)⟩⟩
  · unfold inZ ruF
    repeat' split
    all_goals omega
  · refine ⟨by rw [z 5 (by omega)]; omega, fun k a b => absurd b (by rw [z 5 (by omega)]; omega), fun e r a b d f => ?_⟩
    have h0 : inZ (cellZ e r) = 0 := in_z (by unfold cellZ; omega)
    exact ⟨by rw [h0]; omega, fun k p q => absurd q (by rw [h0]; omega)⟩
def sh0 : SX6 := fun q : Nat => if q < 7 then (fun _ => iI (-1)) else (fun _ => 0)
def ti0 : SX9 := (0, 0, (fun _ => 0), sh0)
/-- a competition at first -/
def co0 : SX0 := (0, 0, 1, 50, ((0, (fun _ => 0), (fun _ => 0), fun _ => 0) : SX10), ((0, fun _ => 0) : SX2), (fun _ => tab4), ((fun _ => -1) : SX4), ((5, fun _ _ => 0) : SX3), ((0, 0, 0, (fun _ => 0), fun _ => -1) : SX7), sh0, ti0, (fun _ _ => -1), ((0, 0, 0, 0, 0, fun _ => 0) : SX1))
theorem in_Cp : Cp co0 inZ := by
  have z : ∀ k : Int, (3 ≤ k ∧ k < 102) → inZ k = 0 := fun k hk => in_z (by omega)
  have h7 := z 7 (by omega)
  refine ⟨by rw [z 3 (by omega)]; rfl, by rw [z 4 (by omega)]; rfl, rfl, rfl, ⟨by rw [z 5 (by omega)]; rfl, fun k a b => absurd b (by rw [z 5 (by omega)]; omega)⟩, ⟨by rw [z 6 (by omega)]; rfl, fun e a b => by rw [in_z (by omega)]; rfl⟩, fun r i a b d f => ?_, fun e r k a b d f p q => ?_, ⟨rfl, fun j e a b d f => by rw [in_z (by omega)]; rfl⟩, ⟨by rw [h7]; rfl, by rw [z 8 (by omega)]; rfl, by rw [z 11 (by omega)]; rfl, fun k a b => absurd b (by rw [h7]; omega), fun e a b => ?_⟩, fun j e a b d f => ?_, ⟨by rw [z 10 (by omega)]; rfl, by rw [z 9 (by omega)]; rfl, fun e a b => by rw [in_z (by omega)]; rfl, fun j e a b d f => ?_⟩, fun r e a b d f => by rw [in_m (by omega)]; rfl⟩
  · rw [in_r a b d f]
    have hc : i = 0 ∨ i = 1 ∨ i = 2 ∨ i = 3 ∨ i = 4 ∨ i = 5 := by omega
    rcases hc with rfl | rfl | rfl | rfl | rfl | rfl <;> rfl
  · have h0 : inZ (cellZ e r) = 0 := in_z (by unfold cellZ; omega)
    unfold workAtZ
    rw [h0, if_neg (by omega)]
    rfl
  · have hh : hpZ inZ e = false := by
      unfold hpZ
      have : plcZ inZ e = -1 := by
        have pb := plcZ_b inZ e (by rw [h7]; omega)
        refine Classical.byContradiction fun h => ?_
        have := pb.2.2 h
        rw [h7] at this
        omega
      rw [this]
      exact decide_eq_false (by omega)
    rw [hh]
    rfl
  · rw [in_m (by omega)]
    show sh0 j.toNat e.toNat = _
    unfold sh0
    rw [if_pos (by omega)]
  · rw [in_m (by omega)]
    show sh0 j.toNat e.toNat = _
    unfold sh0
    rw [if_pos (by omega)]
end IM
section IG
variable {c : Int32 → Int32}
/-- a new object of the class -/
def re0 : SX5 := (0, (fun _ => co0, fun i => i))
def tx0 : SX8 := (0, (fun _ => 0), 0, (fun _ => 0), fun _ => 0)
def to0 : SX11 := (co0, re0, tx0)
theorem in_AS {S : SX12} (h1 : gX12_m S = mI inZ) (h2 : gX12_saved S = mI (fun _ => 0)) (h3 : gX12_savedCount S = iI 0) (h4 : gX12_textLength S = iI 0) : AS to0 inZ (fun _ => 0) 0 0 :=
  ⟨S, ⟨h1, h2, h3, in_nz, in_MK, in_Cp, ⟨id rfl, by omega, fun i hi => hi, fun i j hi hj h => absurd (show i = j from h) (by omega), fun i hi => absurd hi (by omega)⟩, 0, fun _ => 0, id rfl, h4, by omega, fun k a b => absurd b (by omega)⟩, h4, by omega⟩
theorem in_PQ : PQ inZ 0 0 := ⟨in_z (by omega), in_z (by omega), in_z (by omega), in_z (by omega), fun e a b => absurd b (by omega), fun r a b => Or.inl (by rw [in_r a b (by omega) (by omega)]; rfl)⟩
/-- the law says yes, whatever its script -/
theorem law_start : DL_law c to0 = some (iI 1) :=
  law_ok (in_AS (S := uX12_textLength (uX12_savedCount (uX12_saved (uX12_m (((fun _ => 0), (fun _ => 0), 0, (fun _ => 0), 0, 0, (fun _ => 0), (fun _ => 0), (fun _ => 0), 0, 0, 0) : SX12) (mI inZ)) (mI (fun _ => 0))) (iI 0)) (iI 0)) rfl rfl rfl rfl) in_PQ rfl rfl
end IG
