section TZ
variable {M V : Int → Int} {X : SX8} {S : SX12} {L : Int} {Tx : Int → Int} {T : SX11} {c : Int}
def cL (g : Nat) (d a : Int) (X : SX8) : Option (Int32 × SX8) := DX8_readNumbers_L9 (fun v2 S4 => some (v2, S4)) (fun v1 S14 => if v1 = iI 0 then some (gX8_length S14, S14) else some (iI (-1), S14)) g (iI d) (iI a) X
def rL (h : Nat) (w m : Int) (S : SX12) : Option (Int32 × SX12) := DX12_faultOf_L14 (fun S8 => some (gX12_at S8, S8)) (fun v1 S13 => if gX12_textLength S13 ≤ gX12_at S13 then some (v1, S13) else some (gX12_at S13, S13)) h (iI w) (iI m) S
/-- what reading comes to, on both sides -/
def tOut (M : Int → Int) (L : Int) (X : SX8) (S : SX12) (rc : Option (Int32 × SX8)) (rr : Option (Int32 × SX12)) : Prop :=
  ∃ X' S', samX X X' ∧ samS S S' ∧
    ((∃ r : Int, (0 ≤ r ∧ r ≤ L) ∧ rc = some (iI r, X') ∧ rr = some (iI r, S')) ∨
    (∃ (F : Nat) (nn ss : Nat → Int), (1 ≤ F ∧ F ≤ 4) ∧ nX X' F nn ss ∧ nS S' F nn ∧ rc = some (iI (-1), X') ∧ rr = some (iI (wrZ nn ss (M 5) F), S')))
theorem wr_b {nn ss : Nat → Int} {w : Int} : ∀ n : Nat, (∀ k : Nat, k < n → 0 ≤ ss k ∧ ss k ≤ 40) → -1 ≤ wrZ nn ss w n ∧ wrZ nn ss w n ≤ 40 := by
  intro n
  induction n with
  | zero => intro _; exact ⟨Int.le_refl _, by show (-1 : Int) ≤ 40; omega⟩
  | succ n ih =>
    intro h
    have i := ih fun k hk => h k (by omega)
    have := h n (by omega)
    rw [wrZ]
    split <;> omega
theorem wr_next (nn ss : Nat → Int) (w : Int) (f : Nat) (v a : Int) : wrZ (nxN nn f v) (nxN ss f a) w (f + 1) = if wrZ nn ss w f = -1 ∧ (!(decide (v < w) && al (fun i => decide (nn i.toNat ≠ v)) f)) = true then a else wrZ nn ss w f := by
  have eb : badZ (nxN nn f v) w f = !(decide (v < w) && al (fun i => decide (nn i.toNat ≠ v)) f) := by
    unfold badZ
    rw [show nxN nn f v (f : Int).toNat = v from if_pos (by omega), show ((f : Int)).toNat = f by omega, al_nxN nn f v _ _ (Nat.le_refl f)]
  rw [wrZ, wr_nxN _ _ _ _ _ _ _ (Nat.le_refl f), eb, show nxN ss f a f = a from if_pos rfl]
theorem T_step (h5 : 0 ≤ M 5) (h5' : M 5 ≤ 30) {f : Nat} (hf : f < 4) {a : Int} {nn ss : Nat → Int} {g h : Nat} (hT : tI X S L Tx) (ha : gX12_at S = iI a) (h0 : 0 ≤ a) (haL : a ≤ L) (hm : gX12_m S = mI M) (hX : nX X f nn ss) (hS : nS S f nn) (hg : (L - a).toNat + 1 < g) (hh : 2 < h) :
    tOut M L X S (cL g 0 a X) (rL h (wrZ nn ss (M 5) f) 1 S) ∨
    ∃ (v b : Int) (X1 : SX8) (S1 : SX12) (g1 : Nat), (f < 3 ∧ 0 ≤ b ∧ b < L) ∧ samX X X1 ∧ samS S S1 ∧ nX X1 (f + 1) (nxN nn f v) (nxN ss f a) ∧ nS S1 (f + 1) (nxN nn f v) ∧ gX12_at S1 = iI (b + 1) ∧ (L - (b + 1)).toNat + 1 < g1 ∧ cL g 0 a X = cL g1 0 (b + 1) X1 ∧ rL h (wrZ nn ss (M 5) f) 1 S = rL (h - 1) (wrZ (nxN nn f v) (nxN ss f a) (M 5) (f + 1)) 1 S1 := by
  have hx3 := hT.2.2.1
  have wb := wr_b (nn := nn) (w := M 5) f (fun k hk => (hX.2 k hk).2.2.2)
  obtain ⟨h1, rfl⟩ : ∃ h1, h = h1 + 1 := ⟨h - 1, by omega⟩
  have ro := R_out hT ha h0 (by omega) hm h5 h5' hf hS wb.1 wb.2 h1 (fun S8 => some (gX12_at S8, S8)) (fun v1 S13 => if gX12_textLength S13 ≤ gX12_at S13 then some (v1, S13) else some (gX12_at S13, S13))
  by_cases q : isd L Tx a
  · obtain ⟨v, b, d, X1, v1, b1, d1, db, x1, x2, x3, x4⟩ := T_dig hT ha h0 hf hX q
    obtain ⟨S1, s1, s2, s3, s4⟩ := ro.2 v b v1 b1.1 b1.2 x3
    have hT1 : tI X1 S1 L Tx := tI_s hT s1 x1
    have xf : gX8_found X1 = iI ((f + 1 : Nat) : Int) := x2.1
    obtain ⟨g2, hg2⟩ : ∃ g2, g = (g2 + 1) + (b - a).toNat := ⟨g - (b - a).toNat - 1, by omega⟩
    rw [← wr_next nn ss (M 5) f v a] at s4
    have ecl : ∀ z, cL g 0 a X = z ↔ cL (g2 + 1) d b X1 = z := fun z => by
      unfold cL
      rw [hg2, x4]
    by_cases qL : b = L
    · left
      have nc : ¬ (b < L ∧ Tx b = 44 ∧ f < 3) := by omega
      rw [if_neg nc] at s3 s4
      refine ⟨X1, S1, x1, s1, Or.inr ⟨f + 1, _, _, by omega, x2, s2, (ecl _).mpr ?_, ?_⟩⟩
      · unfold cL
        rw [qL, C_l9e hT1, if_neg (by rw [iI_eq (by omega) (by omega) (by omega) (by omega)]; omega)]
      · unfold rL
        rw [s4]
        obtain ⟨h2, rfl⟩ : ∃ h2, h1 = h2 + 1 := ⟨h1 - 1, by omega⟩
        rw [DX12_faultOf_L14]
        simp only [iI_lit, if_true]
        rw [hT1.2.1, s3, if_le (by omega) (by omega) (by omega) (by omega), if_pos (by omega)]
    · have bL : b < L := by omega
      by_cases qc : Tx b = 44 ∧ f < 3
      · right
        rw [if_pos ⟨bL, qc.1, qc.2⟩] at s3 s4
        refine ⟨v, b, X1, S1, g2, ⟨qc.2, by omega, bL⟩, x1, s1, x2, s2, s3, by omega, (ecl _).mpr ?_, s4⟩
        unfold cL
        rw [(C_l9 hT1 (by omega) bL (by omega) d1.2 xf (by omega) g2 _ _).2.1 (by omega) ⟨qc.1, by omega, by omega⟩]
      · left
        have nc : ¬ (b < L ∧ Tx b = 44 ∧ f < 3) := fun h => qc h.2
        rw [if_neg nc] at s3 s4
        refine ⟨X1, S1, x1, s1, Or.inl ⟨b, by omega, (ecl _).mpr ?_, ?_⟩⟩
        · unfold cL
          rw [(C_l9 hT1 (by omega) bL (by omega) d1.2 xf (by omega) g2 _ _).2.2 (fun h => by have := db ⟨bL, h.1⟩; omega) (fun h => qc ⟨h.1, by omega⟩)]
        · unfold rL
          rw [s4]
          obtain ⟨h2, rfl⟩ : ∃ h2, h1 = h2 + 1 := ⟨h1 - 1, by omega⟩
          rw [DX12_faultOf_L14]
          simp only [iI_lit, if_true]
          rw [hT1.2.1, s3, if_le (by omega) (by omega) (by omega) (by omega), if_neg (by omega)]
  · left
    refine ⟨X, S, ⟨rfl, rfl⟩, ⟨rfl, rfl, rfl, rfl, rfl, rfl⟩, Or.inl ⟨a, by omega, ?_, ?_⟩⟩
    · unfold cL
      obtain ⟨g2, rfl⟩ : ∃ g2, g = g2 + 1 := ⟨g - 1, by omega⟩
      by_cases qL : a = L
      · rw [qL, C_l9e hT, if_pos rfl, hT.1]
      · rw [(C_l9 hT h0 (by omega) (by omega) (by omega) hX.1 (by omega) g2 _ _).2.2 (fun h => q ⟨by omega, h.1⟩) (fun h => by omega)]
    · unfold rL
      rw [ro.1 q, ha]
theorem T_main (h5 : 0 ≤ M 5) (h5' : M 5 ≤ 30) : ∀ (n f : Nat), f + (n + 1) = 4 → ∀ (X : SX8) (S : SX12) (a : Int) (nn ss : Nat → Int) (g h : Nat), tI X S L Tx → gX12_at S = iI a → 0 ≤ a → a ≤ L → gX12_m S = mI M → nX X f nn ss → nS S f nn → (L - a).toNat + 1 < g → n + 2 < h →
    tOut M L X S (cL g 0 a X) (rL h (wrZ nn ss (M 5) f) 1 S) := by
  intro n
  induction n with
  | zero =>
    intro f hfn X S a nn ss g h hT ha h0 haL hm hX hS hg hh
    have hh2 : 2 < h := by omega
    rcases T_step h5 h5' (show f < 4 by omega) hT ha h0 haL hm hX hS hg hh2 with k | ⟨v, b, X1, S1, g1, hb, -⟩
    · exact k
    · omega
  | succ n ih =>
    intro f hfn X S a nn ss g h hT ha h0 haL hm hX hS hg hh
    have hh2 : 2 < h := by omega
    rcases T_step h5 h5' (show f < 4 by omega) hT ha h0 haL hm hX hS hg hh2 with k | ⟨v, b, X1, S1, g1, hb, x1, x2, x3, x4, x5, x6, x8, x9⟩
    · exact k
    · obtain ⟨X', S', y1, y2, y3⟩ := ih (f + 1) (by omega) X1 S1 (b + 1) (nxN nn f v) (nxN ss f a) g1 (h - 1) (tI_s hT x2 x1) x5 (by omega) (by omega) (x2.1.trans hm) x3 x4 x6 (by omega)
      refine ⟨X', S', samX_t x1 y1, samS_t x2 y2, ?_⟩
      rw [x8, x9]
      exact y3
theorem C_told {f : Nat} {nn ss : Nat → Int} (h : nX X f nn ss) (hf : f ≤ 4) {k : Nat} (hk : k < f) : DX8_isToldBefore X (iI k) = some (bI (!(al (fun i => decide (nn i.toNat ≠ nn k)) k))) := by
  obtain ⟨-, h2⟩ := h
  have key : DX8_isToldBefore_L2 X (iI k) (fun _ => some (iI 1)) (fun _ => some (iI 0)) fu (iI 0) = if fst (fun i => decide (nn i.toNat = nn k)) k = -1 then some (iI 0) else some (iI 1) := by
    refine upS (fun g j => DX8_isToldBefore_L2 X (iI k) (fun _ => some (iI 1)) (fun _ => some (iI 0)) g (iI j)) (fun z => if z = -1 then some (iI 0) else some (iI 1)) (fun i => decide (nn i.toNat = nn k)) k ?_ ?_ ?_ fu (by unfold fu; omega)
    · intro g j hj hp
      show DX8_isToldBefore_L2 _ _ _ _ _ _ = _
      obtain ⟨m1, -, m3, -⟩ := h2 j (by omega)
      obtain ⟨n1, -, n3, -⟩ := h2 k hk
      have hp : ¬ nn (j : Int).toNat = nn k := of_decide_eq_false hp
      rw [show ((j : Int)).toNat = j by omega] at hp
      rw [DX8_isToldBefore_L2]
      simp only [iI_lit, iI_add]
      rw [if_le (by omega) (by omega) (by omega) (by omega), if_neg (by omega), gd_iI (by omega) (by omega) (by omega), gd_iI (by omega) (by omega) (by omega), iI_nat (by omega) (by omega), iI_nat (by omega) (by omega), show ((j : Int)).toNat = j by omega, show ((k : Int)).toNat = k by omega, m1, n1, if_eq (by omega) (by omega) (by omega) (by omega), if_neg hp]
      rfl
    · intro g j hj hp
      show DX8_isToldBefore_L2 _ _ _ _ _ _ = _
      obtain ⟨m1, -, m3, -⟩ := h2 j (by omega)
      obtain ⟨n1, -, n3, -⟩ := h2 k hk
      have hp : nn (j : Int).toNat = nn k := of_decide_eq_true hp
      rw [show ((j : Int)).toNat = j by omega] at hp
      rw [DX8_isToldBefore_L2]
      simp only [iI_lit, iI_add]
      rw [if_le (by omega) (by omega) (by omega) (by omega), if_neg (by omega), gd_iI (by omega) (by omega) (by omega), gd_iI (by omega) (by omega) (by omega), iI_nat (by omega) (by omega), iI_nat (by omega) (by omega), show ((j : Int)).toNat = j by omega, show ((k : Int)).toNat = k by omega, m1, n1, if_eq (by omega) (by omega) (by omega) (by omega), if_pos hp, if_neg (by omega)]
    · intro g
      show DX8_isToldBefore_L2 _ _ _ _ _ _ = _
      rw [DX8_isToldBefore_L2, if_le (by omega) (by omega) (by omega) (by omega), if_pos (by omega), if_pos rfl]
  unfold DX8_isToldBefore
  simp only [iI_lit]
  rw [key]
  have hal : al (fun i => decide (nn i.toNat ≠ nn k)) k = true ↔ fst (fun i => decide (nn i.toNat = nn k)) k = -1 := by
    rw [al_iff, fst_none]
    exact ⟨fun h i hi => decide_eq_false (of_decide_eq_true (h i hi)), fun h i hi => decide_eq_true (of_decide_eq_false (h i hi))⟩
  by_cases q : fst (fun i => decide (nn i.toNat = nn k)) k = -1
  · rw [if_pos q, hal.mpr q]; rfl
  · rw [if_neg q]
    cases q1 : al (fun i => decide (nn i.toNat ≠ nn k)) k with
    | true => exact absurd (hal.mp q1) q
    | false => rfl
theorem C_among {F : Nat} {nn ss : Nat → Int} (h : nX X F nn ss) (hF : F ≤ 4) {w : Int} (hw : 0 ≤ w) (hw' : w ≤ 30) : DX8_faultAmong_L14 (iI w) (fun v3 S4 => gd (gIn v3 4) (some (gX8_starts S4 v3.toNatClampNeg, S4))) (fun S14 => some (iI (-1), S14)) fu (iI 0) X = some (iI (wrZ nn ss w F), X) := by
  have hss : ∀ k : Nat, k < F → 0 ≤ ss k := fun k hk => (h.2 k hk).2.2.2.1
  have ewr : wrZ nn ss w F = if fst (badZ nn w) F = -1 then -1 else ss (fst (badZ nn w) F).toNat := by
    have e1 := wr_fst nn (fun k => if k < F then ss k else 0) w (fun k hk => by
      show 0 ≤ if k < F then ss k else 0
      split
      · next q => exact hss k q
      · omega) F hF
    have e2 : ∀ n : Nat, n ≤ F → wrZ nn (fun k => if k < F then ss k else 0) w n = wrZ nn ss w n := by
      intro n
      induction n with
      | zero => intro _; rfl
      | succ n ih =>
        intro hn
        rw [wrZ, wrZ, ih (by omega), if_pos (show n < F by omega)]
    rw [e2 F (Nat.le_refl F)] at e1
    rw [e1]
    have f1 := fst_lo (badZ nn w) F
    have f2 := fst_hi (badZ nn w) F
    by_cases q : fst (badZ nn w) F = -1
    · rw [if_pos q, if_pos q]
    · rw [if_neg q, if_neg q, if_pos (by omega)]
  rw [ewr]
  have f1 := fst_lo (badZ nn w) F
  have f2 := fst_hi (badZ nn w) F
  have key := upS (fun g j => DX8_faultAmong_L14 (iI w) (fun v3 S4 => gd (gIn v3 4) (some (gX8_starts S4 v3.toNatClampNeg, S4))) (fun S14 => some (iI (-1), S14)) g (iI j) X) (fun z => if z = -1 then some (iI (-1), X) else some (gX8_starts X z.toNat, X)) (badZ nn w) F ?_ ?_ ?_ fu (by unfold fu; omega)
  · refine Eq.trans key ?_
    by_cases q : fst (badZ nn w) F = -1
    · rw [if_pos q, if_pos q]
    · rw [if_neg q, if_neg q, (h.2 (fst (badZ nn w) F).toNat (by omega)).2.1]
  · intro g j hj hp
    show DX8_faultAmong_L14 _ _ _ _ _ _ = _
    obtain ⟨m1, m2, m3, m4⟩ := h.2 j hj
    unfold badZ at hp
    rw [show ((j : Int)).toNat = j by omega] at hp
    simp only [Bool.not_eq_false', Bool.and_eq_true, decide_eq_true_eq] at hp
    rw [DX8_faultAmong_L14, h.1]
    simp only [iI_lit, iI_add]
    rw [if_le (by omega) (by omega) (by omega) (by omega), if_neg (by omega), gd_iI (by omega) (by omega) (by omega), iI_nat (by omega) (by omega), show ((j : Int)).toNat = j by omega, m1, if_le (by omega) (by omega) (by omega) (by omega), if_neg (by omega), C_told h hF hj, hp.2]
    rfl
  · intro g j hj hp
    show DX8_faultAmong_L14 _ _ _ _ _ _ = _
    obtain ⟨m1, m2, m3, m4⟩ := h.2 j hj
    unfold badZ at hp
    rw [show ((j : Int)).toNat = j by omega] at hp
    have fin : gd (gIn (iI j) 4) (some (gX8_starts X (iI j).toNatClampNeg, X)) = if (j : Int) = -1 then some (iI (-1), X) else some (gX8_starts X (j : Int).toNat, X) := by
      rw [gd_iI (by omega) (by omega) (by omega), iI_nat (by omega) (by omega), if_neg (by omega)]
    rw [DX8_faultAmong_L14, h.1]
    simp only [iI_lit, iI_add]
    rw [if_le (by omega) (by omega) (by omega) (by omega), if_neg (by omega), gd_iI (by omega) (by omega) (by omega), iI_nat (by omega) (by omega), show ((j : Int)).toNat = j by omega, m1, if_le (by omega) (by omega) (by omega) (by omega), C_told h hF hj]
    rw [iI_nat (by omega) (by omega), show ((j : Int)).toNat = j by omega] at fin
    simp only [Option.bind_some, if_bz, iI_nat (show 0 ≤ (j : Int) by omega) (show (j : Int) < 2147483648 by omega), show ((j : Int)).toNat = j by omega]
    rw [fin]
    by_cases q1 : w ≤ nn j
    · rw [if_pos q1]
    · rw [if_neg q1]
      rw [decide_eq_true (show nn j < w by omega), Bool.true_and] at hp
      rw [if_pos hp]
  · intro g
    show DX8_faultAmong_L14 _ _ _ _ _ _ = _
    rw [DX8_faultAmong_L14, h.1, if_le (by omega) (by omega) (by omega) (by omega), if_pos (by omega), if_pos rfl]
/-- the fault of the text, on both sides -/
theorem T_fault (h5 : 0 ≤ M 5) (h5' : M 5 ≤ 30) (hT : tI X S L Tx) (hm : gX12_m S = mI M) : ∃ (z : Int) (X' : SX8) (S' : SX12), samX X X' ∧ samS S S' ∧ DX8_faultAmong X (iI (M 5)) = some (iI z, X') ∧ DX12_faultOf S = some (iI z, S') ∧ (-1 ≤ z ∧ z ≤ 40) ∧ (z = -1 → ∃ (F : Nat) (nn ss : Nat → Int), (1 ≤ F ∧ F ≤ 4) ∧ nX X' F nn ss ∧ nS S' F nn ∧ wrZ nn ss (M 5) F = -1) := by
  have hx3 := hT.2.2.1
  have s0 : samS S (uX12_found (uX12_at S (iI 0)) (iI 0)) := ⟨rfl, rfl, rfl, rfl, rfl, rfl⟩
  have x0 : samX X (uX8_found X (iI 0)) := ⟨rfl, rfl⟩
  have key := T_main (L := L) (Tx := Tx) h5 h5' 3 0 (by omega) (uX8_found X (iI 0)) (uX12_found (uX12_at S (iI 0)) (iI 0)) 0 (fun _ => 0) (fun _ => 0) fu fu (tI_s hT s0 x0) rfl (by omega) (by omega) hm ⟨rfl, fun k hk => absurd hk (Nat.not_lt_zero k)⟩ ⟨rfl, fun k hk => absurd hk (Nat.not_lt_zero k)⟩ (by unfold fu; omega) (by unfold fu; omega)
  obtain ⟨X', S', y1, y2, y3⟩ := key
  have er : ∀ z, rL fu (wrZ (fun _ => 0) (fun _ => 0) (M 5) 0) 1 (uX12_found (uX12_at S (iI 0)) (iI 0)) = some (iI z, S') → DX12_faultOf S = some (iI z, S') := fun z hz => by
    unfold DX12_faultOf
    simp only [lt_eq, jn_eq, iI_lit, iI_neg]
    exact hz
  have ec : ∀ z, cL fu 0 0 (uX8_found X (iI 0)) = some (iI z, X') → DX8_readNumbers X = some (iI z, X') := fun z hz => by
    unfold DX8_readNumbers
    simp only [lt_eq, jn_eq, iI_lit, iI_neg]
    exact hz
  rcases y3 with ⟨r, r1, r2, r3⟩ | ⟨F, nn, ss, hF, n1, n2, r2, r3⟩
  · refine ⟨r, X', S', samX_t x0 y1, samS_t s0 y2, ?_, er r r3, by omega, fun h => by omega⟩
    unfold DX8_faultAmong
    rw [ec r r2]
    simp only [Option.bind_some, iI_lit, iI_neg]
    rw [if_eq (by omega) (by omega) (by omega) (by omega), if_neg (by omega)]
  · have wb := wr_b (nn := nn) (w := M 5) F (fun k hk => (n1.2 k hk).2.2.2)
    refine ⟨wrZ nn ss (M 5) F, X', S', samX_t x0 y1, samS_t s0 y2, ?_, er _ r3, wb, fun h => ⟨F, nn, ss, hF, n1, n2, h⟩⟩
    unfold DX8_faultAmong
    rw [ec _ r2]
    simp only [Option.bind_some, iI_lit, iI_neg, jn_eq]
    rw [if_pos trivial]
    exact C_among n1 hF.2 h5 h5'
theorem tx_c (h : TxC X S) : ∃ L Tx, tI X S L Tx := h
theorem c_tx (h : tI X S L Tx) : TxC X S := ⟨L, Tx, h⟩
theorem K_fault (h : GG T S) : AnsF (DX11_fault T) (DX12_fault S) := by
  obtain ⟨M, V, c, h⟩ := h
  obtain ⟨gm, gv, gc, hz, hMK, hC, hK, hX⟩ := h
  obtain ⟨L, Tx, hT⟩ := hX
  have h5 := hMK.1.2.2.1.1
  obtain ⟨z, X', S', y1, y2, y3, y4, -⟩ := T_fault (X := gX11_text T) (S := uX12_code S (iI 0)) h5.1 h5.2 hT gm
  refine ⟨iI z, uX11_text T X', S', ?_, ?_, M, V, c, y2.1.trans gm, y2.2.1.trans gv, y2.2.2.1.trans gc, hz, hMK, hC, hK, c_tx (tI_s (S := uX12_code S (iI 0)) hT y2 y1)⟩
  · unfold DX11_fault
    rw [hC.2.2.2.2.1.1, y3]
    rfl
  · unfold DX12_fault
    simp only [lt_eq, iI_lit]
    rw [y4]
    rfl
end TZ
