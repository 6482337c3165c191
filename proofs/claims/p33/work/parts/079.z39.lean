section TY
variable {M V : Int → Int} {X : SX8} {S : SX12} {L : Int} {Tx : Int → Int}
theorem C_rd1 {f : Nat} (hf : gX8_found X = iI f) (h4 : f < 4) (a t : Int) : DX8_readDigit X (iI a) (iI t) (iI 1) = some (uX8_found (uX8_numbers (uX8_starts X (upd (gX8_starts X) f (iI a))) (upd (gX8_numbers X) f (iI t))) (iI ((f : Int) + 1))) := by
  unfold DX8_readDigit
  simp only [iI_lit, jn_eq, lt_eq, if_neg (show ¬ iI 1 = iI 0 by decide), show ∀ v, gX8_found (uX8_starts X v) = gX8_found X from fun _ => rfl, show ∀ v w, gX8_found (uX8_numbers (uX8_starts X v) w) = gX8_found X from fun _ _ => rfl, show ∀ v, gX8_numbers (uX8_starts X v) = gX8_numbers X from fun _ => rfl]
  rw [hf, if_le (by omega) (by omega) (by omega) (by omega), if_neg (by omega), gd_iI (by omega) (by omega) (by omega), gd_iI (by omega) (by omega) (by omega), iI_nat (by omega) (by omega), show ((f : Int)).toNat = f by omega, iI_add]
theorem C_rd2 {f : Nat} (hf : gX8_found X = iI ((f : Int) + 1)) (h4 : f < 4) (a t : Int) : DX8_readDigit X (iI a) (iI t) (iI 0) = some (uX8_numbers X (upd (gX8_numbers X) f (gX8_numbers X f * iI 10 + iI t))) := by
  unfold DX8_readDigit
  simp only [iI_lit, jn_eq, lt_eq, if_pos (show iI 0 = iI 0 from rfl)]
  rw [hf, C_between (by omega) (by omega) (by omega) (by omega) (by omega) (by omega)]
  simp only [Option.bind_some, if_bz, decide_eq_true_eq, iI_sub, if_true]
  rw [if_pos (show 1 ≤ (f : Int) + 1 ∧ (f : Int) + 1 ≤ 4 by omega), gd_iI (by omega) (by omega) (by omega), gd_iI (by omega) (by omega) (by omega), iI_nat (by omega) (by omega), show ((f : Int) + 1 - 1).toNat = f by omega]
theorem C_l9 (h : tI X S L Tx) {i d : Int} (hi : 0 ≤ i) (hi' : i < L) (hd : 0 ≤ d) (hd' : d ≤ 2) {f : Nat} (hf : gX8_found X = iI f) (hf' : f ≤ 4) (g : Nat) (k7 k10 : Int32 → SX8 → Option (Int32 × SX8)) :
    ((48 ≤ Tx i ∧ Tx i ≤ 57) → d < 2 → DX8_readNumbers_L9 k7 k10 (g + 1) (iI d) (iI i) X = (DX8_readDigit X (iI i) (iI (Tx i - 48)) (iI (if d = 0 then 1 else 0))).bind fun x => DX8_readNumbers_L9 k7 k10 g (iI (d + 1)) (iI (i + 1)) x) ∧
    (¬ ((48 ≤ Tx i ∧ Tx i ≤ 57) ∧ d < 2) → (Tx i = 44 ∧ 0 < d ∧ f < 4) → DX8_readNumbers_L9 k7 k10 (g + 1) (iI d) (iI i) X = DX8_readNumbers_L9 k7 k10 g (iI 0) (iI (i + 1)) X) ∧
    (¬ ((48 ≤ Tx i ∧ Tx i ≤ 57) ∧ d < 2) → ¬ (Tx i = 44 ∧ 0 < d ∧ f < 4) → DX8_readNumbers_L9 k7 k10 (g + 1) (iI d) (iI i) X = k7 (iI i) X) := by
  obtain ⟨x1, x2, x3, x4⟩ := h
  obtain ⟨y1, -, y3, y4⟩ := x4 i hi hi'
  have base : DX8_readNumbers_L9 k7 k10 (g + 1) (iI d) (iI i) X = if 48 ≤ Tx i ∧ Tx i ≤ 57 then if 2 ≤ d then if Tx i = 44 then if d ≤ 0 then k7 (iI i) X else if 4 ≤ (f : Int) then k7 (iI i) X else DX8_readNumbers_L9 k7 k10 g (iI 0) (iI (i + 1)) X else k7 (iI i) X else (if d + 1 = 1 then (DX8_readDigit X (iI i) (iI (Tx i - 48)) (iI 1)).bind fun x => DX8_readNumbers_L9 k7 k10 g (iI (d + 1)) (iI (i + 1)) x else (DX8_readDigit X (iI i) (iI (Tx i - 48)) (iI 0)).bind fun x => DX8_readNumbers_L9 k7 k10 g (iI (d + 1)) (iI (i + 1)) x) else if Tx i = 44 then if d ≤ 0 then k7 (iI i) X else if 4 ≤ (f : Int) then k7 (iI i) X else DX8_readNumbers_L9 k7 k10 g (iI 0) (iI (i + 1)) X else k7 (iI i) X := by
    rw [DX8_readNumbers_L9]
    simp only [iI_lit, jn_eq, iI_add]
    rw [x1, if_le (by omega) (by omega) (by omega) (by omega), if_neg (by omega), gd_iI (by omega) (by omega) (by omega), iI_nat (by omega) (by omega), y1, C_between (by omega) (by omega) (by omega) (by omega) (by omega) (by omega), hf]
    simp only [Option.bind_some, if_bz, decide_eq_true_eq, iI_sub]
    rw [if_eq (by omega) (by omega) (by omega) (by omega), if_le (by omega) (by omega) (by omega) (by omega), if_le (by omega) (by omega) (by omega) (by omega), if_le (by omega) (by omega) (by omega) (by omega), if_eq (by omega) (by omega) (by omega) (by omega)]
  rw [base]
  refine ⟨fun q q1 => ?_, fun q q1 => ?_, fun q q1 => ?_⟩
  · rw [if_pos q, if_neg (by omega)]
    by_cases q2 : d = 0
    · rw [if_pos (by omega), if_pos q2]
    · rw [if_neg (by omega), if_neg q2]
  · by_cases q2 : 48 ≤ Tx i ∧ Tx i ≤ 57
    · omega
    · rw [if_neg q2, if_pos q1.1, if_neg (by omega), if_neg (by omega)]
  · by_cases q2 : 48 ≤ Tx i ∧ Tx i ≤ 57
    · rw [if_pos q2, if_pos (by omega), if_neg (by omega)]
    · rw [if_neg q2]
      by_cases q3 : Tx i = 44
      · rw [if_pos q3]
        by_cases q4 : d ≤ 0
        · rw [if_pos q4]
        · rw [if_neg q4, if_pos (by omega)]
      · rw [if_neg q3]
theorem C_l9e (h : tI X S L Tx) {d : Int} (g : Nat) (k7 k10 : Int32 → SX8 → Option (Int32 × SX8)) : DX8_readNumbers_L9 k7 k10 (g + 1) (iI d) (iI L) X = k10 (iI d) X := by
  obtain ⟨x1, x2, x3, x4⟩ := h
  rw [DX8_readNumbers_L9, x1, if_le (by omega) (by omega) (by omega) (by omega), if_pos (by omega)]
/-- a number's digits, on both sides -/
theorem T_dig (h : tI X S L Tx) {a : Int} (ha : gX12_at S = iI a) (h0 : 0 ≤ a) {f : Nat} {nn ss : Nat → Int} (hf : f < 4) (hX : nX X f nn ss) (q : isd L Tx a) :
    ∃ (v b d : Int) (X1 : SX8), (0 ≤ v ∧ v ≤ 99) ∧ (a < b ∧ b ≤ L) ∧ (1 ≤ d ∧ d ≤ 2) ∧ (isd L Tx b → d = 2) ∧ samX X X1 ∧ nX X1 (f + 1) (nxN nn f v) (nxN ss f a) ∧
    (∀ (c1 : Int32) (k43 : Int32 → SX12 → Option (Int32 × SX12)), DX12_faultOf_L26 c1 (iI a) k43 fu (iI 0) S = k43 (iI v) (uX12_at S (iI b))) ∧
    (∀ (g : Nat) (k7 k10 : Int32 → SX8 → Option (Int32 × SX8)), DX8_readNumbers_L9 k7 k10 (g + (b - a).toNat) (iI 0) (iI a) X = DX8_readNumbers_L9 k7 k10 g (iI d) (iI b) X1) := by
  have hx3 := h.2.2.1
  have qa := q.1
  obtain ⟨f1, f2⟩ := hX
  have e1 := fun (c1 : Int32) (k43 : Int32 → SX12 → Option (Int32 × SX12)) => R_dig h ha h0 (by omega) c1 k43
  have sX : ∀ u w z, samX X (uX8_found (uX8_numbers (uX8_starts X u) w) z) := fun _ _ _ => ⟨rfl, rfl⟩
  have st1 : ∀ (g : Nat) (k7 k10 : Int32 → SX8 → Option (Int32 × SX8)), DX8_readNumbers_L9 k7 k10 (g + 1) (iI 0) (iI a) X = DX8_readNumbers_L9 k7 k10 g (iI 1) (iI (a + 1)) (uX8_found (uX8_numbers (uX8_starts X (upd (gX8_starts X) f (iI a))) (upd (gX8_numbers X) f (iI (Tx a - 48)))) (iI ((f : Int) + 1))) := fun g k7 k10 => by
    rw [(C_l9 h h0 qa (by omega) (by omega) f1 (by omega) g k7 k10).1 q.2 (by omega), if_pos rfl, C_rd1 f1 hf]
    rfl
  by_cases q1 : isd L Tx (a + 1)
  · have q1a := q1.1
    have hT1 : tI (uX8_found (uX8_numbers (uX8_starts X (upd (gX8_starts X) f (iI a))) (upd (gX8_numbers X) f (iI (Tx a - 48)))) (iI ((f : Int) + 1))) S L Tx := h
    have ev : upd (gX8_numbers X) f (iI (Tx a - 48)) f * iI 10 + iI (Tx (a + 1) - 48) = iI (10 * (Tx a - 48) + Tx (a + 1) - 48) := by
      unfold upd
      rw [if_pos rfl, iI_mul, iI_add]
      congr 1
      omega
    refine ⟨10 * (Tx a - 48) + Tx (a + 1) - 48, a + 2, 2, uX8_numbers (uX8_found (uX8_numbers (uX8_starts X (upd (gX8_starts X) f (iI a))) (upd (gX8_numbers X) f (iI (Tx a - 48)))) (iI ((f : Int) + 1))) (upd (upd (gX8_numbers X) f (iI (Tx a - 48))) f (iI (10 * (Tx a - 48) + Tx (a + 1) - 48))), by have := q.2; have := q1.2; omega, by omega, by omega, fun _ => rfl, ⟨rfl, rfl⟩, ⟨rfl, fun k hk => ?_⟩, fun c1 k43 => (e1 c1 k43).2.2 q q1, fun g k7 k10 => ?_⟩
    · show upd (upd (gX8_numbers X) f (iI (Tx a - 48))) f (iI (10 * (Tx a - 48) + Tx (a + 1) - 48)) k = iI (nxN nn f (10 * (Tx a - 48) + Tx (a + 1) - 48) k) ∧ upd (gX8_starts X) f (iI a) k = iI (nxN ss f a k) ∧ (0 ≤ nxN nn f (10 * (Tx a - 48) + Tx (a + 1) - 48) k ∧ nxN nn f (10 * (Tx a - 48) + Tx (a + 1) - 48) k ≤ 99) ∧ (0 ≤ nxN ss f a k ∧ nxN ss f a k ≤ 40)
      unfold nxN upd
      by_cases q3 : k = f
      · rw [if_pos q3, if_pos q3, if_pos q3, if_pos q3]
        have := q.2
        have := q1.2
        exact ⟨rfl, rfl, by omega, by omega⟩
      · rw [if_neg q3, if_neg q3, if_neg q3, if_neg q3, if_neg q3]
        exact f2 k (by omega)
    · rw [show g + (a + 2 - a).toNat = (g + 1) + 1 by omega, st1, (C_l9 hT1 (by omega) q1a (by omega) (by omega) (f := f + 1) (by show iI ((f : Int) + 1) = _; rw [show ((f + 1 : Nat) : Int) = (f : Int) + 1 by omega]) (by omega) g k7 k10).1 q1.2 (by omega), if_neg (by omega), C_rd2 rfl hf]
      simp only [Option.bind_some]
      rw [show gX8_numbers (uX8_found (uX8_numbers (uX8_starts X (upd (gX8_starts X) f (iI a))) (upd (gX8_numbers X) f (iI (Tx a - 48)))) (iI ((f : Int) + 1))) = upd (gX8_numbers X) f (iI (Tx a - 48)) from rfl, ev, show a + 1 + 1 = a + 2 by omega]
      rfl
  · refine ⟨Tx a - 48, a + 1, 1, uX8_found (uX8_numbers (uX8_starts X (upd (gX8_starts X) f (iI a))) (upd (gX8_numbers X) f (iI (Tx a - 48)))) (iI ((f : Int) + 1)), by have := q.2; omega, by omega, by omega, fun h => absurd h q1, ⟨rfl, rfl⟩, ⟨?_, fun k hk => ?_⟩, fun c1 k43 => (e1 c1 k43).2.1 q q1, fun g k7 k10 => ?_⟩
    · show iI ((f : Int) + 1) = _
      rw [show ((f + 1 : Nat) : Int) = (f : Int) + 1 by omega]
    · show upd (gX8_numbers X) f (iI (Tx a - 48)) k = iI (nxN nn f (Tx a - 48) k) ∧ upd (gX8_starts X) f (iI a) k = iI (nxN ss f a k) ∧ (0 ≤ nxN nn f (Tx a - 48) k ∧ nxN nn f (Tx a - 48) k ≤ 99) ∧ (0 ≤ nxN ss f a k ∧ nxN ss f a k ≤ 40)
      unfold nxN upd
      by_cases q3 : k = f
      · rw [if_pos q3, if_pos q3, if_pos q3, if_pos q3]
        have := q.2
        exact ⟨rfl, rfl, by omega, by omega⟩
      · rw [if_neg q3, if_neg q3, if_neg q3, if_neg q3]
        exact f2 k (by omega)
    · rw [show g + (a + 1 - a).toNat = g + 1 by omega, st1]
/-- the reference's next number -/
theorem R_out (h : tI X S L Tx) {a : Int} (ha : gX12_at S = iI a) (h0 : 0 ≤ a) (ha' : a ≤ 41) (hm : gX12_m S = mI M) (h5 : 0 ≤ M 5) (h5' : M 5 ≤ 30) {f : Nat} {nn : Nat → Int} (hf : f < 4) (hS : nS S f nn) {w : Int} (hw : -1 ≤ w) (hw' : w ≤ 40) (g : Nat) (k6 : SX12 → Option (Int32 × SX12)) (k9 : Int32 → SX12 → Option (Int32 × SX12)) :
    (¬ isd L Tx a → DX12_faultOf_L14 k6 k9 (g + 1) (iI w) (iI 1) S = k6 S) ∧
    (∀ v b : Int, (0 ≤ v ∧ v ≤ 99) → a < b → b ≤ L → (∀ (c1 : Int32) (k43 : Int32 → SX12 → Option (Int32 × SX12)), DX12_faultOf_L26 c1 (iI a) k43 fu (iI 0) S = k43 (iI v) (uX12_at S (iI b))) →
      ∃ (S1 : SX12), samS S S1 ∧ nS S1 (f + 1) (nxN nn f v) ∧ gX12_at S1 = iI (if b < L ∧ Tx b = 44 ∧ f < 3 then b + 1 else b) ∧
        DX12_faultOf_L14 k6 k9 (g + 1) (iI w) (iI 1) S = DX12_faultOf_L14 k6 k9 g (iI (if w = -1 ∧ (!(decide (v < M 5) && al (fun i => decide (nn i.toNat ≠ v)) f)) = true then a else w)) (iI (if b < L ∧ Tx b = 44 ∧ f < 3 then 1 else 0)) S1) := by
  have hx3 := h.2.2.1
  constructor
  · intro q
    rw [DX12_faultOf_L14]
    simp only [iI_lit, jn_eq]
    rw [if_neg (by decide), ha, (R_dig h ha h0 (by omega) _ _).1 q, ha, if_pos rfl]
  · intro v b hv hab hbL hdig
    have hfit := R_isFit (S := uX12_at S (iI b)) (nn := nn) hm h5 h5' hS (by omega) hv.1 hv.2
    obtain ⟨s1, s2⟩ := hS
    have hh := R_here (tI_s h (at_sam (v := iI b)) ⟨rfl, rfl⟩) (a := b) (id rfl) (by omega) (by omega)
    have hT := h.2.2.2
    have hb1 : -1 ≤ (if b < L then Tx b else -1) ∧ (if b < L then Tx b else -1) ≤ 126 := by
      split
      · next q => have := hT b (by omega) q; omega
      · omega
    refine ⟨uX12_at (uX12_found (uX12_draft (uX12_at S (iI b)) (upd (gX12_draft S) f (iI v))) (iI ((f : Int) + 1))) (iI (if b < L ∧ Tx b = 44 ∧ f < 3 then b + 1 else b)), ⟨rfl, rfl, rfl, rfl, rfl, rfl⟩, ⟨?_, fun k hk => ?_⟩, rfl, ?_⟩
    · show iI ((f : Int) + 1) = _
      rw [show ((f + 1 : Nat) : Int) = (f : Int) + 1 by omega]
    · show upd (gX12_draft S) f (iI v) k = iI (nxN nn f v k) ∧ (0 ≤ nxN nn f v k ∧ nxN nn f v k ≤ 99)
      unfold nxN upd
      by_cases q3 : k = f
      · rw [if_pos q3, if_pos q3]; exact ⟨rfl, hv⟩
      · rw [if_neg q3, if_neg q3]; exact s2 k (by omega)
    · have hh2 : DX12_here (uX12_found (uX12_draft (uX12_at S (iI b)) (upd (gX12_draft S) f (iI v))) (iI ((f : Int) + 1))) = some (iI (if b < L then Tx b else -1)) := hh
      rw [DX12_faultOf_L14]
      simp only [iI_lit, iI_neg, jn_eq, lt_eq]
      have ef : (iI (f : Int)).toNatClampNeg = f := by rw [iI_nat (by omega) (by omega)]; omega
      rw [if_neg (by decide), ha, hdig]
      simp only [show gX12_at (uX12_at S (iI b)) = iI b from rfl, show gX12_found (uX12_at S (iI b)) = gX12_found S from rfl, show ∀ x, gX12_found (uX12_draft (uX12_at S (iI b)) x) = gX12_found S from fun _ => rfl, show gX12_draft (uX12_at S (iI b)) = gX12_draft S from rfl, s1, iI_add, hfit, Option.bind_some, if_bz, ef, hh2, show ∀ x y, gX12_found (uX12_found (uX12_draft (uX12_at S (iI b)) x) y) = y from fun _ _ => rfl, show ∀ x y, gX12_at (uX12_found (uX12_draft (uX12_at S (iI b)) x) y) = iI b from fun _ _ => rfl, if_true, if_neg (show ¬ iI 1 = iI 0 by decide)]
      simp (disch := omega) only [if_eq, if_le, gd_iI]
      rw [if_neg (show ¬ b = a by omega)]
      have fin : ∀ z : Int32, (if (if b < L then Tx b else -1) = 44 then if 4 ≤ (f : Int) + 1 then DX12_faultOf_L14 k6 k9 g z (iI 0) (uX12_at (uX12_found (uX12_draft (uX12_at S (iI b)) (upd (gX12_draft S) f (iI v))) (iI ((f : Int) + 1))) (iI (b + 0))) else DX12_faultOf_L14 k6 k9 g z (iI 1) (uX12_at (uX12_found (uX12_draft (uX12_at S (iI b)) (upd (gX12_draft S) f (iI v))) (iI ((f : Int) + 1))) (iI (b + 1))) else DX12_faultOf_L14 k6 k9 g z (iI 0) (uX12_at (uX12_found (uX12_draft (uX12_at S (iI b)) (upd (gX12_draft S) f (iI v))) (iI ((f : Int) + 1))) (iI (b + 0)))) = DX12_faultOf_L14 k6 k9 g z (iI (if b < L ∧ Tx b = 44 ∧ f < 3 then 1 else 0)) (uX12_at (uX12_found (uX12_draft (uX12_at S (iI b)) (upd (gX12_draft S) f (iI v))) (iI ((f : Int) + 1))) (iI (if b < L ∧ Tx b = 44 ∧ f < 3 then b + 1 else b))) := by
        intro z
        rw [Int.add_zero]
        by_cases q : b < L ∧ Tx b = 44 ∧ f < 3
        · rw [if_pos q, if_pos q, if_pos (by rw [if_pos q.1]; exact q.2.1), if_neg (by omega)]
        · rw [if_neg q, if_neg q]
          by_cases q1 : (if b < L then Tx b else -1) = 44
          · rw [if_pos q1, if_pos]
            by_cases q2 : b < L
            · rw [if_pos q2] at q1
              omega
            · rw [if_neg q2] at q1
              omega
          · rw [if_neg q1]
      simp only [fin]
      by_cases q4 : w = -1
      · rw [if_pos q4]
        cases q5 : (decide (v < M 5) && al (fun i => decide (nn i.toNat ≠ v)) f) with
        | true => rw [if_pos rfl, if_neg (show ¬ (w = -1 ∧ (!true) = true) from fun h => nomatch h.2)]
        | false => rw [if_neg (show ¬ false = true by decide), if_pos (show w = -1 ∧ (!false) = true from ⟨q4, rfl⟩)]
      · rw [if_neg q4, if_neg (show ¬ (w = -1 ∧ (!(decide (v < M 5) && al (fun i => decide (nn i.toNat ≠ v)) f)) = true) from fun h => q4 h.1)]
end TY
