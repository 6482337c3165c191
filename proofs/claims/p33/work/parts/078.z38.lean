section TX
variable {M V : Int → Int} {X : SX8} {S : SX12} {L : Int} {Tx : Int → Int}
/-- the text of both -/
def tI (X : SX8) (S : SX12) (L : Int) (Tx : Int → Int) : Prop := gX8_length X = iI L ∧ gX12_textLength S = iI L ∧ (0 ≤ L ∧ L ≤ 40) ∧ ∀ k : Int, 0 ≤ k → k < L → gX8_codes X k.toNat = iI (Tx k) ∧ gX12_text S k.toNat = iI (Tx k) ∧ 32 ≤ Tx k ∧ Tx k ≤ 126
/-- the numbers that the class has read, and the reference -/
def nX (X : SX8) (f : Nat) (nn ss : Nat → Int) : Prop := gX8_found X = iI f ∧ ∀ k : Nat, k < f → gX8_numbers X k = iI (nn k) ∧ gX8_starts X k = iI (ss k) ∧ (0 ≤ nn k ∧ nn k ≤ 99) ∧ (0 ≤ ss k ∧ ss k ≤ 40)
def nS (S : SX12) (f : Nat) (nn : Nat → Int) : Prop := gX12_found S = iI f ∧ ∀ k : Nat, k < f → gX12_draft S k = iI (nn k) ∧ (0 ≤ nn k ∧ nn k ≤ 99)
def isd (L : Int) (Tx : Int → Int) (k : Int) : Prop := k < L ∧ 48 ≤ Tx k ∧ Tx k ≤ 57
theorem isd_dec (L : Int) (Tx : Int → Int) (k : Int) : isd L Tx k ∨ ¬ isd L Tx k := Classical.em _
/-- the same but for what reading leaves behind -/
def samS (S S' : SX12) : Prop := gX12_m S' = gX12_m S ∧ gX12_saved S' = gX12_saved S ∧ gX12_savedCount S' = gX12_savedCount S ∧ gX12_text S' = gX12_text S ∧ gX12_textLength S' = gX12_textLength S ∧ gX12_code S' = gX12_code S
def samX (X X' : SX8) : Prop := gX8_length X' = gX8_length X ∧ gX8_codes X' = gX8_codes X
theorem samS_t {S S' S2 : SX12} (h : samS S S') (h2 : samS S' S2) : samS S S2 := ⟨h2.1.trans h.1, h2.2.1.trans h.2.1, h2.2.2.1.trans h.2.2.1, h2.2.2.2.1.trans h.2.2.2.1, h2.2.2.2.2.1.trans h.2.2.2.2.1, h2.2.2.2.2.2.trans h.2.2.2.2.2⟩
theorem samX_t {X X' X2 : SX8} (h : samX X X') (h2 : samX X' X2) : samX X X2 := ⟨h2.1.trans h.1, h2.2.trans h.2⟩
theorem tI_s {S' : SX12} {X' : SX8} (h : tI X S L Tx) (hs : samS S S') (hx : samX X X') : tI X' S' L Tx := by
  obtain ⟨h1, h2, h3, h4⟩ := h
  refine ⟨hx.1.trans h1, hs.2.2.2.2.1.trans h2, h3, fun k a b => ?_⟩
  rw [hx.2, hs.2.2.2.1]
  exact h4 k a b
theorem R_here (h : tI X S L Tx) {a : Int} (ha : gX12_at S = iI a) (h0 : 0 ≤ a) (h1 : a < 1000) : DX12_here S = some (iI (if a < L then Tx a else -1)) := by
  obtain ⟨x1, x2, x3, x4⟩ := h
  unfold DX12_here
  simp only [iI_lit, iI_neg, jn_eq]
  rw [x2, ha, if_le (by omega) (by omega) (by omega) (by omega)]
  by_cases q : a < L
  · rw [if_neg (by omega), if_pos q, gd_iI (by omega) (by omega) (by omega), iI_nat (by omega) (by omega), (x4 a h0 q).2.1]
  · rw [if_pos (by omega), if_neg q]
theorem R_isd (h : tI X S L Tx) {a : Int} (ha : gX12_at S = iI a) (h0 : 0 ≤ a) (h1 : a < 1000) : (isd L Tx a → DX12_here S = some (iI (Tx a)) ∧ DX12_in (iI (Tx a)) (iI 48) (iI 57) = some (bI true)) ∧ (¬ isd L Tx a → ∃ w : Int, DX12_here S = some (iI w) ∧ DX12_in (iI w) (iI 48) (iI 57) = some (bI false) ∧ (-1 ≤ w ∧ w ≤ 126) ∧ (w = 44 ↔ a < L ∧ Tx a = 44)) := by
  have hh := R_here h ha h0 h1
  obtain ⟨x1, x2, x3, x4⟩ := h
  constructor
  · intro q
    have := x4 a h0 q.1
    rw [hh, if_pos q.1, R_in (by omega) (by omega) (by omega) (by omega) (by omega) (by omega), decide_eq_true ⟨q.2.1, q.2.2⟩]
    exact ⟨rfl, rfl⟩
  · intro q
    by_cases q1 : a < L
    · have := x4 a h0 q1
      refine ⟨Tx a, by rw [hh, if_pos q1], ?_, by omega, ⟨fun h => ⟨q1, h⟩, fun h => h.2⟩⟩
      rw [R_in (by omega) (by omega) (by omega) (by omega) (by omega) (by omega), decide_eq_false (fun h => q ⟨q1, h.1, h.2⟩)]
    · refine ⟨-1, by rw [hh, if_neg q1], ?_, by omega, ⟨fun h => by omega, fun h => absurd h.1 q1⟩⟩
      rw [R_in (by omega) (by omega) (by omega) (by omega) (by omega) (by omega), decide_eq_false (by omega)]
theorem at_sam {v : Int32} : samS S (uX12_at S v) := ⟨id rfl, id rfl, id rfl, id rfl, id rfl, id rfl⟩
/-- what the digits from a on come to, and how many they are -/
theorem R_dig (h : tI X S L Tx) {a : Int} (ha : gX12_at S = iI a) (h0 : 0 ≤ a) (h1 : a < 900) (c1 : Int32) (k43 : Int32 → SX12 → Option (Int32 × SX12)) :
    (¬ isd L Tx a → DX12_faultOf_L26 c1 (iI a) k43 fu (iI 0) S = k43 (iI 0) S) ∧
    (isd L Tx a → ¬ isd L Tx (a + 1) → DX12_faultOf_L26 c1 (iI a) k43 fu (iI 0) S = k43 (iI (Tx a - 48)) (uX12_at S (iI (a + 1)))) ∧
    (isd L Tx a → isd L Tx (a + 1) → DX12_faultOf_L26 c1 (iI a) k43 fu (iI 0) S = k43 (iI (10 * (Tx a - 48) + Tx (a + 1) - 48)) (uX12_at S (iI (a + 2)))) := by
  have s1 : ∀ f : Nat, ∀ v : Int, ∀ b : Int, ∀ S' : SX12, tI X S' L Tx → gX12_at S' = iI b → 0 ≤ b → b < 950 → b < a + 2 → ¬ isd L Tx b → DX12_faultOf_L26 c1 (iI a) k43 (f + 1) (iI v) S' = k43 (iI v) S' := by
    intro f v b S' hS hb b0 b1 b2 q
    obtain ⟨w, w1, w2, w3, -⟩ := (R_isd hS hb b0 (by omega)).2 q
    rw [DX12_faultOf_L26]
    simp only [iI_lit, iI_add]
    rw [hb, if_le (by omega) (by omega) (by omega) (by omega), if_neg (by omega), w1]
    simp only [Option.bind_some]
    rw [w2]
    rfl
  have s2 : ∀ f : Nat, ∀ v : Int, ∀ b : Int, ∀ S' : SX12, tI X S' L Tx → gX12_at S' = iI b → 0 ≤ b → b < 950 → b < a + 2 → isd L Tx b → DX12_faultOf_L26 c1 (iI a) k43 (f + 1) (iI v) S' = DX12_faultOf_L26 c1 (iI a) k43 f (iI (10 * v + Tx b - 48)) (uX12_at S' (iI (b + 1))) := by
    intro f v b S' hS hb b0 b1 b2 q
    obtain ⟨w1, w2⟩ := (R_isd hS hb b0 (by omega)).1 q
    rw [DX12_faultOf_L26]
    simp only [iI_lit, iI_add, lt_eq]
    rw [hb, if_le (by omega) (by omega) (by omega) (by omega), if_neg (by omega), w1]
    simp only [Option.bind_some]
    rw [w2]
    simp only [Option.bind_some, if_bz, reduceIte, iI_mul, iI_add, iI_sub]
  refine ⟨fun q => ?_, fun q q1 => ?_, fun q q1 => ?_⟩
  · rw [show fu = 999999 + 1 from rfl]
    exact s1 _ 0 a S h ha h0 (by omega) (by omega) q
  · rw [show fu = 999998 + 1 + 1 from rfl, s2 _ 0 a S h ha h0 (by omega) (by omega) q, s1 999998 (10 * 0 + Tx a - 48) (a + 1) (uX12_at S (iI (a + 1))) (tI_s h at_sam ⟨rfl, rfl⟩) rfl (by omega) (by omega) (by omega) q1, show 10 * 0 + Tx a - 48 = Tx a - 48 by omega]
  · rw [show fu = 999997 + 1 + 1 + 1 from rfl, s2 _ 0 a S h ha h0 (by omega) (by omega) q, s2 (999997 + 1) (10 * 0 + Tx a - 48) (a + 1) (uX12_at S (iI (a + 1))) (tI_s h at_sam ⟨rfl, rfl⟩) rfl (by omega) (by omega) (by omega) q1, DX12_faultOf_L26]
    simp only [iI_lit, iI_add]
    rw [show gX12_at (uX12_at (uX12_at S (iI (a + 1))) (iI (a + 1 + 1))) = iI (a + 2) by rw [show a + 2 = a + 1 + 1 by omega]; rfl, if_le (by omega) (by omega) (by omega) (by omega), if_pos (by omega), show 10 * (10 * 0 + Tx a - 48) + Tx (a + 1) - 48 = 10 * (Tx a - 48) + Tx (a + 1) - 48 by omega, show a + 1 + 1 = a + 2 by omega]
    rfl
/-- the k-th number can't stand: it's no work, or told before -/
def badZ (nn : Nat → Int) (w : Int) (k : Int) : Bool := !(decide (nn k.toNat < w) && al (fun i => decide (nn i.toNat ≠ nn k.toNat)) k.toNat)
/-- the first such place -/
def wrZ (nn ss : Nat → Int) (w : Int) : Nat → Int
  | 0 => -1
  | n + 1 => if wrZ nn ss w n = -1 ∧ badZ nn w n = true then ss n else wrZ nn ss w n
theorem R_isFit {f : Nat} {nn : Nat → Int} (hm : gX12_m S = mI M) (h5 : 0 ≤ M 5) (h5' : M 5 ≤ 30) (h : nS S f nn) (hf : f ≤ 4) {v : Int} (hv : 0 ≤ v) (hv' : v ≤ 99) : DX12_isFit S (iI v) = some (bI (decide (v < M 5) && al (fun i => decide (nn i.toNat ≠ v)) f)) := by
  obtain ⟨n2, n3⟩ := h
  unfold DX12_isFit
  simp only [iI_lit, jn_eq, hm, show mI M 5 = iI (M 5) from rfl]
  rw [if_le (by omega) (by omega) (by omega) (by omega)]
  have key : ∀ b : Bool, DX12_isFit_L18 S (iI v) (fun v2 => gd (isB v2) (some v2)) fu (bI b) (iI 0) = some (bI (b && al (fun i => decide (nn i.toNat ≠ v)) f)) := by
    intro b
    have base : b = (b && al (fun i => decide (nn i.toNat ≠ v)) 0) := by cases b <;> rfl
    have := upL (fun g j => DX12_isFit_L18 S (iI v) (fun v2 => gd (isB v2) (some v2)) g (bI (b && al (fun i => decide (nn i.toNat ≠ v)) j)) (iI j)) (some (bI (b && al (fun i => decide (nn i.toNat ≠ v)) f))) f ?_ ?_ fu (by unfold fu; omega)
    · rw [← base] at this
      exact this
    · intro g j hj
      show DX12_isFit_L18 _ _ _ _ _ _ = _
      obtain ⟨m2, m4⟩ := n3 j hj
      rw [DX12_isFit_L18, n2]
      simp only [iI_lit, jn_eq, iI_add, if_bz]
      rw [if_le (by omega) (by omega) (by omega) (by omega), if_neg (by omega), gd_iI (by omega) (by omega) (by omega), iI_nat (by omega) (by omega), show ((j : Int)).toNat = j by omega, m2, if_eq (by omega) (by omega) (by omega) (by omega), al, show ((j + 1 : Nat) : Int) = (j : Int) + 1 by omega, show ((j : Int)).toNat = j by omega]
      generalize al (fun i => decide (nn i.toNat ≠ v)) j = A
      by_cases q : nn j = v
      · rw [if_pos q, decide_eq_false (fun h => h q)]
        cases b <;> cases A <;> rfl
      · rw [if_neg q, decide_eq_true q]
        cases b <;> cases A <;> rfl
    · intro g
      show DX12_isFit_L18 _ _ _ _ _ _ = _
      rw [DX12_isFit_L18, n2, if_le (by omega) (by omega) (by omega) (by omega), if_pos (by omega), gd_bI]
  by_cases q : M 5 ≤ v
  · rw [if_pos q, decide_eq_false (show ¬ v < M 5 by omega)]; exact key false
  · rw [if_neg q, decide_eq_true (show v < M 5 by omega)]; exact key true
/-- the numbers with one more -/
def nxN (nn : Nat → Int) (f : Nat) (v : Int) : Nat → Int := fun k => if k = f then v else nn k
theorem al_nxN (nn : Nat → Int) (f : Nat) (v w : Int) : ∀ n : Nat, n ≤ f → al (fun i => decide (nxN nn f v i.toNat ≠ w)) n = al (fun i => decide (nn i.toNat ≠ w)) n := by
  intro n hn
  refine al_congr n fun k hk => ?_
  show decide (nxN nn f v (k : Int).toNat ≠ w) = decide (nn (k : Int).toNat ≠ w)
  unfold nxN
  rw [if_neg (by omega)]
theorem wr_nxN (nn ss : Nat → Int) (w : Int) (f : Nat) (v a : Int) : ∀ n : Nat, n ≤ f → wrZ (nxN nn f v) (nxN ss f a) w n = wrZ nn ss w n := by
  intro n
  induction n with
  | zero => intro _; rfl
  | succ n ih =>
    intro hn
    have eb : badZ (nxN nn f v) w n = badZ nn w n := by
      unfold badZ
      rw [show nxN nn f v (n : Int).toNat = nn (n : Int).toNat from if_neg (by omega), al_nxN nn f v _ _ (by omega)]
    rw [wrZ, wrZ, ih (by omega), eb, show nxN ss f a n = ss n from if_neg (by omega)]
theorem wr_fst (nn ss : Nat → Int) (w : Int) (hs : ∀ k : Nat, k < 4 → 0 ≤ ss k) : ∀ n : Nat, n ≤ 4 → wrZ nn ss w n = if fst (badZ nn w) n = -1 then -1 else ss (fst (badZ nn w) n).toNat := by
  intro n
  induction n with
  | zero => intro _; rfl
  | succ n ih =>
    intro hn
    have i := ih (by omega)
    have f1 := fst_lo (badZ nn w) n
    have f2 := fst_hi (badZ nn w) n
    have s0 := hs n (by omega)
    rw [wrZ, fst]
    by_cases q : fst (badZ nn w) n = -1
    · rw [if_pos q] at i
      rw [if_pos q]
      cases q1 : badZ nn w n with
      | true => rw [if_pos ⟨i, rfl⟩, if_pos rfl, if_neg (by omega), show ((n : Int)).toNat = n by omega]
      | false => rw [if_neg (fun h => nomatch h.2), if_neg (show ¬ false = true by decide), if_pos rfl, i]
    · rw [if_neg q] at i
      have := hs (fst (badZ nn w) n).toNat (by omega)
      rw [if_neg q, if_neg (by omega), if_neg q, i]
end TX
