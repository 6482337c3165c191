/-! the law itself: what a script's cell gives, and the loops that set a competition up -/
section LA
variable {M N : Int → Int} {T : SX11} {c : Int32 → Int32}
def lw (v : Int32) (n : Int) : Int := (v &&& 2147483647).toInt % n
theorem and_nn (v : Int32) : 0 ≤ (v &&& 2147483647).toInt := by
  show 0 ≤ (v.toBitVec &&& 2147483647#32).toInt
  rw [BitVec.toInt_eq_msb_cond, BitVec.msb_and, show (2147483647#32 : BitVec 32).msb = false by decide, Bool.and_false, if_neg (by simp)]
  exact Int.natCast_nonneg _
theorem and_hi (v : Int32) : (v &&& 2147483647).toInt < 2147483648 := Int32.toInt_lt _
theorem lw_b (v : Int32) {n : Int} (h : 1 ≤ n) : 0 ≤ lw v n ∧ lw v n < n := ⟨Int.emod_nonneg _ (by omega), Int.emod_lt_of_pos _ (by omega)⟩
theorem lw_at (v : Int32) {n : Int} (h : 1 ≤ n) (h' : n < 2147483648) : DL_low v (iI n) = some (iI (lw v n)) := by
  have h0 := and_nn v
  have h1 := and_hi v
  unfold DL_low lw
  rw [gz_iI (by omega) (by omega) (by omega)]
  obtain ⟨x, hx⟩ : ∃ x, x = (v &&& 2147483647).toInt := ⟨_, rfl⟩
  rw [← hx] at h0 h1 ⊢
  have e : v &&& 2147483647 = iI x := by
    rw [hx]
    exact (iI_of _).symm
  rw [e, iI_div h0 h1 (by omega) h', iI_mul, iI_sub, Int.emod_def, Int.mul_comm]
theorem lws (v : Int32) : DL_low v (iI 6) = some (iI (lw v 6)) ∧ DL_low v (iI 9) = some (iI (lw v 9)) ∧ DL_low v (iI 5) = some (iI (lw v 5)) ∧ DL_low v (iI 4) = some (iI (lw v 4)) ∧ DL_low v (iI 3) = some (iI (lw v 3)) ∧ DL_low v (iI 2) = some (iI (lw v 2)) ∧ DL_low v (iI 12) = some (iI (lw v 12)) ∧ DL_low v (iI 100) = some (iI (lw v 100)) ∧ DL_low v (iI 101) = some (iI (lw v 101)) ∧ DL_low v (iI 21) = some (iI (lw v 21)) ∧ DL_low v (iI 30) = some (iI (lw v 30)) ∧ DL_low v (iI 11) = some (iI (lw v 11)) ∧ DL_low v (iI 100001) = some (iI (lw v 100001)) := by
  refine ⟨?_, ?_, ?_, ?_, ?_, ?_, ?_, ?_, ?_, ?_, ?_, ?_, ?_⟩ <;> exact lw_at v (by omega) (by omega)
theorem lit9 : (100001 : Int32) = iI 100001 ∧ (30 : Int32) = iI 30 ∧ (48 : Int32) = iI 48 ∧ (44 : Int32) = iI 44 ∧ (70 : Int32) = iI 70 ∧ (40 : Int32) = iI 40 := ⟨id rfl, id rfl, id rfl, id rfl, id rfl, id rfl⟩
theorem gd_nn {α : Type} {a : Int} {x : Option α} (h : 0 ≤ a) (h' : a < 2147483648) : gd (decide (iI 0 ≤ iI a)) x = x := gd_d (by rw [iI_le (by omega) (by omega) (by omega) (by omega)]; exact h)
def LK (x : Option Int32) : Prop := x = some (iI 1)
theorem LKjn {α : Type} {K : α} {B : α → Option Int32} (h : ∀ k : α, k = K → LK (B k)) : LK (jn K B) := h K rfl
/-- nothing has begun: so many works and entrants, all in -/
def PQ (M : Int → Int) (W E : Int) : Prop := M 3 = 0 ∧ M 4 = 0 ∧ M 5 = W ∧ M 6 = E ∧ (∀ e : Int, 0 ≤ e → e < E → M (126 + e) = 1) ∧ ∀ r : Int, 0 ≤ r → r < 4 → M (ruleZ r 4) = 0 ∨ M (ruleZ r 4) = 1
theorem law_works (c2 : Int32) {n a b : Int} (hn : n ≤ 10) (k23 k25 : SX11 → Option Int32) (hP : ∀ T' N, S0 T' N → PQ N n 0 → N 0 = a → N 1 = b → LK (k25 T')) : ∀ (d f : Nat) (T : SX11) (M : Int → Int) (w : Int), n - w = d → 0 ≤ w → d < f → S0 T M → PQ M w 0 → M 0 = a → M 1 = b → LK (DL_law_L70 c c2 (iI n) k23 k25 f (iI w) T) := by
  intro d
  induction d with
  | zero =>
    intro f T M w hd h0 hf h hq ha hb
    obtain ⟨g, rfl⟩ : ∃ g, f = g + 1 := ⟨f - 1, by omega⟩
    rw [DL_law_L70, if_le (by omega) (by omega) (by omega) (by omega), if_pos (by omega)]
    exact hP T M h (by rw [show n = w by omega]; exact hq) ha hb
  | succ d ih =>
    intro f T M w hd h0 hf h hq ha hb
    obtain ⟨g, rfl⟩ : ∃ g, f = g + 1 := ⟨f - 1, by omega⟩
    rw [DL_law_L70, if_le (by omega) (by omega) (by omega) (by omega), if_neg (by omega)]
    simp only [lits, lit9]
    rw [iI_div (by omega) (by omega) (by omega) (by omega)]
    simp only [iI_mul, iI_sub, iI_add]
    rw [gd_nn (by omega) (by omega)]
    generalize c (iI (1 + (w - w / 4 * 4))) >>> (iI (2 * w) &&& iI 31) = s
    simp only [lws, Option.bind_some, iI_add]
    have b1 := lw_b s (n := 5) (by omega)
    have b2 := lw_b (s >>> (iI 3 &&& iI 31)) (n := 3) (by omega)
    have b3 := lw_b (s >>> (iI 5 &&& iI 31)) (n := 30) (by omega)
    generalize lw s 5 = A at *
    generalize lw (s >>> (iI 3 &&& iI 31)) 3 = B at *
    generalize lw (s >>> (iI 5 &&& iI 31)) 30 = C at *
    obtain ⟨q3, q4, q5, q6, q7, q8⟩ := id hq
    obtain ⟨T', e1, e2⟩ := E_addWork h (a := A) (b := B) (m := 5 + C) (by omega) (by omega) (by omega) q3 (by omega)
    rw [q5] at e1 e2
    have st := e2.st
    generalize hN : updI (updI (updI (updI M (12 + 3 * w) A) (12 + 3 * w + 1) B) (12 + 3 * w + 2) (5 + C)) 5 (w + 1) = N at *
    have fr : ∀ k : Int, ¬ (12 ≤ k ∧ k < 102) → k ≠ 5 → N k = M k := fun k h1 h2 => by
      rw [← hN, updI_ne h2, updI_ne (by omega), updI_ne (by omega), updI_ne (by omega)]
    have n5 : N 5 = w + 1 := by rw [← hN, updI_self]
    have nw : N (12 + 3 * w + 2) = 5 + C := by rw [← hN, updI_ne (by omega), updI_self]
    have ew := E_work st.rr (w := w) (i := 2) h0 (by omega) (by omega) (by omega)
    rw [nw] at ew
    simp only [e1, Option.bind_some, if_true, ew]
    refine ih g T' N (w + 1) (by omega) (by omega) (by omega) st ⟨by rw [fr 3 (by omega) (by omega), q3], by rw [fr 4 (by omega) (by omega), q4], n5, by rw [fr 6 (by omega) (by omega), q6], fun e h1 h2 => by omega, fun r h1 h2 => ?_⟩ (by rw [fr 0 (by omega) (by omega), ha]) (by rw [fr 1 (by omega) (by omega), hb])
    rw [fr (ruleZ r 4) (by unfold ruleZ; omega) (by unfold ruleZ; omega)]
    exact q8 r h1 h2
theorem law_entrants (c2 c3 : Int32) {n W a b : Int} (hn : n ≤ 12) (k36 k38 : SX11 → Option Int32) (hP : ∀ T' N, S0 T' N → PQ N W n → N 0 = a → N 1 = b → LK (k38 T')) : ∀ (d f : Nat) (T : SX11) (M : Int → Int) (w : Int), n - w = d → 0 ≤ w → d < f → S0 T M → PQ M W w → M 0 = a → M 1 = b → LK (DL_law_L171 c c2 c3 (iI n) k36 k38 f (iI w) T) := by
  intro d
  induction d with
  | zero =>
    intro f T M w hd h0 hf h hq ha hb
    obtain ⟨g, rfl⟩ : ∃ g, f = g + 1 := ⟨f - 1, by omega⟩
    rw [DL_law_L171, if_le (by omega) (by omega) (by omega) (by omega), if_pos (by omega)]
    exact hP T M h (by rw [show n = w by omega]; exact hq) ha hb
  | succ d ih =>
    intro f T M w hd h0 hf h hq ha hb
    obtain ⟨g, rfl⟩ : ∃ g, f = g + 1 := ⟨f - 1, by omega⟩
    rw [DL_law_L171, if_le (by omega) (by omega) (by omega) (by omega), if_neg (by omega)]
    simp only [lits, iI_add]
    obtain ⟨q3, q4, q5, q6, q7, q8⟩ := id hq
    obtain ⟨T', e1, e2⟩ := E_addEntrant h q3 (by omega)
    rw [q6] at e1 e2
    have st := e2.st
    generalize hN : updI (updI M (126 + w) 1) 6 (w + 1) = N at *
    have fr : ∀ k : Int, k ≠ 126 + w → k ≠ 6 → N k = M k := fun k h1 h2 => by
      rw [← hN, updI_ne h2, updI_ne h1]
    have n6 : N 6 = w + 1 := by rw [← hN, updI_self]
    have nw : N (126 + w) = 1 := by rw [← hN, updI_ne (by omega), updI_self]
    have ew := E_entrant st.rr (e := w) (w := 0) h0 (by omega) (by omega) (by omega)
    rw [(ofE N w).1, nw] at ew
    simp only [e1, Option.bind_some, if_true, ew]
    refine ih g T' N (w + 1) (by omega) (by omega) (by omega) st ⟨by rw [fr 3 (by omega) (by omega), q3], by rw [fr 4 (by omega) (by omega), q4], by rw [fr 5 (by omega) (by omega), q5], n6, fun e h1 h2 => ?_, fun r h1 h2 => ?_⟩ (by rw [fr 0 (by omega) (by omega), ha]) (by rw [fr 1 (by omega) (by omega), hb])
    · by_cases q : e = w
      · rw [q]; exact nw
      · rw [fr _ (by omega) (by omega)]
        exact q7 e h1 (by omega)
    · rw [fr (ruleZ r 4) (by unfold ruleZ; omega) (by unfold ruleZ; omega)]
      exact q8 r h1 h2
/-- how many programs have no flaw -/
theorem law_good (c2 c5 : Int32) {n : Int} (hn : n ≤ 12) (k86 : Int32 → SX11 → Option Int32) (h : S0 T M) (h6 : M 6 = n) (hP : LK (k86 (iI (cn (fun e => decide (flawZ M e 0 = 0)) n.toNat)) T)) : ∀ (d f w : Nat), n - w = d → d < f → LK (DL_law_L621 c c2 (iI n) c5 k86 f (iI (cn (fun e => decide (flawZ M e 0 = 0)) w)) (iI w) T) := by
  intro d
  induction d with
  | zero =>
    intro f w hd hf
    obtain ⟨g, rfl⟩ : ∃ g, f = g + 1 := ⟨f - 1, by omega⟩
    rw [DL_law_L621, if_le (by omega) (by omega) (by omega) (by omega), if_pos (by omega), show w = n.toNat by omega]
    exact hP
  | succ d ih =>
    intro f w hd hf
    obtain ⟨g, rfl⟩ : ∃ g, f = g + 1 := ⟨f - 1, by omega⟩
    rw [DL_law_L621, if_le (by omega) (by omega) (by omega) (by omega), if_neg (by omega)]
    simp only [lits]
    have fl := E_flaw h.rr (e := w) (r := 0) (by omega) (by omega) (by omega) (by omega)
    have fb := flawZ_b M w 0
    simp only [fl, Option.bind_some, jn_eq, iI_add]
    have ih := ih g (w + 1) (by omega) (by omega)
    rw [cn] at ih
    rw [if_eq (by omega) (by omega) (by omega) (by omega)]
    by_cases q : flawZ M w 0 = 0
    · rw [if_pos q]
      rw [if_pos (decide_eq_true q)] at ih
      exact ih
    · rw [if_neg q]
      rw [if_neg (fun h9 => q (of_decide_eq_true h9))] at ih
      rw [Int.add_zero] at ih ⊢
      exact ih
end LA
