/-- the first number below n that has p; -1 -/
def fst (p : Int → Bool) : Nat → Int
  | 0 => -1
  | n + 1 => if fst p n = -1 then (if p n = true then (n : Int) else -1) else fst p n
theorem fst_lo (p : Int → Bool) : ∀ n, -1 ≤ fst p n := by
  intro n
  induction n with
  | zero => exact Int.le_refl _
  | succ n ih => unfold fst; split; split; omega; omega; exact ih
theorem fst_hi (p : Int → Bool) : ∀ n : Nat, fst p n < n := by
  intro n
  induction n with
  | zero => unfold fst; omega
  | succ n ih => unfold fst; split; split; omega; omega; omega
theorem fst_none {p : Int → Bool} : ∀ n : Nat, (fst p n = -1 ↔ ∀ k : Nat, k < n → p k = false) := by
  intro n
  induction n with
  | zero => exact ⟨fun _ k hk => by omega, fun _ => rfl⟩
  | succ n ih =>
    unfold fst
    by_cases q : fst p n = -1
    · rw [if_pos q]
      cases hp : p n with
      | true => rw [if_pos rfl]; exact ⟨fun h => by omega, fun h => by have := h n (by omega); rw [hp] at this; cases this⟩
      | false => rw [if_neg (by decide)]; exact ⟨fun _ k hk => by
          by_cases hkn : k = n
          · rw [hkn]; exact hp
          · exact ih.mp q k (by omega), fun _ => rfl⟩
    · rw [if_neg q]
      exact ⟨fun h => absurd h q, fun h => absurd (ih.mpr fun k hk => h k (by omega)) q⟩
theorem fst_at {p : Int → Bool} : ∀ n : Nat, fst p n ≠ -1 → p (fst p n) = true := by
  intro n
  induction n with
  | zero => intro h; exact absurd rfl h
  | succ n ih =>
    unfold fst
    by_cases q : fst p n = -1
    · rw [if_pos q]
      cases hp : p n with
      | true => intro _; rw [if_pos rfl]; exact hp
      | false => rw [if_neg (by decide)]; intro h; exact absurd rfl h
    · rw [if_neg q]; intro _; exact ih q
theorem fst_ext {p : Int → Bool} {j : Nat} (hj : p j = true) (h : ∀ k : Nat, k < j → p k = false) : ∀ n : Nat, j < n → fst p n = j := by
  intro n
  induction n with
  | zero => intro h; omega
  | succ n ih =>
    intro hn
    unfold fst
    by_cases q : j = n
    · rw [if_pos ((fst_none n).mpr fun k hk => h k (by omega)), ← q, if_pos hj]
    · rw [ih (by omega), if_neg (by omega)]
theorem fst_congr {p q : Int → Bool} : ∀ n : Nat, (∀ k : Nat, k < n → p k = q k) → fst p n = fst q n := by
  intro n
  induction n with
  | zero => intro _; rfl
  | succ n ih => intro h; unfold fst; rw [ih (fun k hk => h k (by omega)), h n (by omega)]
/-- a search loop -/
theorem upS {β : Type} (G : Nat → Nat → Option β) (K : Int → Option β) (p : Int → Bool) (n : Nat) (hs : ∀ f j, j < n → p j = false → G (f + 1) j = G f (j + 1)) (hp : ∀ f j, j < n → p j = true → G (f + 1) j = K j) (he : ∀ f, G (f + 1) n = K (-1)) : ∀ f, n < f → G f 0 = K (fst p n) := by
  have h : ∀ d j f, j + d = n → d < f → (∀ k : Nat, k < j → p k = false) → G f j = K (fst p n) := by
    intro d
    induction d with
    | zero =>
      intro j f h1 h2 h3
      obtain ⟨f, rfl⟩ : ∃ g, f = g + 1 := ⟨f - 1, by omega⟩
      rw [show j = n by omega, he f, (fst_none n).mpr (fun k hk => h3 k (by omega))]
    | succ d ih =>
      intro j f h1 h2 h3
      obtain ⟨f, rfl⟩ : ∃ g, f = g + 1 := ⟨f - 1, by omega⟩
      cases q : p j with
      | true => rw [hp f j (by omega) q, fst_ext q h3 n (by omega)]
      | false =>
        rw [hs f j (by omega) q]
        refine ih (j + 1) f (by omega) (by omega) fun k hk => ?_
        by_cases hkj : k = j
        · rw [hkj]; exact q
        · exact h3 k (by omega)
  intro f hf
  exact h n 0 f (by omega) hf (fun k hk => by omega)
/-- a sum over the first n -/
def sm (g : Int → Int) : Nat → Int
  | 0 => 0
  | n + 1 => sm g n + g n
theorem sm_b {g : Int → Int} {b : Int} : ∀ n : Nat, (∀ k : Nat, k < n → 0 ≤ g k ∧ g k ≤ b) → 0 ≤ sm g n ∧ sm g n ≤ b * n := by
  intro n
  induction n with
  | zero => intro _; simp [sm]
  | succ n ih =>
    intro h
    have h1 := ih fun k hk => h k (by omega)
    have h2 := h n (by omega)
    unfold sm
    have : b * ((n + 1 : Nat) : Int) = b * n + b := by rw [show ((n + 1 : Nat) : Int) = (n : Int) + 1 by omega, Int.mul_add, Int.mul_one]
    omega
theorem sm_congr {g k : Int → Int} : ∀ n : Nat, (∀ i : Nat, i < n → g i = k i) → sm g n = sm k n := by
  intro n
  induction n with
  | zero => intro _; rfl
  | succ n ih => intro h; unfold sm; rw [ih (fun i hi => h i (by omega)), h n (by omega)]
/-- all of the first n -/
def al (p : Int → Bool) : Nat → Bool
  | 0 => true
  | n + 1 => al p n && p n
theorem al_iff {p : Int → Bool} : ∀ n : Nat, (al p n = true ↔ ∀ k : Nat, k < n → p k = true) := by
  intro n
  induction n with
  | zero => exact ⟨fun _ k hk => by omega, fun _ => rfl⟩
  | succ n ih =>
    unfold al
    rw [Bool.and_eq_true, ih]
    exact ⟨fun h k hk => by
      by_cases q : k = n
      · rw [q]; exact h.2
      · exact h.1 k (by omega), fun h => ⟨fun k hk => h k (by omega), h n (by omega)⟩⟩
theorem al_congr {p q : Int → Bool} : ∀ n : Nat, (∀ k : Nat, k < n → p k = q k) → al p n = al q n := by
  intro n
  induction n with
  | zero => intro _; rfl
  | succ n ih => intro h; unfold al; rw [ih (fun k hk => h k (by omega)), h n (by omega)]
section RP
variable {S : SX12} {M : Int → Int}
def plcZ (M : Int → Int) (e : Int) : Int := fst (fun k => decide (M (462 + k) = e)) (M 7).toNat
theorem R_placeOf (hm : gX12_m S = mI M) (hR : rg M) (h7 : 0 ≤ M 7) (h7' : M 7 ≤ 12) {e : Int} (he : -2147483648 ≤ e) (he' : e < 2147483648) : DX12_placeOf S (iI e) = some (iI (plcZ M e)) := by
  unfold DX12_placeOf
  simp only [iI_lit, iI_neg]
  refine upS (fun f j => DX12_placeOf_L2 S (iI e) _ _ f (iI j)) (fun z => some (iI z)) (fun k => decide (M (462 + k) = e)) (M 7).toNat ?_ ?_ ?_ fu (by unfold fu; omega)
  · intro f j hj hp
    show DX12_placeOf_L2 _ _ _ _ _ _ = _
    have := hR (462 + j)
    rw [DX12_placeOf_L2, hm]
    simp only [show mI M 7 = iI (M 7) from rfl, iI_lit, iI_add]
    rw [if_le (by omega) (by omega) (by omega) (by omega), if_neg (by omega), gd_iI (by omega) (by omega) (by omega), mI_at (by omega) (by omega), if_eq (by omega) (by omega) (by omega) (by omega), if_neg (of_decide_eq_false hp)]
    rfl
  · intro f j hj hp
    show DX12_placeOf_L2 _ _ _ _ _ _ = _
    have := hR (462 + j)
    rw [DX12_placeOf_L2, hm]
    simp only [show mI M 7 = iI (M 7) from rfl, iI_lit, iI_add]
    rw [if_le (by omega) (by omega) (by omega) (by omega), if_neg (by omega), gd_iI (by omega) (by omega) (by omega), mI_at (by omega) (by omega), if_eq (by omega) (by omega) (by omega) (by omega), if_pos (of_decide_eq_true hp)]
  · intro f
    show DX12_placeOf_L2 _ _ _ _ _ _ = _
    rw [DX12_placeOf_L2, hm]
    simp only [show mI M 7 = iI (M 7) from rfl, iI_lit, iI_add]
    rw [if_le (by omega) (by omega) (by omega) (by omega), if_pos (by omega)]
def hpZ (M : Int → Int) (e : Int) : Bool := decide (0 ≤ plcZ M e ∧ plcZ M e ≤ M 8 - 1)
theorem R_hasPlayed (hm : gX12_m S = mI M) (hR : rg M) (h7 : 0 ≤ M 7) (h7' : M 7 ≤ 12) (h8 : 0 ≤ M 8) (h8' : M 8 ≤ 12) {e : Int} (he : -2147483648 ≤ e) (he' : e < 2147483648) : DX12_hasPlayed S (iI e) = some (bI (hpZ M e)) := by
  unfold DX12_hasPlayed
  have h1 := fst_lo (fun k => decide (M (462 + k) = e)) (M 7).toNat
  have h2 := fst_hi (fun k => decide (M (462 + k) = e)) (M 7).toNat
  have h3 : plcZ M e = fst (fun k => decide (M (462 + k) = e)) (M 7).toNat := rfl
  rw [R_placeOf hm hR h7 h7' he he', hm]
  simp only [show mI M 8 = iI (M 8) from rfl, iI_lit, iI_sub, Option.bind_some]
  rw [R_in (by omega) (by omega) (by omega) (by omega) (by omega) (by omega)]
  simp only [Option.bind_some, gd_bI]
  rfl
def scoreZ (M : Int → Int) (e : Int) : Int :=
  if meanZ (emZ M 486 e (-1)) (M 0).toNat = -1 ∨ hpZ M e = false then -1 else
  if 0 ≤ meanZ (emZ M 486 e (-1)) (M 0).toNat - 10 * M 2 * M (474 + e) then meanZ (emZ M 486 e (-1)) (M 0).toNat - 10 * M 2 * M (474 + e) else 0
theorem em_hi {row e w : Int} (hk : ∀ j : Int, 0 ≤ j → j < 7 → M (row + (12 * j + e)) ≤ 100) (h0' : M 0 ≤ 7) : ∀ k : Nat, k < (M 0).toNat → emZ M row e w k ≤ 100 := by
  intro k hk9
  unfold emZ
  have := hk k (by omega) (by omega)
  split
  · omega
  · split <;> omega
theorem R_scoreOf (hm : gX12_m S = mI M) (hR : rg M) (h0 : 0 ≤ M 0) (h0' : M 0 ≤ 7) (h2 : 0 ≤ M 2) (h2' : M 2 ≤ 100) (h7 : 0 ≤ M 7) (h7' : M 7 ≤ 12) (h8 : 0 ≤ M 8) (h8' : M 8 ≤ 12) {e : Int} (he : 0 ≤ e) (he' : e < 12)
    (hk : ∀ j : Int, 0 ≤ j → j < 7 → M (486 + (12 * j + e)) ≤ 100) (hs : hpZ M e = true → 0 ≤ M (474 + e) ∧ M (474 + e) ≤ 20) : DX12_scoreOf S (iI e) = some (iI (scoreZ M e)) := by
  unfold DX12_scoreOf
  have b1 := meanZ_lo (em_hi (w := -1) hk h0')
  have b2 := meanZ_hi (em_hi (w := -1) hk h0')
  simp only [iI_lit, iI_neg, jn]
  rw [R_mean hm hR h0 h0' (by omega) (by omega) he he' (by omega) (by omega) hk]
  simp only [Option.bind_some]
  unfold scoreZ
  rw [if_eq (by omega) (by omega) (by omega) (by omega)]
  by_cases q : meanZ (emZ M 486 e (-1)) (M 0).toNat = -1
  · rw [if_pos q, if_pos (Or.inl q)]
  · rw [if_neg q, R_hasPlayed hm hR h7 h7' h8 h8' (by omega) (by omega)]
    simp only [Option.bind_some, if_bz]
    cases hp : hpZ M e with
    | false => rw [if_neg (by decide), if_pos (Or.inr rfl)]
    | true =>
      obtain ⟨s1, s2⟩ := hs hp
      rw [if_pos (show true = true from rfl), if_neg (show ¬ (meanZ (emZ M 486 e (-1)) (M 0).toNat = -1 ∨ true = false) by intro h; rcases h with h | h; exact q h; cases h), hm]
      simp only [iI_add]
      rw [gd_iI (by omega) (by omega) (by omega), mI_at (by omega) (by omega)]
      simp only [show mI M 2 = iI (M 2) from rfl, iI_mul, iI_sub]
      have p1 : 0 ≤ 10 * M 2 * M (474 + e) := Int.mul_nonneg (by omega) s1
      have p2 : 10 * M 2 * M (474 + e) ≤ 1000 * 20 := Int.mul_le_mul (by omega) s2 s1 (by omega)
      rw [if_le (by omega) (by omega) (by omega) (by omega)]
      by_cases q2 : 0 ≤ meanZ (emZ M 486 e (-1)) (M 0).toNat - 10 * M 2 * M (474 + e)
      · rw [if_pos q2, if_pos q2]
      · rw [if_neg q2, if_neg q2]
def isMarkedZ (M : Int → Int) (row e : Int) : Bool := decide (M 0 ≤ 2 * countingZ M row e) && al (fun j => decide (M (row + (12 * j + e)) ≠ -1) || isBarredZ M j e) (M 0).toNat
theorem R_isMarked (hm : gX12_m S = mI M) (hR : rg M) (h0 : 0 ≤ M 0) (h0' : M 0 ≤ 7) {row e : Int} (hr : 0 ≤ row) (hr' : row ≤ 570) (he : 0 ≤ e) (he' : e < 12) : DX12_isMarked S (iI row) (iI e) = some (bI (isMarkedZ M row e)) := by
  unfold DX12_isMarked
  have c1 := cn_lo (fun j => countsZ M row j e) (M 0).toNat
  have c2 := cn_hi (fun j => countsZ M row j e) (M 0).toNat
  have c3 : countingZ M row e = cn (fun j => countsZ M row j e) (M 0).toNat := rfl
  rw [R_counting hm hR h0 h0' hr hr' he he']
  simp only [jn, Option.bind_some, iI_lit, iI_mul]
  rw [hm]
  simp only [show mI M 0 = iI (M 0) from rfl]
  rw [if_lt (by omega) (by omega) (by omega) (by omega)]
  have key : ∀ b : Bool, DX12_isMarked_L26 S (iI row) (iI e) (fun v => gd (isB v) (some v)) fu (bI b) (iI 0) = some (bI (b && al (fun j => decide (M (row + (12 * j + e)) ≠ -1) || isBarredZ M j e) (M 0).toNat)) := by
    intro b
    have base : b = (b && al (fun j => decide (M (row + (12 * j + e)) ≠ -1) || isBarredZ M j e) 0) := by cases b <;> rfl
    have := upL (fun f j => DX12_isMarked_L26 S (iI row) (iI e) (fun v => gd (isB v) (some v)) f (bI (b && al (fun j => decide (M (row + (12 * j + e)) ≠ -1) || isBarredZ M j e) j)) (iI j)) (some (bI (b && al (fun j => decide (M (row + (12 * j + e)) ≠ -1) || isBarredZ M j e) (M 0).toNat))) (M 0).toNat ?_ ?_ fu (by unfold fu; omega)
    · rw [← base] at this
      exact this
    · intro f j hj
      show DX12_isMarked_L26 _ _ _ _ _ _ _ = _
      have hr9 := hR (row + (12 * j + e))
      rw [DX12_isMarked_L26, hm]
      simp only [show mI M 0 = iI (M 0) from rfl, iI_lit, iI_add, iI_neg, jn]
      rw [if_le (by omega) (by omega) (by omega) (by omega), if_neg (by omega), R_isBarred hm hR (by omega) (by omega) he he', R_seat, al, show ((j + 1 : Nat) : Int) = (j : Int) + 1 by omega]
      simp only [Option.bind_some, if_bz, iI_add]
      rw [gd_iI (by omega) (by omega) (by omega), mI_at (by omega) (by omega), if_eq (by omega) (by omega) (by omega) (by omega)]
      generalize al (fun j => decide (M (row + (12 * j + e)) ≠ -1) || isBarredZ M j e) j = A
      generalize isBarredZ M j e = B
      by_cases q : M (row + (12 * j + e)) = -1
      · rw [if_pos q, decide_eq_false (fun h => h q)]
        cases b <;> cases A <;> cases B <;> rfl
      · rw [if_neg q, decide_eq_true q]
        cases b <;> cases A <;> cases B <;> rfl
    · intro f
      show DX12_isMarked_L26 _ _ _ _ _ _ _ = _
      rw [DX12_isMarked_L26, hm]
      simp only [show mI M 0 = iI (M 0) from rfl]
      rw [if_le (by omega) (by omega) (by omega) (by omega), if_pos (by omega), gd_bI]
  unfold isMarkedZ
  by_cases q : 2 * countingZ M row e < M 0
  · rw [if_pos q, decide_eq_false (by omega)]; exact key false
  · rw [if_neg q, decide_eq_true (by omega)]; exact key true
def isCompleteZ (M : Int → Int) (e : Int) : Bool := hpZ M e && isMarkedZ M 486 e
theorem R_isComplete (hm : gX12_m S = mI M) (hR : rg M) (h0 : 0 ≤ M 0) (h0' : M 0 ≤ 7) (h7 : 0 ≤ M 7) (h7' : M 7 ≤ 12) (h8 : 0 ≤ M 8) (h8' : M 8 ≤ 12) {e : Int} (he : 0 ≤ e) (he' : e < 12) : DX12_isComplete S (iI e) = some (bI (isCompleteZ M e)) := by
  unfold DX12_isComplete
  rw [R_hasPlayed hm hR h7 h7' h8 h8' (by omega) (by omega)]
  simp only [Option.bind_some, iI_lit, jn, if_bz, R_isMarked hm hR h0 h0' (show (0 : Int) ≤ 486 by decide) (by decide) he he']
  unfold isCompleteZ
  cases hpZ M e <;> cases isMarkedZ M 486 e <;> rfl
end RP
