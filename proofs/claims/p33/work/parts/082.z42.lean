section KU
variable {s : Int → Int} {p : Int}
theorem cn_mono {f g : Int → Bool} : ∀ n : Nat, (∀ k : Nat, k < n → f k = true → g k = true) → cn f n ≤ cn g n := by
  intro n
  induction n with
  | zero => intro _; exact Int.le_refl _
  | succ n ih =>
    intro h
    have i := ih fun k hk => h k (by omega)
    have := h n (by omega)
    unfold cn
    cases q : f n with
    | true => rw [this q]; omega
    | false => rw [if_neg (by decide)]; split <;> omega
theorem cn_lt {f g : Int → Bool} {a : Nat} : ∀ n : Nat, (∀ k : Nat, k < n → f k = true → g k = true) → a < n → f a = false → g a = true → cn f n + 1 ≤ cn g n := by
  intro n
  induction n with
  | zero => intro _ h; omega
  | succ n ih =>
    intro h ha h1 h2
    unfold cn
    by_cases q : a = n
    · have i := cn_mono (f := f) (g := g) n fun k hk => h k (by omega)
      rw [← q, h1, h2, if_neg (by decide), if_pos rfl]
      rw [← q] at i
      omega
    · have i := ih (fun k hk => h k (by omega)) (by omega) h1 h2
      have := h n (by omega)
      cases q1 : f n with
      | true => rw [this q1]; omega
      | false => rw [if_neg (show ¬ false = true by decide)]; split <;> omega
theorem cn_add {f g h : Int → Bool} : ∀ n : Nat, (∀ k : Nat, k < n → h k = (f k || g k)) → (∀ k : Nat, k < n → f k = true → g k = false) → cn h n = cn f n + cn g n := by
  intro n
  induction n with
  | zero => intro _ _; rfl
  | succ n ih =>
    intro h1 h2
    unfold cn
    rw [ih (fun k hk => h1 k (by omega)) (fun k hk => h2 k (by omega)), h1 n (by omega)]
    have := h2 n (by omega)
    cases q : f n with
    | true => rw [this q]; simp; omega
    | false => cases g n <;> simp; omega
theorem cn_ex {f : Int → Bool} {n : Nat} (h : 0 < cn f n) : ∃ k : Nat, k < n ∧ f k = true := cn_pos n h
theorem mn_ex {f : Int → Bool} : ∀ n : Nat, (∃ k : Nat, k < n ∧ f k = true) → ∃ m : Nat, m < n ∧ f m = true ∧ ∀ k : Nat, k < n → f k = true → s m ≤ s k := by
  intro n
  induction n with
  | zero => intro ⟨k, h, _⟩; omega
  | succ n ih =>
    intro ⟨k, h1, h2⟩
    by_cases q : ∃ k : Nat, k < n ∧ f k = true
    · obtain ⟨m, m1, m2, m3⟩ := ih q
      cases q1 : f n with
      | true =>
        by_cases q2 : s m ≤ s n
        · refine ⟨m, by omega, m2, fun k a b => ?_⟩
          by_cases q3 : k = n
          · rw [q3]; exact q2
          · exact m3 k (by omega) b
        · refine ⟨n, by omega, q1, fun k a b => ?_⟩
          by_cases q3 : k = n
          · rw [q3]; exact Int.le_refl _
          · have := m3 k (by omega) b; omega
      | false =>
        refine ⟨m, by omega, m2, fun k a b => ?_⟩
        by_cases q3 : k = n
        · rw [q3, q1] at b; cases b
        · exact m3 k (by omega) b
    · have e : k = n := Classical.byContradiction fun h => q ⟨k, by omega, h2⟩
      rw [e] at h2
      refine ⟨n, by omega, h2, fun j a b => ?_⟩
      by_cases q3 : j = n
      · rw [q3]; exact Int.le_refl _
      · exact absurd ⟨j, by omega, b⟩ q
/-- how many scores there are from x on -/
def cF (s : Int → Int) (x : Int) : Int := cn (fun e => decide (x ≤ s e)) 12
/-- the line, from the first n scores -/
def fnL (s : Int → Int) (p : Int) : Nat → Int
  | 0 => -1
  | n + 1 => if fnL s p n < s n ∧ p ≤ cF s (s n) then s n else fnL s p n
def lnZ (s : Int → Int) (p : Int) : Int := if cF s 0 ≤ p then -1 else fnL s p 12
def abZ (s : Int → Int) (p : Int) : Int := cn (fun e => decide (s e ≠ -1) && decide (lnZ s p < s e)) 12
def lvZ (s : Int → Int) (p : Int) : Int := cn (fun e => decide (s e ≠ -1) && decide (s e = lnZ s p)) 12
def beZ (s : Int → Int) (p : Int) : Int := cn (fun e => decide (s e ≠ -1) && decide (s e < lnZ s p)) 12
/-- where each one stands by the others' scores -/
def ftZ (s : Int → Int) (p e : Int) : Int := if s e = -1 then -1 else if cF s (s e) ≤ p then 0 else if cF s (s e + 1) < p then 1 else 2
def tieZ (s : Int → Int) (p : Int) : Bool := decide (p < abZ s p + lvZ s p)
theorem fnL_ok : ∀ n : Nat, n ≤ 12 → (fnL s p n = -1 ∨ ∃ e : Nat, e < n ∧ s e = fnL s p n ∧ p ≤ cF s (fnL s p n)) ∧ ∀ e : Nat, e < n → fnL s p n < s e → cF s (s e) < p := by
  intro n
  induction n with
  | zero => intro _; exact ⟨Or.inl rfl, fun e h => by omega⟩
  | succ n ih =>
    intro hn
    obtain ⟨i1, i2⟩ := ih (by omega)
    rw [fnL]
    by_cases q : fnL s p n < s n ∧ p ≤ cF s (s n)
    · rw [if_pos q]
      refine ⟨Or.inr ⟨n, by omega, rfl, q.2⟩, fun e h1 h2 => ?_⟩
      by_cases q1 : e = n
      · rw [q1] at h2; omega
      · exact i2 e (by omega) (by omega)
    · rw [if_neg q]
      refine ⟨?_, fun e h1 h2 => ?_⟩
      · rcases i1 with i1 | ⟨e, h1, h2, h3⟩
        · exact Or.inl i1
        · exact Or.inr ⟨e, by omega, h2, h3⟩
      · by_cases q1 : e = n
        · rw [q1] at h2 ⊢
          omega
        · exact i2 e (by omega) h2
theorem cF_b (s : Int → Int) (x : Int) : 0 ≤ cF s x ∧ cF s x ≤ 12 := ⟨cn_lo _ _, cn_hi _ 12⟩
theorem cF_mono {x y : Int} (h : x ≤ y) : cF s y ≤ cF s x := cn_mono 12 fun k _ hk => decide_eq_true (by have := of_decide_eq_true hk; omega)
theorem fnL_b (hs : ∀ e : Nat, e < 12 → -1 ≤ s e ∧ s e ≤ 1000000) : ∀ n : Nat, n ≤ 12 → -1 ≤ fnL s p n ∧ fnL s p n ≤ 1000000 := by
  intro n
  induction n with
  | zero => intro _; exact ⟨Int.le_refl _, by show (-1 : Int) ≤ 1000000; omega⟩
  | succ n ih =>
    intro hn
    have i := ih (by omega)
    have := hs n (by omega)
    rw [fnL]
    split <;> omega
theorem lnZ_b (hs : ∀ e : Nat, e < 12 → -1 ≤ s e ∧ s e ≤ 1000000) : -1 ≤ lnZ s p ∧ lnZ s p ≤ 1000000 := by
  unfold lnZ
  split
  · omega
  · exact fnL_b hs 12 (by omega)
/-- the line, if there are more than places -/
theorem ln_ok (hp : 1 ≤ p) (hs : ∀ e : Nat, e < 12 → -1 ≤ s e) (h : p < cF s 0) : 0 ≤ lnZ s p ∧ p ≤ cF s (lnZ s p) ∧ ∀ e : Nat, e < 12 → lnZ s p < s e → cF s (s e) < p := by
  have e0 : lnZ s p = fnL s p 12 := if_neg (by omega)
  rw [e0]
  obtain ⟨i1, i2⟩ := fnL_ok (s := s) (p := p) 12 (by omega)
  rcases i1 with i1 | ⟨e, h1, h2, h3⟩
  · exfalso
    obtain ⟨k, k1, k2⟩ := cn_ex (show 0 < cF s 0 by omega)
    obtain ⟨m, m1, m2, m3⟩ := mn_ex (s := s) (f := fun e => decide (0 ≤ s e)) 12 ⟨k, k1, k2⟩
    have m2 := of_decide_eq_true m2
    have h4 := i2 m m1 (by omega)
    have h5 : cF s 0 ≤ cF s (s m) := cn_mono 12 fun j hj h9 => decide_eq_true (m3 j hj h9)
    omega
  · by_cases q : fnL s p 12 = -1
    · exfalso
      obtain ⟨k, k1, k2⟩ := cn_ex (show 0 < cF s 0 by omega)
      obtain ⟨m, m1, m2, m3⟩ := mn_ex (s := s) (f := fun e => decide (0 ≤ s e)) 12 ⟨k, k1, k2⟩
      have m2 := of_decide_eq_true m2
      have h4 := i2 m m1 (by omega)
      have h5 : cF s 0 ≤ cF s (s m) := cn_mono 12 fun j hj h9 => decide_eq_true (m3 j hj h9)
      omega
    · have := hs e h1
      exact ⟨by omega, h3, i2⟩
theorem ab_eq (hs : ∀ e : Nat, e < 12 → -1 ≤ s e) (h : -1 ≤ lnZ s p) : abZ s p = cF s (lnZ s p + 1) := by
  refine cn_congr 12 fun k hk => ?_
  have := hs k hk
  show (decide (s k ≠ -1) && decide (lnZ s p < s k)) = decide (lnZ s p + 1 ≤ s k)
  by_cases q : lnZ s p < s k
  · rw [decide_eq_true q, decide_eq_true (show s k ≠ -1 by omega), decide_eq_true (show lnZ s p + 1 ≤ s k by omega)]; rfl
  · rw [decide_eq_false q, Bool.and_false, decide_eq_false (by omega)]
theorem ablv_eq (hs : ∀ e : Nat, e < 12 → -1 ≤ s e) (h : 0 ≤ lnZ s p) : abZ s p + lvZ s p = cF s (lnZ s p) := by
  refine (cn_add 12 (fun k hk => ?_) (fun k hk h1 => ?_)).symm
  · have := hs k hk
    show decide (lnZ s p ≤ s k) = ((decide (s k ≠ -1) && decide (lnZ s p < s k)) || (decide (s k ≠ -1) && decide (s k = lnZ s p)))
    by_cases q : lnZ s p ≤ s k
    · rw [decide_eq_true q, decide_eq_true (show s k ≠ -1 by omega)]
      by_cases q1 : s k = lnZ s p
      · rw [decide_eq_true q1]; simp
      · rw [decide_eq_true (show lnZ s p < s k by omega)]; rfl
    · rw [decide_eq_false q, decide_eq_false (show ¬ lnZ s p < s k by omega), decide_eq_false (show ¬ s k = lnZ s p by omega)]; simp
  · have h1 : (decide (s k ≠ -1) && decide (lnZ s p < s k)) = true := h1
    rw [Bool.and_eq_true, decide_eq_true_eq, decide_eq_true_eq] at h1
    show (decide (s k ≠ -1) && decide (s k = lnZ s p)) = false
    rw [decide_eq_false (show ¬ s k = lnZ s p by omega), Bool.and_false]
/-- the class's cut and the reference's fates say the same -/
theorem ft_cut (hp : 1 ≤ p) (hs : ∀ e : Nat, e < 12 → -1 ≤ s e) {e : Nat} (he : e < 12) (h0 : s e ≠ -1) : (ftZ s p e = 1 ↔ tieZ s p = true ∧ s e = lnZ s p) ∧ (ftZ s p e = 2 ↔ s e < lnZ s p) ∧ (0 ≤ ftZ s p e ∧ ftZ s p e ≤ 2) := by
  have hse := hs e he
  unfold ftZ
  rw [if_neg h0]
  by_cases q : cF s 0 ≤ p
  · have l : lnZ s p = -1 := if_pos q
    have := cF_mono (s := s) (show 0 ≤ s e by omega)
    rw [if_pos (by omega), l]
    exact ⟨⟨fun h => by omega, fun h => by omega⟩, ⟨fun h => by omega, fun h => by omega⟩, by omega⟩
  · obtain ⟨l1, l2, l3⟩ := ln_ok hp hs (show p < cF s 0 by omega)
    have a1 := ab_eq (p := p) hs (by omega)
    have a2 := ablv_eq (p := p) hs l1
    have ab : abZ s p < p := by
      by_cases q1 : 0 < abZ s p
      · obtain ⟨k, k1, k2⟩ := cn_ex q1
        obtain ⟨m, m1, m2, m3⟩ := mn_ex (s := s) (f := fun e => decide (s e ≠ -1) && decide (lnZ s p < s e)) 12 ⟨k, k1, k2⟩
        have m2 : (decide (s m ≠ -1) && decide (lnZ s p < s m)) = true := m2
        rw [Bool.and_eq_true, decide_eq_true_eq, decide_eq_true_eq] at m2
        have h4 := l3 m m1 m2.2
        have h5 : abZ s p ≤ cF s (s m) := cn_mono 12 fun j hj h9 => decide_eq_true (m3 j hj h9)
        omega
      · omega
    by_cases q1 : lnZ s p < s e
    · have := l3 e he q1
      rw [if_pos (by omega)]
      exact ⟨⟨fun h => by omega, fun h => by omega⟩, ⟨fun h => by omega, fun h => by omega⟩, by omega⟩
    · by_cases q2 : s e = lnZ s p
      · rw [q2, ← a2]
        by_cases q3 : abZ s p + lvZ s p ≤ p
        · rw [if_pos q3]
          unfold tieZ
          rw [decide_eq_false (by omega)]
          exact ⟨⟨fun h => by omega, fun h => nomatch h.1⟩, ⟨fun h => by omega, fun h => by omega⟩, by omega⟩
        · rw [if_neg q3, ← a1, if_pos ab]
          unfold tieZ
          rw [decide_eq_true (by omega)]
          exact ⟨⟨fun h => ⟨rfl, rfl⟩, fun h => rfl⟩, ⟨fun h => by omega, fun h => by omega⟩, by omega⟩
      · have h5 : cF s (lnZ s p) + 1 ≤ cF s (s e) := cn_lt (a := e) 12 (fun k hk h9 => decide_eq_true (by have := of_decide_eq_true h9; omega)) he (decide_eq_false (by omega)) (decide_eq_true (Int.le_refl _))
        have h6 : cF s (lnZ s p) ≤ cF s (s e + 1) := cF_mono (by omega)
        rw [if_neg (by omega), if_neg (by omega)]
        exact ⟨⟨fun h => by omega, fun h => by omega⟩, ⟨fun h => by omega, fun h => rfl⟩, by omega⟩
/-- how many there are of each fate -/
theorem ft_cnt (hp : 1 ≤ p) (hs : ∀ e : Nat, e < 12 → -1 ≤ s e) : cn (fun e => decide (ftZ s p e = 0)) 12 = (if tieZ s p = true then abZ s p else abZ s p + lvZ s p) ∧ cn (fun e => decide (ftZ s p e = 1)) 12 = (if tieZ s p = true then lvZ s p else 0) ∧ cn (fun e => decide (ftZ s p e = 2)) 12 = beZ s p := by
  have n1 : ∀ k : Nat, s k = -1 → ftZ s p k = -1 := fun k h => if_pos h
  have h2 : cn (fun e => decide (ftZ s p e = 2)) 12 = beZ s p := by
    refine cn_congr 12 fun k hk => ?_
    show decide (ftZ s p k = 2) = (decide (s k ≠ -1) && decide (s k < lnZ s p))
    by_cases q : s k = -1
    · rw [n1 k q, decide_eq_false (by omega), decide_eq_false (fun h => h q)]; rfl
    · rw [decide_eq_true q, Bool.true_and]
      exact decide_eq_decide.mpr (ft_cut hp hs hk q).2.1
  have h1 : cn (fun e => decide (ftZ s p e = 1)) 12 = (if tieZ s p = true then lvZ s p else 0) := by
    cases q9 : tieZ s p with
    | true =>
      rw [if_pos rfl]
      refine cn_congr 12 fun k hk => ?_
      show decide (ftZ s p k = 1) = (decide (s k ≠ -1) && decide (s k = lnZ s p))
      by_cases q : s k = -1
      · rw [n1 k q, decide_eq_false (by omega), decide_eq_false (fun h => h q)]; rfl
      · rw [decide_eq_true q, Bool.true_and]
        refine decide_eq_decide.mpr ?_
        have := (ft_cut hp hs hk q).1
        rw [q9] at this
        exact ⟨fun h => (this.mp h).2, fun h => this.mpr ⟨rfl, h⟩⟩
    | false =>
      rw [if_neg (by decide)]
      have : cn (fun e => decide (ftZ s p e = 1)) 12 = cn (fun _ => false) 12 := cn_congr 12 fun k hk => by
        show decide (ftZ s p k = 1) = false
        by_cases q : s k = -1
        · rw [n1 k q]; rfl
        · refine decide_eq_false fun h => ?_
          have := ((ft_cut hp hs hk q).1.mp h).1
          rw [q9] at this
          cases this
      rw [this]
      rfl
  refine ⟨?_, h1, h2⟩
  have t1 : cn (fun e => decide (s e ≠ -1)) 12 = abZ s p + lvZ s p + beZ s p := by
    have a : cn (fun e => decide (s e ≠ -1) && decide (lnZ s p ≤ s e)) 12 = abZ s p + lvZ s p := by
      refine cn_add 12 (fun k hk => ?_) (fun k hk h1 => ?_)
      · show (decide (s k ≠ -1) && decide (lnZ s p ≤ s k)) = ((decide (s k ≠ -1) && decide (lnZ s p < s k)) || (decide (s k ≠ -1) && decide (s k = lnZ s p)))
        cases decide (s k ≠ -1) with
        | false => rfl
        | true =>
          by_cases q1 : s k = lnZ s p
          · rw [decide_eq_true q1, decide_eq_true (show lnZ s p ≤ s k by omega)]; simp
          · rw [decide_eq_false q1]
            by_cases q2 : lnZ s p < s k
            · rw [decide_eq_true q2, decide_eq_true (show lnZ s p ≤ s k by omega)]; rfl
            · rw [decide_eq_false q2, decide_eq_false (show ¬ lnZ s p ≤ s k by omega)]; rfl
      · have h1 : (decide (s k ≠ -1) && decide (lnZ s p < s k)) = true := h1
        rw [Bool.and_eq_true, decide_eq_true_eq, decide_eq_true_eq] at h1
        show (decide (s k ≠ -1) && decide (s k = lnZ s p)) = false
        rw [decide_eq_false (show ¬ s k = lnZ s p by omega), Bool.and_false]
    rw [← a]
    refine cn_add 12 (fun k hk => ?_) (fun k hk h1 => ?_)
    · show decide (s k ≠ -1) = ((decide (s k ≠ -1) && decide (lnZ s p ≤ s k)) || (decide (s k ≠ -1) && decide (s k < lnZ s p)))
      cases decide (s k ≠ -1) with
      | false => rfl
      | true =>
        by_cases q2 : lnZ s p ≤ s k
        · rw [decide_eq_true q2]; rfl
        · rw [decide_eq_false q2, decide_eq_true (show s k < lnZ s p by omega)]; rfl
    · have h1 : (decide (s k ≠ -1) && decide (lnZ s p ≤ s k)) = true := h1
      rw [Bool.and_eq_true, decide_eq_true_eq, decide_eq_true_eq] at h1
      show (decide (s k ≠ -1) && decide (s k < lnZ s p)) = false
      rw [decide_eq_false (show ¬ s k < lnZ s p by omega), Bool.and_false]
  have t2 : cn (fun e => decide (s e ≠ -1)) 12 = cn (fun e => decide (ftZ s p e = 0)) 12 + cn (fun e => decide (ftZ s p e = 1)) 12 + cn (fun e => decide (ftZ s p e = 2)) 12 := by
    have a : cn (fun e => decide (ftZ s p e = 0) || decide (ftZ s p e = 1)) 12 = cn (fun e => decide (ftZ s p e = 0)) 12 + cn (fun e => decide (ftZ s p e = 1)) 12 := cn_add 12 (fun k hk => rfl) (fun k hk h1 => decide_eq_false (by have := of_decide_eq_true h1; omega))
    rw [← a]
    refine cn_add 12 (fun k hk => ?_) (fun k hk h1 => ?_)
    · show decide (s k ≠ -1) = ((decide (ftZ s p k = 0) || decide (ftZ s p k = 1)) || decide (ftZ s p k = 2))
      by_cases q : s k = -1
      · rw [n1 k q, decide_eq_false (fun h => h q)]; rfl
      · have := (ft_cut hp hs hk q).2.2
        have hc : ftZ s p k = 0 ∨ ftZ s p k = 1 ∨ ftZ s p k = 2 := by omega
        rw [decide_eq_true q]
        rcases hc with hc | hc | hc <;> rw [hc] <;> rfl
    · have h1 : (decide (ftZ s p k = 0) || decide (ftZ s p k = 1)) = true := h1
      rw [Bool.or_eq_true, decide_eq_true_eq, decide_eq_true_eq] at h1
      exact decide_eq_false (by omega)
  rw [h1, h2] at t2
  revert t2
  split <;> omega
end KU
