def gIn (i : Int32) (n : Nat) : Bool := decide (0 ≤ i) && decide (i.toNatClampNeg < n)
theorem gIn_in {i : Int32} {n : Nat} (h : gIn i n = true) : vp_in i n := by
  unfold gIn at h
  simp only [Bool.and_eq_true, decide_eq_true_eq] at h
  obtain ⟨h1, h2⟩ := h
  rintro (q | q)
  · rw [Int32.lt_iff_toInt_lt] at q
    rw [Int32.le_iff_toInt_le] at h1
    omega
  · omega
def gd {α : Type} (b : Bool) (x : Option α) : Option α := if b = true then x else none
theorem gd_some {α : Type} {b : Bool} {x : Option α} {r : α} (h : gd b x = some r) : b = true ∧ x = some r := by
  unfold gd at h
  by_cases hb : b = true
  · rw [if_pos hb] at h; exact ⟨hb, h⟩
  · rw [if_neg hb] at h; cases h
def gz {α : Type} (y : Int32) (x : Option α) : Option α := if y = 0 then none else x
theorem gz_some {α : Type} {y : Int32} {x : Option α} {r : α} (h : gz y x = some r) : ¬ y = 0 ∧ x = some r := by
  unfold gz at h
  by_cases hb : y = 0
  · rw [if_pos hb] at h; cases h
  · rw [if_neg hb] at h; exact ⟨hb, h⟩
def gzL {α : Type} (y : Int64) (x : Option α) : Option α := if y = 0 then none else x
theorem gzL_some {α : Type} {y : Int64} {x : Option α} {r : α} (h : gzL y x = some r) : ¬ y = 0 ∧ x = some r := by
  unfold gzL at h
  by_cases hb : y = 0
  · rw [if_pos hb] at h; cases h
  · rw [if_neg hb] at h; exact ⟨hb, h⟩
theorem bd_some {α β : Type} {x : Option α} {k : α → Option β} {r : β} (h : x.bind k = some r) : ∃ a, x = some a ∧ k a = some r := by
  cases x with
  | none => cases h
  | some a => exact ⟨a, rfl, h⟩
def jn {α β : Type} (k : α) (b : α → β) : β := b k
theorem jn_elim {α β : Type} {k : α} {b : α → β} {r : β} (h : jn k b = r) : ∃ j, j = k ∧ b j = r := ⟨k, rfl, h⟩
theorem ite_p {α : Type} {c : Prop} [Decidable c] {a b r : α} (hc : c) (h : (if c then a else b) = r) : a = r := by rw [if_pos hc] at h; exact h
theorem ite_n {α : Type} {c : Prop} [Decidable c] {a b r : α} (hc : ¬ c) (h : (if c then a else b) = r) : b = r := by rw [if_neg hc] at h; exact h
theorem some_in {α : Type} {a b : α} (h : some a = some b) : a = b := Option.some.inj h
def isB (v : Int32) : Bool := v == 0 || v == 1
theorem zN {v : Int32} (h : isB v = true) : narrow .boolean (.int v) = .int v := by
  unfold isB at h
  simp only [Bool.or_eq_true, beq_iff_eq] at h
  rcases h with h | h <;> subst h <;> decide +kernel
def fu : Nat := 1000000
theorem fu_s : fu = 999999 + 1 := rfl
theorem all4 {P : Nat → Prop} (h0 : P 0) (h1 : P 1) (h2 : P 2) (h3 : P 3) : ∀ j : Nat, j < 4 → P j
  | 0, _ => h0
  | 1, _ => h1
  | 2, _ => h2
  | 3, _ => h3
  | k + 4, h => absurd h (by omega)
theorem all7 {P : Nat → Prop} (h0 : P 0) (h1 : P 1) (h2 : P 2) (h3 : P 3) (h4 : P 4) (h5 : P 5) (h6 : P 6) : ∀ j : Nat, j < 7 → P j
  | 0, _ => h0
  | 1, _ => h1
  | 2, _ => h2
  | 3, _ => h3
  | 4, _ => h4
  | 5, _ => h5
  | 6, _ => h6
  | k + 7, h => absurd h (by omega)
theorem gIn_lt {i : Int32} {n : Nat} (h : gIn i n = true) : i.toNatClampNeg < n := by
  unfold gIn at h
  simp only [Bool.and_eq_true, decide_eq_true_eq] at h
  exact h.2
def upd2 (R : Nat → Nat → Int32) (j : Nat) (f : Nat → Int32) : Nat → Nat → Int32 := fun q => if q = j then f else R q
def lt {α β : Type} (v : α) (k : α → β) : β := k v
theorem lt_elim {α β : Type} {v : α} {k : α → β} {r : β} (h : lt v k = r) : ∃ z, z = v ∧ k z = r := ⟨v, rfl, h⟩
def exN (k : Nat) : String := if k = 1 then "java/lang/IndexOutOfBoundsException" else if k = 2 then "java/lang/IllegalArgumentException" else "java/lang/IllegalStateException"
def tx {α β : Type} (x : Option (Nat ⊕ α)) (k : α → Option (Nat ⊕ β)) : Option (Nat ⊕ β) := x.bind fun z => match z with
  | .inl e => some (.inl e)
  | .inr v => k v
theorem tx_some {α β : Type} {x : Option (Nat ⊕ α)} {k : α → Option (Nat ⊕ β)} {r : Nat ⊕ β} (h : tx x k = some r) : (∃ e, x = some (.inl e) ∧ Sum.inl e = r) ∨ ∃ v, x = some (.inr v) ∧ k v = some r := by
  cases x with
  | none => cases h
  | some z =>
    cases z with
    | inl e => exact Or.inl ⟨e, rfl, Option.some.inj h⟩
    | inr v => exact Or.inr ⟨v, rfl, h⟩
def tab0 (j : Nat) : Int32 := ([3, 1, 0] : List Int32).getD j 0
def tab1 (j : Nat) : Int32 := ([7, 4, 100] : List Int32).getD j 0
def tab2 (j : Nat) : Int32 := ([1, 1, 0, 1, 0, 1] : List Int32).getD j 0
def tab3 (j : Nat) : Int32 := ([180, 180, 31, 4, 1, 12] : List Int32).getD j 0
def tab4 (j : Nat) : Int32 := ([1, 180, 0, 4, 0, 12] : List Int32).getD j 0
def updN (f : Nat → Nat) (k x : Nat) : Nat → Nat := fun j => if j = k then x else f j
def updT {α : Type} (f : Nat → α) (k : Nat) (x : α) : Nat → α := fun j => if j = k then x else f j
