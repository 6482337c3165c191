/-- the int of a whole number -/
def iI (n : Int) : Int32 := Int32.ofInt n
theorem iI_add (a b : Int) : iI a + iI b = iI (a + b) := by unfold iI; exact (Int32.ofInt_add a b).symm
theorem iI_sub (a b : Int) : iI a - iI b = iI (a - b) := by unfold iI; exact (Int32.ofInt_sub a b).symm
theorem iI_mul (a b : Int) : iI a * iI b = iI (a * b) := by unfold iI; exact (Int32.ofInt_mul a b).symm
theorem iI_neg (a : Int) : - iI a = iI (-a) := by unfold iI; exact (Int32.ofInt_neg a).symm
theorem iI_toInt {a : Int} (h1 : -2147483648 ≤ a) (h2 : a < 2147483648) : (iI a).toInt = a := by
  unfold iI
  exact Int32.toInt_ofInt_of_le h1 h2
theorem iI_of (x : Int32) : iI x.toInt = x := by unfold iI; exact Int32.ofInt_toInt x
theorem iI_lt {a b : Int} (h1 : -2147483648 ≤ a) (h2 : a < 2147483648) (h3 : -2147483648 ≤ b) (h4 : b < 2147483648) : (iI a < iI b) = (a < b) := by
  rw [Int32.lt_iff_toInt_lt, iI_toInt h1 h2, iI_toInt h3 h4]
theorem iI_le {a b : Int} (h1 : -2147483648 ≤ a) (h2 : a < 2147483648) (h3 : -2147483648 ≤ b) (h4 : b < 2147483648) : (iI a ≤ iI b) = (a ≤ b) := by
  rw [Int32.le_iff_toInt_le, iI_toInt h1 h2, iI_toInt h3 h4]
theorem iI_eq {a b : Int} (h1 : -2147483648 ≤ a) (h2 : a < 2147483648) (h3 : -2147483648 ≤ b) (h4 : b < 2147483648) : (iI a = iI b) = (a = b) := by
  refine propext ⟨fun h => ?_, fun h => by rw [h]⟩
  have := congrArg Int32.toInt h
  rwa [iI_toInt h1 h2, iI_toInt h3 h4] at this
theorem iI_nat {a : Int} (h1 : 0 ≤ a) (h2 : a < 2147483648) : (iI a).toNatClampNeg = a.toNat := by
  unfold Int32.toNatClampNeg
  rw [iI_toInt (by omega) h2]
theorem iI_gIn {a : Int} {n : Nat} (h1 : -2147483648 ≤ a) (h2 : a < 2147483648) : gIn (iI a) n = decide (0 ≤ a ∧ a < n) := by
  unfold gIn
  by_cases h : 0 ≤ a
  · rw [iI_nat h h2, decide_eq_true (show (0 : Int32) ≤ iI a by rw [show (0 : Int32) = iI 0 from rfl, iI_le (by omega) (by omega) h1 h2]; exact h)]
    rw [Bool.true_and]
    exact decide_eq_decide.mpr (by omega)
  · rw [decide_eq_false (show ¬ (0 : Int32) ≤ iI a by rw [show (0 : Int32) = iI 0 from rfl, iI_le (by omega) (by omega) h1 h2]; exact h)]
    rw [Bool.false_and]
    exact (decide_eq_false (by omega)).symm
theorem iI_div {a b : Int} (h1 : 0 ≤ a) (h2 : a < 2147483648) (h3 : 0 < b) (h4 : b < 2147483648) : iI a / iI b = iI (a / b) := by
  rw [← iI_of (iI a / iI b), Int32.toInt_div_of_ne_right _ _ (by
    intro h
    have := congrArg Int32.toInt h
    rw [iI_toInt (by omega) h4] at this
    revert this
    rw [show (-1 : Int32).toInt = -1 from rfl]
    omega)]
  rw [iI_toInt (by omega) h2, iI_toInt (by omega) h4, Int.tdiv_eq_ediv_of_nonneg h1]
theorem gd_t {α : Type} {b : Bool} {x : Option α} (h : b = true) : gd b x = x := if_pos h
theorem gz_t {α : Type} {y : Int32} {x : Option α} (h : ¬ y = 0) : gz y x = x := if_neg h
theorem gzL_t {α : Type} {y : Int64} {x : Option α} (h : ¬ y = 0) : gzL y x = x := if_neg h
/-- an upward loop: its state is known at each number -/
theorem upL {β : Type} (G : Nat → Nat → Option β) (X : Option β) (n : Nat) (hs : ∀ f j, j < n → G (f + 1) j = G f (j + 1)) (he : ∀ f, G (f + 1) n = X) : ∀ f, n < f → G f 0 = X := by
  have h : ∀ d j f, j + d = n → d < f → G f j = X := by
    intro d
    induction d with
    | zero => intro j f h1 h2; obtain ⟨f, rfl⟩ : ∃ g, f = g + 1 := ⟨f - 1, by omega⟩; rw [show j = n by omega]; exact he f
    | succ d ih => intro j f h1 h2; obtain ⟨f, rfl⟩ : ∃ g, f = g + 1 := ⟨f - 1, by omega⟩; rw [hs f j (by omega)]; exact ih (j + 1) f (by omega) (by omega)
  intro f hf
  exact h n 0 f (by omega) hf
/-- the numbers that the texts name -/
theorem iI_lit : (0 : Int32) = iI 0 ∧ (1 : Int32) = iI 1 ∧ (2 : Int32) = iI 2 ∧ (3 : Int32) = iI 3 ∧ (4 : Int32) = iI 4 ∧ (5 : Int32) = iI 5 ∧ (6 : Int32) = iI 6 ∧ (7 : Int32) = iI 7 ∧ (8 : Int32) = iI 8 ∧ (9 : Int32) = iI 9 ∧ (10 : Int32) = iI 10 ∧ (11 : Int32) = iI 11 ∧ (12 : Int32) = iI 12 ∧ (13 : Int32) = iI 13 ∧ (20 : Int32) = iI 20 ∧ (24 : Int32) = iI 24 ∧ (30 : Int32) = iI 30 ∧ (31 : Int32) = iI 31 ∧ (32 : Int32) = iI 32 ∧ (40 : Int32) = iI 40 ∧ (44 : Int32) = iI 44 ∧ (48 : Int32) = iI 48 ∧ (57 : Int32) = iI 57 ∧ (60 : Int32) = iI 60 ∧ (84 : Int32) = iI 84 ∧ (100 : Int32) = iI 100 ∧ (102 : Int32) = iI 102 ∧ (126 : Int32) = iI 126 ∧ (138 : Int32) = iI 138 ∧ (180 : Int32) = iI 180 ∧ (378 : Int32) = iI 378 ∧ (462 : Int32) = iI 462 ∧ (474 : Int32) = iI 474 ∧ (486 : Int32) = iI 486 ∧ (570 : Int32) = iI 570 ∧ (654 : Int32) = iI 654 ∧ (666 : Int32) = iI 666 ∧ (714 : Int32) = iI 714 ∧ (1000 : Int32) = iI 1000 ∧ (2142 : Int32) = iI 2142 ∧ (65536 : Int32) = iI 65536 ∧ (100000 : Int32) = iI 100000 :=
  ⟨id rfl, id rfl, id rfl, id rfl, id rfl, id rfl, id rfl, id rfl, id rfl, id rfl, id rfl, id rfl, id rfl, id rfl, id rfl, id rfl, id rfl, id rfl, id rfl, id rfl, id rfl, id rfl, id rfl, id rfl, id rfl, id rfl, id rfl, id rfl, id rfl, id rfl, id rfl, id rfl, id rfl, id rfl, id rfl, id rfl, id rfl, id rfl, id rfl, id rfl, id rfl, id rfl⟩
theorem gd_iI {α : Type} {a : Int} {n : Nat} {x : Option α} (h1 : 0 ≤ a) (h2 : a < n) (h3 : (n : Int) ≤ 2147483648) : gd (gIn (iI a) n) x = x := gd_t (by rw [iI_gIn (by omega) (by omega)]; exact decide_eq_true ⟨h1, h2⟩)
theorem gz_iI {α : Type} {a : Int} {x : Option α} (h1 : a ≠ 0) (h2 : -2147483648 ≤ a) (h3 : a < 2147483648) : gz (iI a) x = x := gz_t (by rw [show (0 : Int32) = iI 0 from rfl, iI_eq h2 h3 (by omega) (by omega)]; exact h1)
/-- the reference's cells by whole numbers -/
def mI (M : Int → Int) : Nat → Int32 := fun k => iI (M k)
def updI (M : Int → Int) (z v : Int) : Int → Int := fun k => if k = z then v else M k
theorem updI_self (M : Int → Int) (z v : Int) : updI M z v z = v := if_pos rfl
theorem updI_ne {M : Int → Int} {z v k : Int} (h : k ≠ z) : updI M z v k = M k := if_neg h
theorem mI_at {M : Int → Int} {z : Int} (h1 : 0 ≤ z) (h2 : z < 2147483648) : mI M (iI z).toNatClampNeg = iI (M z) := by
  unfold mI
  rw [iI_nat h1 h2, Int.toNat_of_nonneg h1]
theorem mI_upd {M : Int → Int} {z v : Int} (h1 : 0 ≤ z) (h2 : z < 2147483648) : upd (mI M) (iI z).toNatClampNeg (iI v) = mI (updI M z v) := by
  rw [iI_nat h1 h2]
  funext k
  unfold upd mI updI
  by_cases h : k = z.toNat
  · rw [if_pos h, if_pos (by omega)]
  · rw [if_neg h, if_neg (by omega)]
theorem bi (c : Prop) [Decidable c] : isB (if c then iI 1 else iI 0) = true := by
  by_cases h : c
  · rw [if_pos h]; rfl
  · rw [if_neg h]; rfl
/-- every value fits an int -/
def rg (M : Int → Int) : Prop := ∀ k, -2147483648 ≤ M k ∧ M k < 2147483648
/-- an answer yes or no -/
def bI (b : Bool) : Int32 := if b = true then iI 1 else iI 0
theorem bI_B (b : Bool) : isB (bI b) = true := by cases b <;> rfl
theorem bI_z (b : Bool) : (bI b = iI 0) = (b = false) := by cases b <;> exact propext (by decide)
theorem bI_o (b : Bool) : (bI b = iI 1) = (b = true) := by cases b <;> exact propext (by decide)
theorem if_lt {α : Type} {x y : α} {a b : Int} (h1 : -2147483648 ≤ a) (h2 : a < 2147483648) (h3 : -2147483648 ≤ b) (h4 : b < 2147483648) : (if iI a < iI b then x else y) = if a < b then x else y := by
  by_cases q : a < b
  · rw [if_pos q, if_pos (by rw [iI_lt h1 h2 h3 h4]; exact q)]
  · rw [if_neg q, if_neg (by rw [iI_lt h1 h2 h3 h4]; exact q)]
theorem if_le {α : Type} {x y : α} {a b : Int} (h1 : -2147483648 ≤ a) (h2 : a < 2147483648) (h3 : -2147483648 ≤ b) (h4 : b < 2147483648) : (if iI a ≤ iI b then x else y) = if a ≤ b then x else y := by
  by_cases q : a ≤ b
  · rw [if_pos q, if_pos (by rw [iI_le h1 h2 h3 h4]; exact q)]
  · rw [if_neg q, if_neg (by rw [iI_le h1 h2 h3 h4]; exact q)]
theorem if_eq {α : Type} {x y : α} {a b : Int} (h1 : -2147483648 ≤ a) (h2 : a < 2147483648) (h3 : -2147483648 ≤ b) (h4 : b < 2147483648) : (if iI a = iI b then x else y) = if a = b then x else y := by
  by_cases q : a = b
  · rw [if_pos q, if_pos (by rw [iI_eq h1 h2 h3 h4]; exact q)]
  · rw [if_neg q, if_neg (by rw [iI_eq h1 h2 h3 h4]; exact q)]
theorem if_bz {α : Type} {x y : α} {b : Bool} : (if bI b = iI 0 then x else y) = if b = true then y else x := by cases b <;> rfl
theorem if_bo {α : Type} {x y : α} {b : Bool} : (if bI b = iI 1 then x else y) = if b = true then x else y := by cases b <;> rfl
theorem gd_bI {α : Type} {b : Bool} {x : Option α} : gd (isB (bI b)) x = x := gd_t (bI_B b)
theorem if_bI {β : Type} {g : Int32 → β} {c : Prop} [Decidable c] : (if c then g (iI 1) else g (iI 0)) = g (bI (decide c)) := by
  by_cases q : c
  · rw [if_pos q, decide_eq_true q]; rfl
  · rw [if_neg q, decide_eq_false q]; rfl
theorem jn_eq {α β : Type} (k : α) (b : α → β) : jn k b = b k := id rfl
theorem lt_eq {α β : Type} (v : α) (k : α → β) : lt v k = k v := id rfl
