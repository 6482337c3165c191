section CG
variable {M : Int → Int} {P : SX4} {W : SX10}
def er4 (M : Int → Int) (e r : Int) : Nat → Int32
  | 0 => iI 0
  | n + 1 => if workAtZ M e r n = -1 then er4 M e r n else er4 M e r n ||| (iI 1 <<< (iI (eraZ M e r n) &&& iI 31))
theorem er4_fl (e r : Int) (N : Nat) : ∀ n : Nat, (∀ k : Nat, k < n → workAtZ M e r k ≠ -1) → er4 M e r n = (flZ M e r N n).2.1 := by
  intro n
  induction n with
  | zero => intro _; rfl
  | succ n ih => intro h; rw [er4, if_neg (h n (by omega)), ih (fun k hk => h k (by omega))]; rfl
theorem er4_tail (e r : Int) {n : Nat} : ∀ m : Nat, (∀ k : Nat, n ≤ k → k < n + m → workAtZ M e r k = -1) → er4 M e r (n + m) = er4 M e r n := by
  intro m
  induction m with
  | zero => intro _; rfl
  | succ m ih => intro h; rw [← Nat.add_assoc, er4, if_pos (h (n + m) (by omega) (by omega)), ih (fun k h1 h2 => h k h1 (by omega))]
theorem C_eras (h : cP P M) (hW : wkI M) (hWk : cW W M) {e r : Int} (he : 0 ≤ e) (he' : e < 12) (hr : 0 ≤ r) (hr' : r < 4) : DX4_erasOf P W (iI e) (iI r) = some (flZ M e r (M (cellZ e r)).toNat (M (cellZ e r)).toNat).2.1 := by
  have hc := (hW.2.2 e r he he' hr hr').1
  have h5 := hW.1
  have key : DX4_erasOf P W (iI e) (iI r) = some (er4 M e r 4) := by
    unfold DX4_erasOf
    simp only [iI_lit]
    refine upL (fun f j => DX4_erasOf_L6 P W (iI e) (iI r) (fun v => some v) f (er4 M e r j) (iI j)) _ 4 ?_ ?_ fu (by unfold fu; omega)
    · intro f j hj
      show DX4_erasOf_L6 _ _ _ _ _ _ _ _ = _
      have b := workAtZ_b hW (k := j) he he' hr hr'
      rw [DX4_erasOf_L6, C_workAt h hW he he' hr hr' (by omega) (by omega)]
      simp only [iI_lit, iI_add, iI_neg, Option.bind_some, jn_eq]
      rw [if_le (by omega) (by omega) (by omega) (by omega), if_neg (by omega), C_era hWk h5.1 h5.2 (by omega) (by omega), er4, show ((j + 1 : Nat) : Int) = (j : Int) + 1 by omega]
      simp only [Option.bind_some]
      by_cases q : workAtZ M e r j = -1
      · rw [if_pos q, if_pos q, if_pos rfl]
      · have b2 := hW.2.1 (workAtZ M e r j) (by omega) (by omega)
        rw [if_neg q, if_neg q, if_eq (by omega) (by omega) (by omega) (by omega), if_neg (by omega)]
        rfl
    · intro f
      show DX4_erasOf_L6 _ _ _ _ _ _ _ _ = _
      rw [DX4_erasOf_L6]
      simp only [iI_lit]
      rw [if_le (by omega) (by omega) (by omega) (by omega), if_pos (by omega)]
  rw [key]
  obtain ⟨N, hN⟩ : ∃ N : Nat, M (cellZ e r) = N := ⟨(M (cellZ e r)).toNat, by omega⟩
  have lo : ∀ k : Nat, k < N → workAtZ M e r k ≠ -1 := fun k hk => by have := workAtZ_in hW he he' hr hr' (k := k) (by omega) (by omega); omega
  have t := er4_tail (M := M) e r (n := N) (4 - N) (fun k h1 h2 => if_neg (by omega))
  rw [show N + (4 - N) = 4 by omega] at t
  rw [t, hN, er4_fl e r N N lo]
  rfl
/-- the greatest of the first n -/
def mx (g : Int → Int) : Nat → Int
  | 0 => 0
  | n + 1 => if mx g n < g n then g n else mx g n
theorem mx_lo (g : Int → Int) : ∀ n, 0 ≤ mx g n := by
  intro n
  induction n with
  | zero => exact Int.le_refl _
  | succ n ih => unfold mx; split <;> omega
theorem mx_ge {g : Int → Int} : ∀ n : Nat, ∀ k : Nat, k < n → g k ≤ mx g n := by
  intro n
  induction n with
  | zero => intro k hk; omega
  | succ n ih =>
    intro k hk
    unfold mx
    by_cases q : k = n
    · rw [q]; split <;> omega
    · have := ih k (by omega); split <;> omega
theorem mx_le {g : Int → Int} {b : Int} (hb : 0 ≤ b) : ∀ n : Nat, (∀ k : Nat, k < n → g k ≤ b) → mx g n ≤ b := by
  intro n
  induction n with
  | zero => intro _; exact hb
  | succ n ih => intro h; have h1 := ih (fun k hk => h k (by omega)); have h2 := h n (by omega); unfold mx; split <;> omega
theorem flZ_3 (e r : Int) (N : Nat) : ∀ n, (flZ M e r N n).2.2.1 = mx (fun k => alikeZ M e r (compZ M e r k) N) n := by
  intro n
  induction n with
  | zero => rfl
  | succ n ih =>
    rw [mx, ← ih]
    show (if alikeZ M e r (compZ M e r n) N ≤ (flZ M e r N n).2.2.1 then (flZ M e r N n).2.2.1 else alikeZ M e r (compZ M e r n) N) = _
    split
    · rw [if_neg (by omega)]
    · rw [if_pos (by omega)]
theorem cn_tail {p : Int → Bool} {n : Nat} : ∀ m : Nat, (∀ k : Nat, n ≤ k → k < n + m → p k = false) → cn p (n + m) = cn p n := by
  intro m
  induction m with
  | zero => intro _; rfl
  | succ m ih => intro h; rw [← Nat.add_assoc, cn, ih (fun k h1 h2 => h k h1 (by omega)), h (n + m) (by omega) (by omega), if_neg (by decide), Int.add_zero]
theorem cn_pos {p : Int → Bool} : ∀ n : Nat, 0 < cn p n → ∃ k : Nat, k < n ∧ p k = true := by
  intro n
  induction n with
  | zero => intro h; exact absurd (show (0 : Int) < 0 from h) (by decide)
  | succ n ih =>
    intro h
    cases q : p n with
    | true => exact ⟨n, by omega, q⟩
    | false =>
      rw [cn, q, if_neg (by decide), Int.add_zero] at h
      obtain ⟨k, h1, h2⟩ := ih h
      exact ⟨k, by omega, h2⟩
theorem C_most (h : cP P M) (hW : wkI M) (hWk : cW W M) {e r : Int} (he : 0 ≤ e) (he' : e < 12) (hr : 0 ≤ r) (hr' : r < 4) : DX4_mostOfOneComposer P W (iI e) (iI r) = some (iI (flZ M e r (M (cellZ e r)).toNat (M (cellZ e r)).toNat).2.2.1) := by
  have hc := (hW.2.2 e r he he' hr hr').1
  have h5 := hW.1
  obtain ⟨N, hN⟩ : ∃ N : Nat, M (cellZ e r) = N := ⟨(M (cellZ e r)).toNat, by omega⟩
  have lo : ∀ k : Nat, k < N → workAtZ M e r k ≠ -1 := fun k hk => by have := workAtZ_in hW he he' hr hr' (k := k) (by omega) (by omega); omega
  have key : DX4_mostOfOneComposer P W (iI e) (iI r) = some (iI (mx (fun c => cn (fun k => decide ((if workAtZ M e r k = -1 then -1 else compZ M e r k) = c)) 4) 10)) := by
    unfold DX4_mostOfOneComposer
    simp only [iI_lit]
    refine upL (fun f j => DX4_mostOfOneComposer_L6 P W (iI e) (iI r) (fun v => some v) f (iI (mx (fun c => cn (fun k => decide ((if workAtZ M e r k = -1 then -1 else compZ M e r k) = c)) 4) j)) (iI j)) _ 10 ?_ ?_ fu (by unfold fu; omega)
    · intro f j hj
      show DX4_mostOfOneComposer_L6 _ _ _ _ _ _ _ _ = _
      have m1 := mx_lo (fun c => cn (fun k => decide ((if workAtZ M e r k = -1 then -1 else compZ M e r k) = c)) 4) j
      have m2 := mx_le (g := fun c => cn (fun k => decide ((if workAtZ M e r k = -1 then -1 else compZ M e r k) = c)) 4) (b := 4) (by decide) j (fun k hk => cn_hi _ 4)
      have n1 := cn_lo (fun k => decide ((if workAtZ M e r k = -1 then -1 else compZ M e r k) = (j : Int))) 4
      have n2 := cn_hi (fun k => decide ((if workAtZ M e r k = -1 then -1 else compZ M e r k) = (j : Int))) 4
      rw [DX4_mostOfOneComposer_L6]
      simp only [iI_lit]
      rw [if_le (by omega) (by omega) (by omega) (by omega), if_neg (by omega)]
      have inner : ∀ (c4 : Int32) (k12 : Int32 → Option Int32), DX4_mostOfOneComposer_L19 P W (iI e) (iI r) c4 (iI j) k12 fu (iI 0) (iI 0) = k12 (iI (cn (fun k => decide ((if workAtZ M e r k = -1 then -1 else compZ M e r k) = (j : Int))) 4)) := by
        intro c4 k12
        refine upL (fun f i => DX4_mostOfOneComposer_L19 P W (iI e) (iI r) c4 (iI j) k12 f (iI (cn (fun k => decide ((if workAtZ M e r k = -1 then -1 else compZ M e r k) = (j : Int))) i)) (iI i)) _ 4 ?_ ?_ fu (by unfold fu; omega)
        · intro f i hi
          show DX4_mostOfOneComposer_L19 _ _ _ _ _ _ _ _ _ _ = _
          have b := workAtZ_b hW (k := i) he he' hr hr'
          rw [DX4_mostOfOneComposer_L19, C_workAt h hW he he' hr hr' (by omega) (by omega)]
          simp only [iI_lit, iI_add, Option.bind_some, jn_eq]
          rw [if_le (by omega) (by omega) (by omega) (by omega), if_neg (by omega), C_comp hWk h5.1 h5.2 (by omega) (by omega), cn, show ((i + 1 : Nat) : Int) = (i : Int) + 1 by omega]
          simp only [Option.bind_some]
          have hb : -1 ≤ (if workAtZ M e r i = -1 then -1 else M (12 + 3 * workAtZ M e r i)) ∧ (if workAtZ M e r i = -1 then -1 else M (12 + 3 * workAtZ M e r i)) ≤ 9 := by
            split
            · omega
            · have := hW.2.1 (workAtZ M e r i) (by omega) (by omega); omega
          rw [if_eq (by omega) (by omega) (by omega) (by omega)]
          unfold compZ
          by_cases q : (if workAtZ M e r i = -1 then -1 else M (12 + 3 * workAtZ M e r i)) = (j : Int)
          · rw [if_pos q, decide_eq_true q]; rfl
          · rw [if_neg q, decide_eq_false q, if_neg (show ¬ false = true by decide), Int.add_zero]
        · intro f
          show DX4_mostOfOneComposer_L19 _ _ _ _ _ _ _ _ _ _ = _
          rw [DX4_mostOfOneComposer_L19]
          simp only [iI_lit]
          rw [if_le (by omega) (by omega) (by omega) (by omega), if_pos (by omega)]
      rw [inner, mx, if_lt (by omega) (by omega) (by omega) (by omega)]
      simp only [iI_add]
      rw [show ((j + 1 : Nat) : Int) = (j : Int) + 1 by omega]
      split <;> rfl
    · intro f
      show DX4_mostOfOneComposer_L6 _ _ _ _ _ _ _ _ = _
      rw [DX4_mostOfOneComposer_L6]
      simp only [iI_lit]
      rw [if_le (by omega) (by omega) (by omega) (by omega), if_pos (by omega)]
  have hcnt : ∀ c : Int, 0 ≤ c → cn (fun k => decide ((if workAtZ M e r k = -1 then -1 else compZ M e r k) = c)) 4 = alikeZ M e r c N := by
    intro c hc9
    have t := cn_tail (p := fun k => decide ((if workAtZ M e r k = -1 then -1 else compZ M e r k) = c)) (n := N) (4 - N) (fun k h1 h2 => decide_eq_false (by rw [if_pos (show workAtZ M e r k = -1 from if_neg (by omega))]; omega))
    rw [show N + (4 - N) = 4 by omega] at t
    rw [t]
    exact cn_congr N (fun k hk => by rw [if_neg (lo k hk)])
  rw [key, flZ_3, hN]
  congr 2
  show _ = mx (fun k => alikeZ M e r (compZ M e r k) N) N
  have A : ∀ k : Nat, k < N → 0 ≤ compZ M e r k ∧ compZ M e r k ≤ 9 := fun k hk => by
    have g := workAtZ_in hW he he' hr hr' (k := k) (by omega) (by omega)
    exact (hW.2.1 _ g.2.1 g.2.2).1
  have B1 := mx_le (g := fun c => cn (fun k => decide ((if workAtZ M e r k = -1 then -1 else compZ M e r k) = c)) 4) (b := mx (fun k => alikeZ M e r (compZ M e r k) N) N) (mx_lo _ _) 10 (fun c hc9 => by
    show cn (fun k => decide ((if workAtZ M e r k = -1 then -1 else compZ M e r k) = (c : Int))) 4 ≤ _
    rw [hcnt c (by omega)]
    by_cases q : 0 < alikeZ M e r c N
    · obtain ⟨i, h1, h2⟩ := cn_pos N q
      have := mx_ge (g := fun k => alikeZ M e r (compZ M e r k) N) N i h1
      rw [show compZ M e r i = c from of_decide_eq_true h2] at this
      exact this
    · have := mx_lo (fun k => alikeZ M e r (compZ M e r k) N) N
      omega)
  have B2 := mx_le (g := fun k => alikeZ M e r (compZ M e r k) N) (b := mx (fun c => cn (fun k => decide ((if workAtZ M e r k = -1 then -1 else compZ M e r k) = c)) 4) 10) (mx_lo _ _) N (fun k hk => by
    have a := A k hk
    have := mx_ge (g := fun c => cn (fun k => decide ((if workAtZ M e r k = -1 then -1 else compZ M e r k) = c)) 4) 10 (compZ M e r k).toNat (by omega)
    rw [Int.toNat_of_nonneg a.1] at this
    rw [hcnt _ a.1] at this
    exact this)
  omega
end CG
