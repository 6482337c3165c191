section J6
/-- the long of a whole number -/
def jI (n : Int) : Int64 := Int64.ofInt n
theorem jI_add (a b : Int) : jI a + jI b = jI (a + b) := by unfold jI; exact (Int64.ofInt_add a b).symm
theorem jI_sub (a b : Int) : jI a - jI b = jI (a - b) := by unfold jI; exact (Int64.ofInt_sub a b).symm
theorem jI_mul (a b : Int) : jI a * jI b = jI (a * b) := by unfold jI; exact (Int64.ofInt_mul a b).symm
theorem jI_toInt {a : Int} (h1 : -9223372036854775808 ≤ a) (h2 : a < 9223372036854775808) : (jI a).toInt = a := by
  unfold jI
  exact Int64.toInt_ofInt_of_le h1 h2
theorem jI_of (x : Int64) : jI x.toInt = x := by unfold jI; exact Int64.ofInt_toInt x
theorem jI_eq {a b : Int} (h1 : -9223372036854775808 ≤ a) (h2 : a < 9223372036854775808) (h3 : -9223372036854775808 ≤ b) (h4 : b < 9223372036854775808) : (jI a = jI b) = (a = b) := by
  refine propext ⟨fun h => ?_, fun h => by rw [h]⟩
  have := congrArg Int64.toInt h
  rwa [jI_toInt h1 h2, jI_toInt h3 h4] at this
theorem jI_div {a b : Int} (h1 : 0 ≤ a) (h2 : a < 9223372036854775808) (h3 : 0 < b) (h4 : b < 9223372036854775808) : jI a / jI b = jI (a / b) := by
  rw [← jI_of (jI a / jI b), Int64.toInt_div_of_ne_right _ _ (by
    intro h
    have := congrArg Int64.toInt h
    rw [jI_toInt (by omega) h4] at this
    revert this
    rw [show (-1 : Int64).toInt = -1 from rfl]
    omega)]
  rw [jI_toInt (by omega) h2, jI_toInt (by omega) h4, Int.tdiv_eq_ediv_of_nonneg h1]
theorem iI_l {a : Int} (h1 : -2147483648 ≤ a) (h2 : a < 2147483648) : (iI a).toInt64 = jI a := by
  have := Int64.ofInt_int32ToInt (iI a)
  rw [iI_toInt h1 h2] at this
  exact this.symm
theorem jI_i (a : Int) : (jI a).toInt32 = iI a := Int64.toInt32_ofInt
theorem gzL_jI {α : Type} {a : Int} {x : Option α} (h1 : a ≠ 0) (h2 : -9223372036854775808 ≤ a) (h3 : a < 9223372036854775808) : gzL (jI a) x = x := gzL_t (by rw [show (0 : Int64) = jI 0 from rfl, jI_eq h2 h3 (by omega) (by omega)]; exact h1)
theorem jI_lit : (65536 : Int64) = jI 65536 ∧ (12345 : Int64) = jI 12345 ∧ (1103515245 : Int64) = jI 1103515245 ∧ (2147483648 : Int64) = jI 2147483648 ∧ (31 : Int64) = jI 31 ∧ (43009 : Int64) = jI 43009 := ⟨id rfl, id rfl, id rfl, id rfl, id rfl, id rfl⟩
/-- an upward loop whose state is known by what holds of it -/
theorem upE {β σ : Type} (G : Nat → Nat → σ → Option β) (K : σ → Option β) (I : Nat → σ → Prop) (n : Nat) (hs : ∀ f j s, j < n → I j s → ∃ s', G (f + 1) j s = G f (j + 1) s' ∧ I (j + 1) s') (he : ∀ f s, I n s → G (f + 1) n s = K s) : ∀ f s, n < f → I 0 s → ∃ s', G f 0 s = K s' ∧ I n s' := by
  have h : ∀ d j f s, j + d = n → d < f → I j s → ∃ s', G f j s = K s' ∧ I n s' := by
    intro d
    induction d with
    | zero =>
      intro j f s h1 h2 h3
      obtain ⟨f, rfl⟩ : ∃ g, f = g + 1 := ⟨f - 1, by omega⟩
      have : j = n := by omega
      subst this
      exact ⟨s, he f s h3, h3⟩
    | succ d ih =>
      intro j f s h1 h2 h3
      obtain ⟨f, rfl⟩ : ∃ g, f = g + 1 := ⟨f - 1, by omega⟩
      obtain ⟨s', e, i⟩ := hs f j s (by omega) h3
      rw [e]
      exact ih (j + 1) f s' (by omega) (by omega) i
  intro f s hf h0
  exact h n 0 f s (by omega) hf h0
end J6
section BR
variable {M N X : Int → Int} {S : SX12}
/-- the cells a .. a + n - 1 made v -/
def fillZ (M : Int → Int) (a n v : Int) : Int → Int := fun k => if a ≤ k ∧ k < a + n then v else M k
theorem fill_0 (a v : Int) : fillZ M a 0 v = M := funext fun k => if_neg (by omega)
theorem fill_s (a n v : Int) (h : 0 ≤ n) : updI (fillZ M a n v) (a + n) v = fillZ M a (n + 1) v := by
  funext k
  unfold updI fillZ
  by_cases q : k = a + n
  · rw [if_pos q, if_pos (by omega)]
  · rw [if_neg q]
    by_cases q2 : a ≤ k ∧ k < a + n
    · rw [if_pos q2, if_pos (by omega)]
    · rw [if_neg q2, if_neg (by omega)]
theorem um_self (hm : gX12_m S = mI M) : uX12_m S (mI M) = S := by rw [← hm]; rfl
theorem R_ct18 (hm : gX12_m S = mI M) (k6 : SX12 → Option SX12) : DX12_clearTie_L18 k6 fu (iI 0) S = k6 (uX12_m S (mI (fillZ M 570 84 (-1)))) := by
  have base : S = uX12_m S (mI (fillZ M 570 ((0 : Nat) : Int) (-1))) := by
    rw [show ((0 : Nat) : Int) = 0 from rfl, fill_0, um_self hm]
  have := upL (fun f j => DX12_clearTie_L18 k6 f (iI j) (uX12_m S (mI (fillZ M 570 (j : Int) (-1))))) (k6 (uX12_m S (mI (fillZ M 570 84 (-1))))) 84 ?_ ?_ fu (by unfold fu; omega)
  · rw [← base] at this
    exact this
  · intro f j hj
    show DX12_clearTie_L18 _ _ _ _ = _
    rw [DX12_clearTie_L18]
    simp only [lt_eq, iI_lit, um_m, um_um, iI_add, iI_neg]
    rw [if_le (by omega) (by omega) (by omega) (by omega), if_neg (by omega), gd_iI (by omega) (by omega) (by omega), mI_upd (by omega) (by omega), fill_s _ _ _ (by omega), show ((j + 1 : Nat) : Int) = (j : Int) + 1 by omega]
  · intro f
    show DX12_clearTie_L18 _ _ _ _ = _
    rw [DX12_clearTie_L18]
    simp only [iI_lit]
    rw [if_le (by omega) (by omega) (by omega) (by omega), if_pos (by omega)]
    rfl
theorem R_ct43 (hm : gX12_m S = mI M) (k10 : SX12 → Option SX12) : DX12_clearTie_L43 k10 fu (iI 0) S = k10 (uX12_m S (mI (fillZ M 654 12 0))) := by
  have base : S = uX12_m S (mI (fillZ M 654 ((0 : Nat) : Int) 0)) := by
    rw [show ((0 : Nat) : Int) = 0 from rfl, fill_0, um_self hm]
  have := upL (fun f j => DX12_clearTie_L43 k10 f (iI j) (uX12_m S (mI (fillZ M 654 (j : Int) 0)))) (k10 (uX12_m S (mI (fillZ M 654 12 0)))) 12 ?_ ?_ fu (by unfold fu; omega)
  · rw [← base] at this
    exact this
  · intro f j hj
    show DX12_clearTie_L43 _ _ _ _ = _
    rw [DX12_clearTie_L43]
    simp only [lt_eq, iI_lit, um_m, um_um, iI_add]
    rw [if_le (by omega) (by omega) (by omega) (by omega), if_neg (by omega), gd_iI (by omega) (by omega) (by omega), mI_upd (by omega) (by omega), fill_s _ _ _ (by omega), show ((j + 1 : Nat) : Int) = (j : Int) + 1 by omega]
  · intro f
    show DX12_clearTie_L43 _ _ _ _ = _
    rw [DX12_clearTie_L43]
    simp only [iI_lit]
    rw [if_le (by omega) (by omega) (by omega) (by omega), if_pos (by omega)]
    rfl
theorem R_cm2 (hm : gX12_m S = mI M) (k2 : SX12 → Option SX12) : DX12_clearMarks_L2 k2 fu (iI 0) S = k2 (uX12_m S (mI (fillZ M 486 84 (-1)))) := by
  have base : S = uX12_m S (mI (fillZ M 486 ((0 : Nat) : Int) (-1))) := by
    rw [show ((0 : Nat) : Int) = 0 from rfl, fill_0, um_self hm]
  have := upL (fun f j => DX12_clearMarks_L2 k2 f (iI j) (uX12_m S (mI (fillZ M 486 (j : Int) (-1))))) (k2 (uX12_m S (mI (fillZ M 486 84 (-1))))) 84 ?_ ?_ fu (by unfold fu; omega)
  · rw [← base] at this
    exact this
  · intro f j hj
    show DX12_clearMarks_L2 _ _ _ _ = _
    rw [DX12_clearMarks_L2]
    simp only [lt_eq, iI_lit, um_m, um_um, iI_add, iI_neg]
    rw [if_le (by omega) (by omega) (by omega) (by omega), if_neg (by omega), gd_iI (by omega) (by omega) (by omega), mI_upd (by omega) (by omega), fill_s _ _ _ (by omega), show ((j + 1 : Nat) : Int) = (j : Int) + 1 by omega]
  · intro f
    show DX12_clearMarks_L2 _ _ _ _ = _
    rw [DX12_clearMarks_L2]
    simp only [iI_lit]
    rw [if_le (by omega) (by omega) (by omega) (by omega), if_pos (by omega)]
    rfl
/-- the cells without a tie round -/
def ctZ (M : Int → Int) : Int → Int := fun k => if k = 9 ∨ k = 10 then 0 else if 570 ≤ k ∧ k < 654 then -1 else if 654 ≤ k ∧ k < 666 then 0 else M k
theorem R_clearTie (hm : gX12_m S = mI M) : DX12_clearTie S = some (uX12_m S (mI (ctZ M))) := by
  unfold DX12_clearTie
  simp only [lt_eq, iI_lit, um_m, um_um, hm, mI_updN 9 0 rfl, mI_updN 10 0 rfl]
  rw [R_ct18 um_m, R_ct43 um_m, um_um, um_um]
  have e : fillZ (fillZ (updI (updI M 9 0) 10 0) 570 84 (-1)) 654 12 0 = ctZ M := by
    funext k
    unfold fillZ updI ctZ
    repeat' split
    all_goals first | rfl | (exfalso; omega)
  rw [e]
/-- the cells as a round begins, before its players stand -/
def m0Z (M : Int → Int) (r : Int) : Int → Int := fun k => if k = 3 then 1 else if k = 4 then r else if 7 ≤ k ∧ k ≤ 10 then 0 else if 486 ≤ k ∧ k < 654 then -1 else if 654 ≤ k ∧ k < 666 then 0 else M k
theorem R_clearMarks (hm : gX12_m S = mI M) : DX12_clearMarks S = some (uX12_m S (mI (ctZ (fillZ M 486 84 (-1))))) := by
  unfold DX12_clearMarks
  simp only [iI_lit]
  rw [R_cm2 hm, R_clearTie um_m, um_um]
  rfl
theorem m0_eq (r : Int) : ctZ (fillZ (updI (updI (updI (updI M 4 r) 3 1) 7 0) 8 0) 486 84 (-1)) = m0Z M r := by
  funext k
  unfold ctZ fillZ updI m0Z
  repeat' split
  all_goals first | rfl | (exfalso; omega)
theorem wa_z (h : ∀ k : Int, (138 ≤ k ∧ k < 378) → N k = M k) (hW : wkI M) {e w : Int} (a : 0 ≤ e) (b : e < 12) : ∀ n : Nat, n ≤ 16 → wasZ N e w n = wasZ M e w n := by
  intro n hn
  unfold wasZ
  refine congrArg (fun b => !b) (al_congr n fun k hk => ?_)
  show decide (workAtZ N e ((k : Int) / 4) ((k : Int) - (k : Int) / 4 * 4) ≠ w) = decide (workAtZ M e ((k : Int) / 4) ((k : Int) - (k : Int) / 4 * 4) ≠ w)
  rw [wa_c h a b (by omega) (by omega) (hW.2.2 e ((k : Int) / 4) a b (by omega) (by omega)).1.2]
theorem fl_c (h : ∀ k : Int, ((12 ≤ k ∧ k < 126) ∨ (138 ≤ k ∧ k < 378)) → N k = M k) (hW : wkI M) {e r : Int} (a : 0 ≤ e) (b : e < 12) (c : 0 ≤ r) (d : r < 4) : flawZ N e r = flawZ M e r := by
  have hc := (hW.2.2 e r a b c d).1
  have h5 := hW.1
  have hcell := h (cellZ e r) (by unfold cellZ; omega)
  have hw : ∀ k : Int, workAtZ N e r k = workAtZ M e r k := fun k => wa_c (fun k hk => h k (by omega)) a b c d hc.2
  have g : ∀ n : Nat, n < (M (cellZ e r)).toNat → compZ N e r n = compZ M e r n ∧ eraZ N e r n = eraZ M e r n ∧ minZ N e r n = minZ M e r n := fun n hn => by
    have w := workAtZ_in hW a b c d (k := n) (by omega) (by omega)
    unfold compZ eraZ minZ
    rw [hw n, h (12 + 3 * workAtZ M e r n) (by omega), h (12 + 3 * workAtZ M e r n + 1) (by omega), h (12 + 3 * workAtZ M e r n + 2) (by omega)]
    exact ⟨rfl, rfl, rfl⟩
  have hal : ∀ q : Int, alikeZ N e r q (M (cellZ e r)).toNat = alikeZ M e r q (M (cellZ e r)).toNat := fun q => by
    unfold alikeZ
    exact cn_congr _ fun k hk => by
      show decide (compZ N e r k = q) = decide (compZ M e r k = q)
      rw [(g k hk).1]
  have hf : ∀ n : Nat, n ≤ (M (cellZ e r)).toNat → flZ N e r (M (cellZ e r)).toNat n = flZ M e r (M (cellZ e r)).toNat n := by
    intro n
    induction n with
    | zero => intro _; rfl
    | succ n ih =>
      intro hn
      obtain ⟨g1, g2, g3⟩ := g n (by omega)
      rw [flZ, flZ, ih (by omega), g1, g2, g3, hal, hw n, wa_z (fun k hk => h k (by omega)) hW a b _ (by omega)]
  unfold flawZ
  rw [hcell, hf _ (Nat.le_refl _), h (ruleZ r 0) (by unfold ruleZ; omega), h (ruleZ r 1) (by unfold ruleZ; omega), h (ruleZ r 2) (by unfold ruleZ; omega), h (ruleZ r 3) (by unfold ruleZ; omega), h (ruleZ r 4) (by unfold ruleZ; omega)]
/-- who plays in a round that begins -/
def selZ (M : Int → Int) (r e : Int) : Bool := decide (M (126 + e) = 1) && decide (flawZ M e r = 0)
/-- the cells once the first n entrants have been looked at -/
def bgZ (M : Int → Int) (r : Int) : Nat → Int → Int
  | 0 => m0Z M r
  | n + 1 => if selZ M r n = true then updI (updI (updI (bgZ M r n) (126 + n) 1) (462 + bgZ M r n 7) n) 7 (bgZ M r n 7 + 1) else updI (bgZ M r n) (126 + n) 0
theorem bg_7 (r : Int) : ∀ n : Nat, 0 ≤ bgZ M r n 7 ∧ bgZ M r n 7 ≤ n := by
  intro n
  induction n with
  | zero => exact ⟨Int.le_refl 0, Int.le_refl 0⟩
  | succ n ih =>
    rw [bgZ]
    split
    · rw [updI_self]; omega
    · rw [updI_ne (by omega)]; omega
theorem bg_fr (r : Int) : ∀ n : Nat, n ≤ 12 → ∀ k : Int, ¬ (k = 7 ∨ (126 ≤ k ∧ k < 126 + n) ∨ (462 ≤ k ∧ k < 474)) → bgZ M r n k = m0Z M r k := by
  intro n
  induction n with
  | zero => intro _ k _; rfl
  | succ n ih =>
    intro hn k hk
    have := bg_7 (M := M) r n
    rw [bgZ]
    split
    · rw [updI_ne (by omega), updI_ne (by omega), updI_ne (by omega)]
      exact ih (by omega) k (by omega)
    · rw [updI_ne (by omega)]
      exact ih (by omega) k (by omega)
theorem bg_in (r : Int) : ∀ n : Nat, n ≤ 12 → ∀ e : Int, 0 ≤ e → e < n → bgZ M r n (126 + e) = if selZ M r e = true then 1 else 0 := by
  intro n
  induction n with
  | zero => intro _ e _ _; omega
  | succ n ih =>
    intro hn e h1 h2
    have := bg_7 (M := M) r n
    rw [bgZ]
    by_cases q : e = n
    · rw [q]
      split
      · rw [updI_ne (by omega), updI_ne (by omega), updI_self]
      · rw [updI_self]
    · split
      · rw [updI_ne (by omega), updI_ne (by omega), updI_ne (by omega)]
        exact ih (by omega) e h1 (by omega)
      · rw [updI_ne (by omega)]
        exact ih (by omega) e h1 (by omega)
theorem bg_od (r : Int) : ∀ n : Nat, n ≤ 12 → (∀ k : Int, 0 ≤ k → k < bgZ M r n 7 → 0 ≤ bgZ M r n (462 + k) ∧ bgZ M r n (462 + k) < n) ∧ ∀ i k : Int, 0 ≤ i → i < k → k < bgZ M r n 7 → bgZ M r n (462 + i) < bgZ M r n (462 + k) := by
  intro n
  induction n with
  | zero => intro _; exact ⟨fun k h1 h2 => absurd (show k < 0 from h2) (by omega), fun i k h1 h2 h3 => absurd (show k < 0 from h3) (by omega)⟩
  | succ n ih =>
    intro hn
    obtain ⟨i1, i2⟩ := ih (by omega)
    have h7 := bg_7 (M := M) r n
    rw [bgZ]
    split
    · have g7 : updI (updI (updI (bgZ M r n) (126 + n) 1) (462 + bgZ M r n 7) n) 7 (bgZ M r n 7 + 1) 7 = bgZ M r n 7 + 1 := updI_self _ _ _
      have gk : ∀ k : Int, 0 ≤ k → k < bgZ M r n 7 → updI (updI (updI (bgZ M r n) (126 + n) 1) (462 + bgZ M r n 7) n) 7 (bgZ M r n 7 + 1) (462 + k) = bgZ M r n (462 + k) := fun k h1 h2 => by rw [updI_ne (by omega), updI_ne (by omega), updI_ne (by omega)]
      have gl : updI (updI (updI (bgZ M r n) (126 + n) 1) (462 + bgZ M r n 7) n) 7 (bgZ M r n 7 + 1) (462 + bgZ M r n 7) = n := by rw [updI_ne (by omega), updI_self]
      rw [g7]
      constructor
      · intro k h1 h2
        by_cases q : k = bgZ M r n 7
        · rw [q, gl]; omega
        · rw [gk k h1 (by omega)]
          have := i1 k h1 (by omega)
          omega
      · intro i k h1 h2 h3
        rw [gk i h1 (by omega)]
        by_cases q : k = bgZ M r n 7
        · rw [q, gl]
          exact (i1 i h1 (by omega)).2
        · rw [gk k (by omega) (by omega)]
          exact i2 i k h1 h2 (by omega)
    · have g7 : updI (bgZ M r n) (126 + n) 0 7 = bgZ M r n 7 := updI_ne (by omega)
      have gk : ∀ k : Int, 0 ≤ k → k < 12 → updI (bgZ M r n) (126 + n) 0 (462 + k) = bgZ M r n (462 + k) := fun k h1 h2 => updI_ne (by omega)
      rw [g7]
      constructor
      · intro k h1 h2
        rw [gk k h1 (by omega)]
        have := i1 k h1 h2
        omega
      · intro i k h1 h2 h3
        rw [gk i h1 (by omega), gk k (by omega) (by omega)]
        exact i2 i k h1 h2 h3
/-- one lot drawn: the last of i + 1 players changes places -/
def dsZ (M : Int → Int) : Int := (M 11 * 1103515245 + 12345) % 2147483648
def doZ (M : Int → Int) (i : Int) : Int := dsZ M / 65536 % (i + 1)
def drS (M : Int → Int) (i : Int) : Int → Int := updI (updI (updI M 11 (dsZ M)) (462 + i) (M (462 + doZ M i))) (462 + doZ M i) (M (462 + i))
/-- the cells once n lots are drawn among P players -/
def drZ (M : Int → Int) (P : Int) : Nat → Int → Int
  | 0 => M
  | n + 1 => drS (drZ M P n) (P - 1 - n)
theorem ds_b (M : Int → Int) : 0 ≤ dsZ M ∧ dsZ M < 2147483648 := by unfold dsZ; omega
theorem do_b (M : Int → Int) {i : Int} (h : 0 ≤ i) : 0 ≤ doZ M i ∧ doZ M i ≤ i := by
  have h1 := ds_b M
  unfold doZ
  have h2 := Int.emod_nonneg (dsZ M / 65536) (show i + 1 ≠ 0 by omega)
  have h3 := Int.emod_lt_of_pos (dsZ M / 65536) (show 0 < i + 1 by omega)
  omega
theorem drS_fr {i : Int} (h : 0 ≤ i) (h' : i < 12) {k : Int} (hk : ¬ (k = 11 ∨ (462 ≤ k ∧ k < 474))) : drS M i k = M k := by
  have := do_b M h
  unfold drS
  rw [updI_ne (by omega), updI_ne (by omega), updI_ne (by omega)]
theorem dr_fr {P : Int} (hP : P ≤ 12) : ∀ n : Nat, (n : Int) ≤ P - 1 → ∀ k : Int, ¬ (k = 11 ∨ (462 ≤ k ∧ k < 474)) → drZ M P n k = M k := by
  intro n
  induction n with
  | zero => intro _ k _; rfl
  | succ n ih => intro hn k hk; rw [drZ, drS_fr (by omega) (by omega) hk]; exact ih (by omega) k hk
theorem drS_ord {i P : Int} (h : 0 ≤ i) (h' : i < P) (hP : P ≤ 12) (h1 : ∀ k : Int, 0 ≤ k → k < P → 0 ≤ M (462 + k) ∧ M (462 + k) < M 6) (h2 : ∀ a b : Int, 0 ≤ a → a < P → 0 ≤ b → b < P → a ≠ b → M (462 + a) ≠ M (462 + b)) :
    (∀ k : Int, 0 ≤ k → k < P → 0 ≤ drS M i (462 + k) ∧ drS M i (462 + k) < M 6) ∧ ∀ a b : Int, 0 ≤ a → a < P → 0 ≤ b → b < P → a ≠ b → drS M i (462 + a) ≠ drS M i (462 + b) := by
  have ho := do_b M h
  have g : ∀ k : Int, 0 ≤ k → k < P → drS M i (462 + k) = if k = doZ M i then M (462 + i) else if k = i then M (462 + doZ M i) else M (462 + k) := by
    intro k a b
    unfold drS
    by_cases q : k = doZ M i
    · rw [if_pos q, q, updI_self]
    · rw [if_neg q, updI_ne (by omega)]
      by_cases q2 : k = i
      · rw [if_pos q2, q2, updI_self]
      · rw [if_neg q2, updI_ne (by omega), updI_ne (by omega)]
  constructor
  · intro k a b
    rw [g k a b]
    split
    · exact h1 i h h'
    · split
      · exact h1 _ ho.1 (by omega)
      · exact h1 k a b
  · intro a b ha ha' hb hb' hab
    rw [g a ha ha', g b hb hb']
    by_cases q1 : a = doZ M i
    · rw [if_pos q1, if_neg (by omega)]
      by_cases q2 : b = i
      · rw [if_pos q2]; exact h2 i _ h h' ho.1 (by omega) (by omega)
      · rw [if_neg q2]; exact h2 i b h h' hb hb' (by omega)
    · rw [if_neg q1]
      by_cases q2 : a = i
      · rw [if_pos q2]
        by_cases q3 : b = doZ M i
        · rw [if_pos q3]; exact h2 _ i ho.1 (by omega) h h' (by omega)
        · rw [if_neg q3, if_neg (by omega)]; exact h2 _ b ho.1 (by omega) hb hb' (by omega)
      · rw [if_neg q2]
        by_cases q3 : b = doZ M i
        · rw [if_pos q3]; exact h2 a i ha ha' h h' (by omega)
        · rw [if_neg q3]
          by_cases q4 : b = i
          · rw [if_pos q4]; exact h2 a _ ha ha' ho.1 (by omega) (by omega)
          · rw [if_neg q4]; exact h2 a b ha ha' hb hb' hab
theorem dr_ord {P : Int} (hP : P ≤ 12) (h1 : ∀ k : Int, 0 ≤ k → k < P → 0 ≤ M (462 + k) ∧ M (462 + k) < M 6) (h2 : ∀ a b : Int, 0 ≤ a → a < P → 0 ≤ b → b < P → a ≠ b → M (462 + a) ≠ M (462 + b)) : ∀ n : Nat, (n : Int) ≤ P - 1 ∨ n = 0 →
    (∀ k : Int, 0 ≤ k → k < P → 0 ≤ drZ M P n (462 + k) ∧ drZ M P n (462 + k) < M 6) ∧ ∀ a b : Int, 0 ≤ a → a < P → 0 ≤ b → b < P → a ≠ b → drZ M P n (462 + a) ≠ drZ M P n (462 + b) := by
  intro n
  induction n with
  | zero => intro _; exact ⟨h1, h2⟩
  | succ n ih =>
    intro hn
    obtain ⟨i1, i2⟩ := ih (by omega)
    have e6 : drZ M P n 6 = M 6 := by
      by_cases q : n = 0
      · rw [q]; rfl
      · exact dr_fr hP n (by omega) 6 (by omega)
    rw [← e6] at i1
    have := drS_ord (M := drZ M P n) (i := P - 1 - n) (P := P) (by omega) (by omega) hP i1 i2
    rw [e6] at this
    exact this
theorem drS_11 {i : Int} (h : 0 ≤ i) : drS M i 11 = dsZ M := by
  have := do_b M h
  unfold drS
  rw [updI_ne (by omega), updI_ne (by omega), updI_self]
theorem dr_11 {P : Int} (h : 0 ≤ M 11) (h' : M 11 < 2147483648) : ∀ n : Nat, (n : Int) ≤ P - 1 ∨ n = 0 → 0 ≤ drZ M P n 11 ∧ drZ M P n 11 < 2147483648 := by
  intro n
  cases n with
  | zero => intro _; exact ⟨h, h'⟩
  | succ n =>
    intro hn
    rw [drZ, drS_11 (by omega)]
    exact ds_b _
end BR
