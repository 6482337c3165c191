section CH
variable {M : Int → Int} {P : SX4} {W : SX10}
theorem fst_some {p : Int → Bool} (n : Nat) : fst p n ≠ -1 ↔ ∃ k : Nat, k < n ∧ p k = true := by
  constructor
  · intro h
    have h1 := fst_lo p n
    have h2 := fst_hi p n
    refine ⟨(fst p n).toNat, by omega, ?_⟩
    rw [Int.toNat_of_nonneg (by omega)]
    exact fst_at n h
  · intro ⟨k, h1, h2⟩ h
    have := (fst_none n).mp h k h1
    rw [h2] at this
    cases this
def conZ (M : Int → Int) (e r w : Int) : Bool := decide (fst (fun k => decide (workAtZ M e r k = w)) 4 ≠ -1)
theorem C_contains (h : cP P M) (hW : wkI M) {e r w : Int} (he : 0 ≤ e) (he' : e < 12) (hr : 0 ≤ r) (hr' : r < 4) (hw : -1 ≤ w) (hw' : w < 30) : DX4_contains P (iI e) (iI r) (iI w) = some (bI (conZ M e r w)) := by
  have h5 := hW.1
  have key : DX4_contains_L3 P (iI e) (iI r) (iI w) (fun _ => some (iI 1)) (fun _ => some (iI 0)) fu (iI 0) = if fst (fun k => decide (workAtZ M e r k = w)) 4 = -1 then some (iI 0) else some (iI 1) := by
    refine upS (fun f j => DX4_contains_L3 P (iI e) (iI r) (iI w) _ _ f (iI j)) (fun z => if z = -1 then some (iI 0) else some (iI 1)) (fun k => decide (workAtZ M e r k = w)) 4 ?_ ?_ ?_ fu (by unfold fu; omega)
    · intro f j hj hp
      show DX4_contains_L3 _ _ _ _ _ _ _ _ = _
      have b := workAtZ_b hW (k := j) he he' hr hr'
      rw [DX4_contains_L3, C_workAt h hW he he' hr hr' (by omega) (by omega)]
      simp only [iI_lit, iI_add, Option.bind_some]
      rw [if_le (by omega) (by omega) (by omega) (by omega), if_neg (by omega), if_eq (by omega) (by omega) (by omega) (by omega), if_neg (of_decide_eq_false hp)]
      rfl
    · intro f j hj hp
      show DX4_contains_L3 _ _ _ _ _ _ _ _ = _
      have b := workAtZ_b hW (k := j) he he' hr hr'
      rw [DX4_contains_L3, C_workAt h hW he he' hr hr' (by omega) (by omega)]
      simp only [iI_lit, iI_add, Option.bind_some]
      rw [if_le (by omega) (by omega) (by omega) (by omega), if_neg (by omega), if_eq (by omega) (by omega) (by omega) (by omega), if_pos (of_decide_eq_true hp), if_neg (show ¬ (j : Int) = -1 by omega)]
    · intro f
      show DX4_contains_L3 _ _ _ _ _ _ _ _ = _
      rw [DX4_contains_L3]
      simp only [iI_lit]
      rw [if_le (by omega) (by omega) (by omega) (by omega), if_pos (by omega)]
      rfl
  unfold DX4_contains conZ
  simp only [iI_lit]
  rw [key]
  by_cases q : fst (fun k => decide (workAtZ M e r k = w)) 4 = -1
  · rw [if_pos q, decide_eq_false (fun h => h q)]; rfl
  · rw [if_neg q, decide_eq_true q]; rfl
def repK (M : Int → Int) (e r i k : Int) : Bool := decide (workAtZ M e r k ≠ -1) && conZ M e i (workAtZ M e r k)
def repI (M : Int → Int) (e r i : Int) : Bool := decide (fst (repK M e r i) 4 ≠ -1)
def repZ (M : Int → Int) (e r : Int) : Bool := decide (fst (repI M e r) r.toNat ≠ -1)
theorem C_repeats (h : cP P M) (hW : wkI M) {e r : Int} (he : 0 ≤ e) (he' : e < 12) (hr : 0 ≤ r) (hr' : r < 4) : DX4_repeatsEarlierRound P (iI e) (iI r) = some (bI (repZ M e r)) := by
  have h5 := hW.1
  have inner : ∀ (i : Int) (k9 k10 : Unit → Option Int32), 0 ≤ i → i < 4 → DX4_repeatsEarlierRound_L10 P (iI e) (iI r) (iI i) k9 k10 fu (iI 0) = if fst (repK M e r i) 4 = -1 then k10 () else k9 () := by
    intro i k9 k10 hi hi'
    refine upS (fun f j => DX4_repeatsEarlierRound_L10 P (iI e) (iI r) (iI i) k9 k10 f (iI j)) (fun z => if z = -1 then k10 () else k9 ()) (repK M e r i) 4 ?_ ?_ ?_ fu (by unfold fu; omega)
    · intro f j hj hp
      show DX4_repeatsEarlierRound_L10 _ _ _ _ _ _ _ _ = _
      have b := workAtZ_b hW (k := j) he he' hr hr'
      rw [DX4_repeatsEarlierRound_L10, C_workAt h hW he he' hr hr' (by omega) (by omega)]
      simp only [iI_lit, iI_add, iI_neg, Option.bind_some, jn_eq]
      rw [if_le (by omega) (by omega) (by omega) (by omega), if_neg (by omega), if_eq (by omega) (by omega) (by omega) (by omega), C_contains h hW he he' hi hi' (by omega) (by omega)]
      simp only [Option.bind_some, if_bz]
      unfold repK at hp
      by_cases q : workAtZ M e r j = -1
      · rw [if_pos q]; rfl
      · rw [decide_eq_true q, Bool.true_and] at hp
        rw [if_neg q, hp, if_neg (show ¬ false = true by decide)]; rfl
    · intro f j hj hp
      show DX4_repeatsEarlierRound_L10 _ _ _ _ _ _ _ _ = _
      have b := workAtZ_b hW (k := j) he he' hr hr'
      rw [DX4_repeatsEarlierRound_L10, C_workAt h hW he he' hr hr' (by omega) (by omega)]
      simp only [iI_lit, iI_add, iI_neg, Option.bind_some, jn_eq]
      rw [if_le (by omega) (by omega) (by omega) (by omega), if_neg (by omega), if_eq (by omega) (by omega) (by omega) (by omega), C_contains h hW he he' hi hi' (by omega) (by omega)]
      simp only [Option.bind_some, if_bz]
      unfold repK at hp
      rw [Bool.and_eq_true, decide_eq_true_eq] at hp
      rw [if_neg hp.1, hp.2, if_pos (show true = true from rfl), if_neg (show ¬ (j : Int) = -1 by omega)]
    · intro f
      show DX4_repeatsEarlierRound_L10 _ _ _ _ _ _ _ _ = _
      rw [DX4_repeatsEarlierRound_L10]
      simp only [iI_lit]
      rw [if_le (by omega) (by omega) (by omega) (by omega), if_pos (by omega)]
      rfl
  have key : DX4_repeatsEarlierRound_L2 P (iI e) (iI r) (fun _ => some (iI 1)) (fun _ => some (iI 0)) fu (iI 0) = if fst (repI M e r) r.toNat = -1 then some (iI 0) else some (iI 1) := by
    refine upS (fun f j => DX4_repeatsEarlierRound_L2 P (iI e) (iI r) (fun _ => some (iI 1)) (fun _ => some (iI 0)) f (iI j)) (fun z => if z = -1 then some (iI 0) else some (iI 1)) (repI M e r) r.toNat ?_ ?_ ?_ fu (by unfold fu; omega)
    · intro f j hj hp
      show DX4_repeatsEarlierRound_L2 _ _ _ _ _ _ _ = _
      rw [DX4_repeatsEarlierRound_L2]
      simp only [iI_lit, iI_add]
      have hp' : fst (repK M e r j) 4 = -1 := Decidable.not_not.mp (of_decide_eq_false hp)
      rw [if_le (by omega) (by omega) (by omega) (by omega), if_neg (by omega), inner j _ _ (by omega) (by omega), if_pos hp']
      rfl
    · intro f j hj hp
      show DX4_repeatsEarlierRound_L2 _ _ _ _ _ _ _ = _
      rw [DX4_repeatsEarlierRound_L2]
      simp only [iI_lit, iI_add]
      have hp' : ¬ fst (repK M e r j) 4 = -1 := of_decide_eq_true hp
      rw [if_le (by omega) (by omega) (by omega) (by omega), if_neg (by omega), inner j _ _ (by omega) (by omega), if_neg hp', if_neg (show ¬ (j : Int) = -1 by omega)]
    · intro f
      show DX4_repeatsEarlierRound_L2 _ _ _ _ _ _ _ = _
      rw [DX4_repeatsEarlierRound_L2, if_le (by omega) (by omega) (by omega) (by omega), if_pos (by omega)]
      rfl
  unfold DX4_repeatsEarlierRound repZ
  simp only [iI_lit]
  rw [key]
  by_cases q : fst (repI M e r) r.toNat = -1
  · rw [if_pos q, decide_eq_false (fun h => h q)]; rfl
  · rw [if_neg q, decide_eq_true q]; rfl
theorem was_iff {e w : Int} (n : Nat) : wasZ M e w n = true ↔ ∃ t : Nat, t < n ∧ workAtZ M e ((t : Int) / 4) ((t : Int) - (t : Int) / 4 * 4) = w := by
  unfold wasZ
  constructor
  · intro h
    have h1 : ¬ al (fun k => decide (workAtZ M e (k / 4) (k - k / 4 * 4) ≠ w)) n = true := by intro h2; rw [h2] at h; cases h
    apply Classical.byContradiction
    intro h2
    exact h1 ((al_iff n).mpr fun k hk => decide_eq_true fun h3 => h2 ⟨k, hk, h3⟩)
  · intro ⟨t, h1, h2⟩
    cases ha : al (fun k => decide (workAtZ M e (k / 4) (k - k / 4 * 4) ≠ w)) n with
    | true => exact absurd h2 (of_decide_eq_true ((al_iff n).mp ha t h1))
    | false => rfl
theorem flZ_4 (e r : Int) (N : Nat) : ∀ n, (flZ M e r N n).2.2.2 = true ↔ ∃ k : Nat, k < n ∧ wasZ M e (workAtZ M e r k) (4 * r).toNat = true := by
  intro n
  induction n with
  | zero => exact ⟨fun h => (nomatch h), fun ⟨k, h, _⟩ => absurd h (Nat.not_lt_zero k)⟩
  | succ n ih =>
    show ((flZ M e r N n).2.2.2 || wasZ M e (workAtZ M e r n) (4 * r).toNat) = true ↔ _
    rw [Bool.or_eq_true, ih]
    constructor
    · intro h
      rcases h with ⟨k, h1, h2⟩ | h
      · exact ⟨k, by omega, h2⟩
      · exact ⟨n, by omega, h⟩
    · intro ⟨k, h1, h2⟩
      by_cases q : k = n
      · right; rw [← q]; exact h2
      · left; exact ⟨k, by omega, h2⟩
theorem rep_fl (hW : wkI M) {e r : Int} (he : 0 ≤ e) (he' : e < 12) (hr : 0 ≤ r) (hr' : r < 4) : repZ M e r = (flZ M e r (M (cellZ e r)).toNat (M (cellZ e r)).toNat).2.2.2 := by
  have hc := (hW.2.2 e r he he' hr hr').1
  rw [Bool.eq_iff_iff, flZ_4]
  unfold repZ
  rw [decide_eq_true_eq, fst_some]
  constructor
  · intro ⟨i, h1, h2⟩
    unfold repI at h2
    rw [decide_eq_true_eq, fst_some] at h2
    obtain ⟨k, h3, h4⟩ := h2
    unfold repK conZ at h4
    rw [Bool.and_eq_true, decide_eq_true_eq, decide_eq_true_eq, fst_some] at h4
    obtain ⟨h5, t, h6, h7⟩ := h4
    refine ⟨k, Nat.lt_of_not_le fun h8 => h5 (if_neg (by omega)), (was_iff _).mpr ⟨4 * i + t, by omega, ?_⟩⟩
    rw [show ((4 * i + t : Nat) : Int) / 4 = i by omega, show ((4 * i + t : Nat) : Int) - i * 4 = t by omega]
    exact of_decide_eq_true h7
  · intro ⟨k, h1, h2⟩
    obtain ⟨t, h3, h4⟩ := (was_iff _).mp h2
    have g := workAtZ_in hW he he' hr hr' (k := k) (by omega) (by omega)
    refine ⟨t / 4, by omega, ?_⟩
    unfold repI
    rw [decide_eq_true_eq, fst_some]
    refine ⟨k, by omega, ?_⟩
    unfold repK conZ
    rw [Bool.and_eq_true, decide_eq_true_eq, decide_eq_true_eq, fst_some]
    refine ⟨by omega, t % 4, by omega, decide_eq_true ?_⟩
    rw [show ((t / 4 : Nat) : Int) = (t : Int) / 4 by omega, show ((t % 4 : Nat) : Int) = (t : Int) - (t : Int) / 4 * 4 by omega]
    exact h4
end CH
