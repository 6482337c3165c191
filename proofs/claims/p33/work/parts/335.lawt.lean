/-! programs told by texts -/
section LT
variable {M N V : Int → Int} {T : SX11} {X X1 : SX8} {S : SX12} {Tx : Int → Int} {L : Int} {c : Int32 → Int32}
theorem fa_end {F : Nat} {nn ss : Nat → Int} {w : Int} (h : nX X1 F nn ss) (hF : F ≤ 4) (hw : 0 ≤ w) (hw' : w ≤ 30) (hr : DX8_readNumbers X = some (iI (-1), X1)) (hz : wrZ nn ss w F = -1) : DX8_faultAmong X (iI w) = some (iI (-1), X1) := by
  unfold DX8_faultAmong
  rw [hr]
  simp only [Option.bind_some, iI_lit, iI_neg, jn_eq]
  rw [if_pos trivial]
  exact (C_among h hF hw hw').trans (by rw [hz])
/-- a digit that begins a number -/
theorem l9_dig (h : tI X S L Tx) {i : Int} (hi : 0 ≤ i) (hi' : i < L) {f : Nat} (hf : gX8_found X = iI f) (hf' : f < 4) (hd : 48 ≤ Tx i ∧ Tx i ≤ 57) : ∃ X1, tI X1 S L Tx ∧ gX8_found X1 = iI ((f + 1 : Nat) : Int) ∧ gX8_numbers X1 f = iI (Tx i - 48) ∧ gX8_starts X1 f = iI i ∧ (∀ k : Nat, k ≠ f → gX8_numbers X1 k = gX8_numbers X k ∧ gX8_starts X1 k = gX8_starts X k) ∧ ∀ (g : Nat) (k7 k10 : Int32 → SX8 → Option (Int32 × SX8)), DX8_readNumbers_L9 k7 k10 (g + 1) (iI 0) (iI i) X = DX8_readNumbers_L9 k7 k10 g (iI 1) (iI (i + 1)) X1 := by
  refine ⟨uX8_found (uX8_numbers (uX8_starts X (upd (gX8_starts X) f (iI i))) (upd (gX8_numbers X) f (iI (Tx i - 48)))) (iI ((f : Int) + 1)), h, rfl, if_pos rfl, if_pos rfl, fun k hk => ⟨if_neg hk, if_neg hk⟩, fun g k7 k10 => ?_⟩
  rw [(C_l9 h hi hi' (by omega) (by omega) hf (by omega) g k7 k10).1 hd (by omega), if_pos rfl, C_rd1 hf hf']
  rfl
theorem text_1 (S : SX12) {a w : Int} (hl : gX8_length X = iI 1) (hc : gX8_codes X 0 = iI (48 + a)) (ha : 0 ≤ a) (ha' : a ≤ 9) (haw : a < w) (hw : w ≤ 30) : ∃ X', DX8_faultAmong X (iI w) = some (iI (-1), X') ∧ gX8_found X' = iI 1 ∧ gX8_numbers X' 0 = iI a := by
  have hT : tI (uX8_found X (iI 0)) (uX12_text (uX12_textLength S (iI 1)) (fun _ => iI (48 + a))) 1 (fun _ => 48 + a) := ⟨hl, rfl, by omega, fun k h1 h2 => ⟨by rw [show k = 0 by omega]; exact hc, rfl, (show (32 : Int) ≤ 48 + a by omega), (show 48 + a ≤ (126 : Int) by omega)⟩⟩
  obtain ⟨X1, h1, h2, h3, h4, -, h5⟩ := l9_dig hT (i := 0) (f := 0) (by omega) (by omega) rfl (by omega) ⟨(show (48 : Int) ≤ 48 + a by omega), (show 48 + a ≤ (57 : Int) by omega)⟩
  have h3 : gX8_numbers X1 0 = iI a := h3.trans (congrArg iI (show 48 + a - 48 = a by omega))
  refine ⟨X1, fa_end (F := 1) (nn := fun _ => a) (ss := fun _ => 0) ⟨h2, fun k hk => ?_⟩ (by omega) (by omega) hw ?_ ?_, h2, h3⟩
  · have : k = 0 := by omega
    subst this
    exact ⟨h3, h4, ⟨ha, (show a ≤ 99 by omega)⟩, ⟨Int.le_refl 0, (show (0 : Int) ≤ 40 by omega)⟩⟩
  · unfold DX8_readNumbers
    simp only [lt_eq, jn_eq, iI_lit, iI_neg]
    rw [show fu = 999998 + 1 + 1 from rfl, h5, show (0 : Int) + 1 = 1 from rfl, C_l9e h1, if_eq (by omega) (by omega) (by omega) (by omega), if_neg (by omega)]
  · simp only [wrZ, badZ, al, Bool.and_true]
    rw [decide_eq_true haw]
    simp [al]
theorem text_3 (S : SX12) {a b w : Int} (hl : gX8_length X = iI 3) (hc : gX8_codes X 0 = iI (48 + a)) (hc1 : gX8_codes X 1 = iI 44) (hc2 : gX8_codes X 2 = iI (48 + b)) (ha : 0 ≤ a) (ha' : a ≤ 9) (haw : a < w) (hb : 0 ≤ b) (hb' : b ≤ 9) (hbw : b < w) (hab : a ≠ b) (hw : w ≤ 30) : ∃ X', DX8_faultAmong X (iI w) = some (iI (-1), X') ∧ gX8_found X' = iI 2 ∧ gX8_numbers X' 0 = iI a := by
  have t0 : (fun k : Int => if k = 0 then 48 + a else if k = 1 then 44 else 48 + b) 0 = 48 + a := if_pos rfl
  have t1 : (fun k : Int => if k = 0 then 48 + a else if k = 1 then 44 else 48 + b) 1 = 44 := id rfl
  have t2 : (fun k : Int => if k = 0 then 48 + a else if k = 1 then 44 else 48 + b) 2 = 48 + b := id rfl
  generalize hTx : (fun k : Int => if k = 0 then 48 + a else if k = 1 then 44 else 48 + b) = Tx at t0 t1 t2
  have hT : tI (uX8_found X (iI 0)) (uX12_text (uX12_textLength S (iI 3)) (fun k => iI (Tx k))) 3 Tx := ⟨hl, rfl, by omega, fun k h1 h2 => by
    have e : ((k.toNat : Nat) : Int) = k := by omega
    refine ⟨?_, show iI (Tx ((k.toNat : Nat) : Int)) = iI (Tx k) by rw [e], ?_⟩
    · rcases (show k = 0 ∨ k = 1 ∨ k = 2 by omega) with q | q | q
      · rw [q, t0]; exact hc
      · rw [q, t1]; exact hc1
      · rw [q, t2]; exact hc2
    · rcases (show k = 0 ∨ k = 1 ∨ k = 2 by omega) with q | q | q
      · rw [q, t0]; omega
      · rw [q, t1]; omega
      · rw [q, t2]; omega⟩
  obtain ⟨X1, h1, h2, h3, h4, -, h5⟩ := l9_dig hT (i := 0) (f := 0) (by omega) (by omega) rfl (by omega) (by rw [t0]; omega)
  have h6 := fun g k7 k10 => (C_l9 h1 (i := 1) (d := 1) (by omega) (by omega) (by omega) (by omega) h2 (by omega) g k7 k10).2.1 (by rw [t1]; omega) ⟨t1, by omega, by omega⟩
  obtain ⟨X2, j1, j2, j3, j4, j6, j5⟩ := l9_dig h1 (i := 2) (f := 1) (by omega) (by omega) h2 (by omega) (by rw [t2]; omega)
  have j0 := j6 0 (by omega)
  rw [h3, h4, t0, show 48 + a - 48 = a by omega] at j0
  rw [t2, show 48 + b - 48 = b by omega] at j3
  refine ⟨X2, fa_end (F := 2) (nn := fun k => if k = 0 then a else b) (ss := fun k => if k = 0 then 0 else 2) ⟨j2, fun k hk => ?_⟩ (by omega) (by omega) hw ?_ ?_, j2, j0.1⟩
  · rcases (show k = 0 ∨ k = 1 by omega) with q | q
    · subst q
      exact ⟨j0.1, j0.2, ⟨ha, (show a ≤ 99 by omega)⟩, ⟨Int.le_refl 0, (show (0 : Int) ≤ 40 by omega)⟩⟩
    · subst q
      exact ⟨j3, j4, ⟨hb, (show b ≤ 99 by omega)⟩, ⟨(show (0 : Int) ≤ 2 by omega), (show (2 : Int) ≤ 40 by omega)⟩⟩
  · unfold DX8_readNumbers
    simp only [lt_eq, jn_eq, iI_lit, iI_neg]
    rw [show fu = 999996 + 1 + 1 + 1 + 1 from rfl, h5, show (0 : Int) + 1 = 1 from rfl, h6, show (1 : Int) + 1 = 2 from rfl, j5, show (2 : Int) + 1 = 3 from rfl, C_l9e j1, if_eq (by omega) (by omega) (by omega) (by omega), if_neg (by omega)]
  · have b0 : badZ (fun k => if k = 0 then a else b) w ((0 : Nat) : Int) = false := by
      unfold badZ
      simp only [show (((0 : Nat) : Int)).toNat = 0 from rfl, if_true, al]
      rw [decide_eq_true haw]
      rfl
    have b1 : badZ (fun k => if k = 0 then a else b) w ((1 : Nat) : Int) = false := by
      unfold badZ
      simp only [show (((1 : Nat) : Int)).toNat = 1 from rfl, al]
      rw [if_neg (by omega), decide_eq_true hbw]
      simp [hab]
    rw [wrZ, wrZ, b0, b1]
    simp [wrZ]
end LT
