section KZ
variable {M N V X : Int → Int} {S : SX12} {C : SX0} {s : Int → Int} {p : Int} {last : Bool} {T : SX11} {c : Int}
/-- the cells with the tied ones' flags -/
def tfZ (Y : Int → Int) (ft : Int → Int) (n : Int) : Int → Int := fun k => if 654 ≤ k ∧ k < 654 + n then (if ft (k - 654) = 1 then 1 else 0) else Y k
theorem tf_s (Y : Int → Int) (ft : Int → Int) {n : Int} (h : 0 ≤ n) : updI (tfZ Y ft n) (654 + n) (if ft n = 1 then 1 else 0) = tfZ Y ft (n + 1) := by
  funext k
  unfold updI
  by_cases q : k = 654 + n
  · rw [if_pos q]
    unfold tfZ
    rw [if_pos (show 654 ≤ k ∧ k < 654 + (n + 1) by omega), show k - 654 = n by omega]
  · rw [if_neg q]
    unfold tfZ
    by_cases q2 : 654 ≤ k ∧ k < 654 + n
    · rw [if_pos q2, if_pos (show 654 ≤ k ∧ k < 654 + (n + 1) by omega)]
    · rw [if_neg q2, if_neg (show ¬ (654 ≤ k ∧ k < 654 + (n + 1)) by omega)]
theorem tf_0 (Y : Int → Int) (ft : Int → Int) : tfZ Y ft 0 = Y := funext fun k => if_neg (by omega)
theorem R_190 {Y : Int → Int} {ft : Int → Int} (hm : gX12_m S = mI Y) (h6 : 0 ≤ Y 6) (h6' : Y 6 ≤ 12) (hf : ∀ e : Nat, (e : Int) < Y 6 → gX12_fate S e = iI (ft e)) (hb : ∀ e : Int, -1 ≤ ft e ∧ ft e ≤ 2) (k25 : SX12 → Option SX12) : DX12_settle_L190 k25 fu (iI 0) S = k25 (uX12_m S (mI (tfZ Y ft (Y 6)))) := by
  have base : S = uX12_m S (mI (tfZ Y ft ((0 : Nat) : Int))) := by rw [show ((0 : Nat) : Int) = 0 from rfl, tf_0, um_self hm]
  have := upL (fun f j => DX12_settle_L190 k25 f (iI j) (uX12_m S (mI (tfZ Y ft (j : Int))))) (k25 (uX12_m S (mI (tfZ Y ft (Y 6))))) (Y 6).toNat ?_ ?_ fu (by unfold fu; omega)
  · rw [← base] at this
    exact this
  · intro f j hj
    show DX12_settle_L190 _ _ _ _ = _
    have b := hb j
    have fj := hf j (by omega)
    rw [DX12_settle_L190]
    simp only [lt_eq, jn_eq, iI_lit, um_m, um_um, iI_add, show ∀ x, gX12_fate (uX12_m S x) = gX12_fate S from fun _ => rfl]
    rw [show mI (tfZ Y ft (j : Int)) 6 = iI (Y 6) from congrArg iI (if_neg (by omega)), if_le (by omega) (by omega) (by omega) (by omega), if_neg (by omega), gd_iI (by omega) (by omega) (by omega), iI_nat (a := (j : Int)) (by omega) (by omega), show ((j : Int)).toNat = j by omega, fj, if_eq (by omega) (by omega) (by omega) (by omega), mI_upd (by omega) (by omega), mI_upd (by omega) (by omega), show ((j + 1 : Nat) : Int) = (j : Int) + 1 by omega, ← tf_s Y ft (show 0 ≤ (j : Int) by omega)]
    simp (disch := omega) only [gd_iI]
    by_cases q : ft j = 1
    · rw [if_pos q, if_pos q]
    · rw [if_neg q, if_neg q]
  · intro f
    show DX12_settle_L190 _ _ _ _ = _
    rw [DX12_settle_L190]
    simp only [um_m]
    rw [show mI (tfZ Y ft (((Y 6).toNat : Nat) : Int)) 6 = iI (Y 6) from congrArg iI (if_neg (by omega)), if_le (by omega) (by omega) (by omega) (by omega), if_pos (by omega), Int.toNat_of_nonneg (by omega)]
/-- what settling does once the lots of the tied are known -/
def stK (v2_8 : Int32) (S9 : SX12) : Option SX12 := (DX12_clearTie S9).bind fun x10 => (jn (fun (S12 : SX12) => some S12) (fun j13 => (if (((gX12_fates x10) 1) ≤ (0 : Int32)) then (if (((gX12_m x10) 1) ≤ (((gX12_m x10) 4) + (1 : Int32))) then lt (uX12_m x10 (upd (gX12_m x10) 3 (3 : Int32))) (fun S14 => j13 S14) else (DX12_beginRound x10 (((gX12_m x10) 4) + (1 : Int32))).bind fun x16 => (j13 x16)) else lt (uX12_m x10 (upd (gX12_m x10) 3 (2 : Int32))) (fun S18 => lt (uX12_m S18 (upd (gX12_m S18) 10 (((gX12_m S9) 10) + (1 : Int32)))) (fun S20 => lt (uX12_m S20 (upd (gX12_m S20) 9 v2_8)) (fun S22 => DX12_settle_L190 (fun (S27 : SX12) => j13 S27) fu (0 : Int32) S22))))))
theorem settle_K (S : SX12) (p1 : Int32) : DX12_settle S p1 = jn (fun (x1 : Int32) => DX12_settle_L29 x1 stK fu (p1 - ((gX12_fates S) 0)) (0 : Int32) S) (fun j2 => (if (((gX12_m S) 10) = (3 : Int32)) then j2 (1 : Int32) else j2 (0 : Int32))) := id rfl
/-- the cells where a tie round has begun -/
def tiN (B : Int → Int) (n l : Int) (ft : Int → Int) : Int → Int := tfZ (updI (updI (updI B 3 2) 10 n) 9 l) ft (B 6)
theorem R_stK {ft : Int → Int} {f1 l : Int} (hm : gX12_m S = mI X) (hB : preI (ctZ X)) (h4 : 0 ≤ X 4) (h4' : X 4 ≤ 3) (h1 : gX12_fates S 1 = iI f1) (hf1 : -100 ≤ f1) (hf1' : f1 ≤ 100) (hf : 0 < f1 → ∀ e : Nat, (e : Int) < X 6 → gX12_fate S e = iI (ft e)) (hb : ∀ e : Int, -1 ≤ ft e ∧ ft e ≤ 2) : ∃ S', stK (iI l) S = some S' ∧ samM S S' ∧ gX12_m S' = mI (if 0 < f1 then tiN (ctZ X) (X 10 + 1) l ft else if X 4 + 1 < X 1 then brZ (ctZ X) (X 4 + 1) else updI (ctZ X) 3 3) := by
  have e1 : ctZ X 1 = X 1 := by unfold ctZ; rw [if_neg (by omega), if_neg (by omega), if_neg (by omega)]
  have e4 : ctZ X 4 = X 4 := by unfold ctZ; rw [if_neg (by omega), if_neg (by omega), if_neg (by omega)]
  have e6 : ctZ X 6 = X 6 := by unfold ctZ; rw [if_neg (by omega), if_neg (by omega), if_neg (by omega)]
  obtain ⟨b1, b2, b3, b4, b5, b6, b7, b8, b9, b10, b11⟩ := hB
  unfold stK
  rw [R_clearTie hm]
  simp only [Option.bind_some, jn_eq, lt_eq, iI_lit, um_m, um_um, hm, show ∀ x, gX12_fates (uX12_m S x) = gX12_fates S from fun _ => rfl]
  rw [h1, show mI (ctZ X) 1 = iI (X 1) from congrArg iI e1, show mI (ctZ X) 4 = iI (X 4) from congrArg iI e4, show mI X 10 = iI (X 10) from rfl, if_le (by omega) (by omega) (by omega) (by omega), iI_add, iI_add, if_le (by omega) (by omega) (by omega) (by omega)]
  by_cases q : f1 ≤ 0
  · rw [if_pos q, if_neg (show ¬ 0 < f1 by omega)]
    by_cases q1 : X 1 ≤ X 4 + 1
    · rw [if_pos q1, if_neg (show ¬ X 4 + 1 < X 1 by omega), mI_updN 3 _ rfl]
      exact ⟨_, rfl, samM_m, um_m⟩
    · rw [if_neg q1, if_pos (show X 4 + 1 < X 1 by omega), R_beginRound um_m b1 b6 b5.1 b5.2 b10 (by omega) (by omega), um_um]
      exact ⟨_, rfl, samM_m, um_m⟩
  · rw [if_neg q, if_pos (show 0 < f1 by omega), mI_updN 3 _ rfl, mI_updN 10 _ rfl, mI_updN 9 _ rfl, R_190 (ft := ft) um_m (by rw [u_ne (by omega), u_ne (by omega), u_ne (by omega)]; omega) (by rw [u_ne (by omega), u_ne (by omega), u_ne (by omega)]; omega) (fun e he => by
      rw [u_ne (by omega), u_ne (by omega), u_ne (by omega)] at he
      exact hf (by omega) e (by omega)) hb, um_um]
    refine ⟨_, rfl, samM_m, ?_⟩
    rw [um_m]
    unfold tiN
    rw [show updI (updI (updI (ctZ X) 3 2) 10 (X 10 + 1)) 9 l 6 = ctZ X 6 by rw [u_ne (by omega), u_ne (by omega), u_ne (by omega)]]
/-- what holds of the cells once those below are out, and the tie round is over -/
theorem B_pre (hMK : MK M) (fin : Int → Bool) : preI (ctZ (ioZ M fin (M 7))) ∧ (∀ k : Int, ¬ (k = 9 ∨ k = 10 ∨ (126 ≤ k ∧ k < 138) ∨ (570 ≤ k ∧ k < 666)) → ctZ (ioZ M fin (M 7)) k = M k) ∧ ctZ (ioZ M fin (M 7)) 9 = 0 ∧ ctZ (ioZ M fin (M 7)) 10 = 0 ∧ (∀ k : Int, 570 ≤ k → k < 654 → ctZ (ioZ M fin (M 7)) k = -1) ∧ (∀ k : Int, 654 ≤ k → k < 666 → ctZ (ioZ M fin (M 7)) k = 0) ∧ ∀ e : Int, 0 ≤ e → e < 12 → ctZ (ioZ M fin (M 7)) (126 + e) = if (0 ≤ plcZ M e ∧ plcZ M e < M 7) ∧ fin e = true then 0 else M (126 + e) := by
  obtain ⟨⟨hR, hT, hW, hIn, hTi, hk, hs, hO, hN, hru, hba, hty, hml⟩, hx⟩ := hMK
  obtain ⟨t0, t1, t2, t3, t4, t6, t7, t8⟩ := hT
  have g : ∀ k : Int, ¬ (k = 9 ∨ k = 10 ∨ (126 ≤ k ∧ k < 138) ∨ (570 ≤ k ∧ k < 666)) → ctZ (ioZ M fin (M 7)) k = M k := fun k h => by
    unfold ctZ
    rw [if_neg (by omega), if_neg (by omega), if_neg (by omega), io_fr (by omega)]
  have gi : ∀ e : Int, 0 ≤ e → e < 12 → ctZ (ioZ M fin (M 7)) (126 + e) = if (0 ≤ plcZ M e ∧ plcZ M e < M 7) ∧ fin e = true then 0 else M (126 + e) := fun e a b => by
    rw [← io_in a b]
    unfold ctZ
    rw [if_neg (by omega), if_neg (by omega), if_neg (by omega)]
  refine ⟨?_, g, by unfold ctZ; rw [if_pos (by omega)], by unfold ctZ; rw [if_pos (by omega)], fun k a b => by unfold ctZ; rw [if_neg (by omega), if_pos (by omega)], fun k a b => by unfold ctZ; rw [if_neg (by omega), if_neg (by omega), if_pos (by omega)], gi⟩
  refine ⟨fun k => ?_, by rw [g 0 (by omega)]; exact t0, by rw [g 1 (by omega)]; exact t1, by rw [g 2 (by omega)]; exact t2, by rw [g 6 (by omega)]; exact t6, wk_c (fun k hk => g k (by omega)) hW, fun e a b => ?_, ru_c (fun k hk => g k (by omega)) hru, ba_c (fun k hk => g k (by omega)) hba, by rw [g 11 (by omega)]; exact hty.2.2.2.2.2.2.2, fun e r a b d f h9 => ?_⟩
  · have := hR k
    unfold ctZ ioZ
    repeat' split
    all_goals omega
  · rw [g 6 (by omega), gi e a b]
    have := hIn e a b
    split
    · exact ⟨Or.inl rfl, fun _ => rfl⟩
    · exact this
  · rw [g 6 (by omega)] at h9
    rw [g _ (by omega)]
    exact hx.2 e r a b d f h9
theorem B_nz (hz : nz M) (fin : Int → Bool) : nz (ctZ (ioZ M fin (M 7))) := by
  intro k hk
  unfold ctZ
  rw [if_neg (by omega), if_neg (by omega), if_neg (by omega), io_fr (by omega)]
  exact hz k hk
/-- the class goes on: the next round, or the end -/
theorem C_goOn {B : Int → Int} (hB : preI B) (h4 : 0 ≤ B 4) (h4' : B 4 ≤ 3) (b9 : B 9 = 0) (b10 : B 10 = 0) (bm : ∀ k : Int, 570 ≤ k → k < 654 → B k = -1) (bt : ∀ k : Int, 654 ≤ k → k < 666 → B k = 0) (c4 : gX0_round C = iI (B 4)) (c1 : gX0_rounds C = iI (B 1)) (c2 : gX0_penalty C = iI (B 2)) (cw : cW (gX0_works C) B) (ce : cE (gX0_entrants C) B) (cr : cR (gX0_rules C) B) (cp : cP (gX0_programs C) B) (cj : cJ (gX0_jury C) B) (cs : cS (gX0_stage C) B) (h7 : B 7 ≤ 12) (ch : cH (gX0_sheet C) B 486) (cc : cC (gX0_closedScores C) B) : ∃ C', DX0_goOn C = some C' ∧ Cp C' (if B 4 + 1 < B 1 then brZ B (B 4 + 1) else updI B 3 3) := by
  have b1 := hB.2.2.1
  have hW := hB.2.2.2.2.2.1
  unfold DX0_goOn
  rw [C_end9]
  simp only [Option.bind_some, jn_eq, lt_eq, iI_lit]
  rw [show ∀ t, gX0_rounds (uX0_tie C t) = gX0_rounds C from fun _ => rfl, show ∀ t, gX0_round (uX0_tie C t) = gX0_round C from fun _ => rfl, c4, c1, iI_add, if_le (by omega) (by omega) (by omega) (by omega)]
  by_cases q : B 1 ≤ B 4 + 1
  · rw [if_pos q, if_neg (show ¬ B 4 + 1 < B 1 by omega)]
    have g : ∀ k : Int, ¬ (k = 3) → updI B 3 3 k = B k := fun k h => u_ne h
    refine ⟨_, rfl, by rw [updI_self]; rfl, by rw [g 4 (by omega)]; exact c4, by rw [g 1 (by omega)]; exact c1, by rw [g 2 (by omega)]; exact c2, cW_c (fun k hk => g k (by omega)) hW.1.2 cw, cE_c (fun k hk => g k (by omega)) ce, cR_c (fun k hk => g k (by omega)) cr, cP_c (fun k hk => g k (by omega)) hW cp, cJ_c (fun k hk => g k (by omega)) cj, cS_c (fun k hk => g k (by omega)) h7 cs, cH_c (fun k hk => g k (by omega)) ch, ⟨?_, ?_, fun e a b => ?_, fun j e a b d f => ?_⟩, cC_c (fun k hk => g k (by omega)) cc⟩
    · rw [g 10 (by omega), b10]; rfl
    · rw [g 9 (by omega), b9]; rfl
    · rw [g _ (by omega), bt _ (by omega) (by omega)]; rfl
    · rw [g _ (by omega), bm _ (by omega) (by omega)]
      show (if j.toNat < 7 then (fun _ => iI (-1)) else gX9_sheet (gX0_tie C) j.toNat) e.toNat = _
      rw [if_pos (by omega)]
  · rw [if_neg q, if_pos (show B 4 + 1 < B 1 by omega)]
    obtain ⟨C', e1, e2⟩ := C_startRound (C := uX0_tie C (iI 0, iI 0, (fun _ => iI 0), (fun q : Nat => if q < 7 then (fun _ => iI (-1)) else gX9_sheet (gX0_tie C) q))) hB (r := B 4 + 1) (by omega) (by omega) c1 c2 cw ce cr cp cj cs.2.2.1 ⟨by rw [(m0_at _ 10).2.1 (by omega)]; rfl, by rw [(m0_at _ 9).2.1 (by omega)]; rfl, fun e a b => by rw [(m0_at _ _).2.2.2 (by omega)]; rfl, fun j e a b d f => by
      rw [(m0_at _ _).2.2.1 (by omega)]
      show (if j.toNat < 7 then (fun _ => iI (-1)) else gX9_sheet (gX0_tie C) j.toNat) e.toNat = _
      rw [if_pos (by omega)]⟩ cc
    rw [e1]
    exact ⟨C', rfl, e2⟩
end KZ
