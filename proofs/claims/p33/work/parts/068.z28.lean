section BS
variable {M N X : Int → Int} {S : SX12}
theorem m7_u {z v : Int} (h : z ≠ 7) : mI (updI X z v) 7 = iI (X 7) := congrArg iI (show updI X z v 7 = X 7 from updI_ne (Ne.symm h))
theorem emod_f (a : Int) {b : Int} : a - a / b * b = a % b := by rw [Int.emod_def, Int.mul_comm]
theorem R_draw (hm : gX12_m S = mI X) (h7 : 0 ≤ X 7) (h7' : X 7 ≤ 12) (h11 : 0 ≤ X 11) (h11' : X 11 < 2147483648) : DX12_draw S = some (uX12_m S (mI (drZ X (X 7) (X 7 - 1).toNat))) := by
  unfold DX12_draw
  rw [show gX12_m S 7 = iI (X 7) by rw [hm]; rfl]
  simp only [iI_lit, iI_sub]
  have base : S = uX12_m S (mI (drZ X (X 7) 0)) := (um_self hm).symm
  have := upL (fun f j => DX12_draw_L10 (fun S4 => some S4) f (iI (X 7 - 1 - j)) (uX12_m S (mI (drZ X (X 7) j)))) (some (uX12_m S (mI (drZ X (X 7) (X 7 - 1).toNat)))) (X 7 - 1).toNat ?_ ?_ fu (by unfold fu; omega)
  · rw [← base] at this
    rw [show X 7 - 1 - ((0 : Nat) : Int) = X 7 - 1 by omega] at this
    exact this
  · intro f j hj
    show DX12_draw_L10 _ _ _ _ = _
    obtain ⟨y1, y2⟩ := dr_11 (M := X) (P := X 7) h11 h11' j (by omega)
    have e7 : drZ X (X 7) j 7 = X 7 := dr_fr h7' j (by omega) 7 (by omega)
    have hn : drZ X (X 7) (j + 1) = drS (drZ X (X 7) j) (X 7 - 1 - j) := rfl
    rw [hn]
    generalize drZ X (X 7) j = Y at *
    obtain ⟨i, hi⟩ : ∃ i : Int, i = X 7 - 1 - j := ⟨_, rfl⟩
    rw [← hi, show X 7 - 1 - ((j + 1 : Nat) : Int) = i - 1 by omega]
    have hs := ds_b Y
    have ho := do_b Y (i := i) (by omega)
    have ev : ((((mI Y 11).toInt64 * jI 1103515245 + jI 12345) - ((mI Y 11).toInt64 * jI 1103515245 + jI 12345) / jI 2147483648 * jI 2147483648).toInt32) = iI (dsZ Y) := by
      rw [show mI Y 11 = iI (Y 11) from rfl, iI_l (by omega) (by omega)]
      simp only [jI_mul, jI_add]
      rw [jI_div (by omega) (by omega) (by omega) (by omega), jI_mul, jI_sub, jI_i]
      unfold dsZ
      congr 1
      omega
    have eo : iI (dsZ Y) / iI 65536 - iI (dsZ Y) / iI 65536 / iI (i + 1) * iI (i + 1) = iI (doZ Y i) := by
      rw [iI_div (by omega) (by omega) (by omega) (by omega), iI_div (by omega) (by omega) (by omega) (by omega), iI_mul, iI_sub, emod_f]
      rfl
    rw [DX12_draw_L10]
    simp only [lt_eq, iI_lit, jI_lit, um_m, um_um, iI_neg, iI_add, ev]
    rw [if_le (by omega) (by omega) (by omega) (by omega), if_neg (by omega), mI_updN 11 _ rfl, show mI (updI Y 11 (dsZ Y)) 11 = iI (dsZ Y) from congrArg iI (updI_self Y 11 _)]
    simp only [eo, iI_add]
    rw [gz_iI (by omega) (by omega) (by omega), gd_iI (by omega) (by omega) (by omega), gd_iI (by omega) (by omega) (by omega), gd_iI (by omega) (by omega) (by omega), gd_iI (by omega) (by omega) (by omega), mI_at (by omega) (by omega), mI_at (by omega) (by omega), mI_upd (by omega) (by omega), mI_upd (by omega) (by omega), updI_ne (show 462 + doZ Y i ≠ 11 by omega), updI_ne (show 462 + i ≠ 11 by omega), show i + -1 = i - 1 by omega]
    rfl
  · intro f
    show DX12_draw_L10 _ _ _ _ = _
    rw [DX12_draw_L10]
    simp only [iI_lit]
    rw [if_le (by omega) (by omega) (by omega) (by omega), if_pos (by omega)]
theorem flawZ_b (M : Int → Int) (e r : Int) : 0 ≤ flawZ M e r ∧ flawZ M e r ≤ 6 := by
  unfold flawZ
  repeat' split
  all_goals omega
theorem bg_m (r : Int) {n : Nat} (hn : n ≤ 12) {k : Int} (hk : ¬ (k = 3 ∨ k = 4 ∨ (7 ≤ k ∧ k ≤ 10) ∨ (126 ≤ k ∧ k < 126 + n) ∨ (462 ≤ k ∧ k < 474) ∨ (486 ≤ k ∧ k < 666))) : bgZ M r n k = M k := by
  rw [bg_fr r n hn k (by omega)]
  unfold m0Z
  rw [if_neg (by omega), if_neg (by omega), if_neg (by omega), if_neg (by omega), if_neg (by omega)]
theorem m0_rg (hR : rg M) {r : Int} (h : 0 ≤ r) (h' : r < 4) : rg (m0Z M r) := by
  intro k
  have := hR k
  unfold m0Z
  repeat' split
  all_goals omega
theorem bg_rg (hR : rg M) {r : Int} (h : 0 ≤ r) (h' : r < 4) : ∀ n : Nat, n ≤ 12 → rg (bgZ M r n) := by
  intro n
  induction n with
  | zero => intro _; exact m0_rg hR h h'
  | succ n ih =>
    intro hn
    have i := ih (by omega)
    have h7 := bg_7 (M := M) r n
    rw [bgZ]
    split
    · exact rg_upd (rg_upd (rg_upd i (by omega) (by omega)) (by omega) (by omega)) (by omega) (by omega)
    · exact rg_upd i (by omega) (by omega)
theorem R_bgL {r : Int} (hm : gX12_m S = mI (m0Z M r)) (hR : rg M) (hW : wkI M) (h6 : 0 ≤ M 6) (h6' : M 6 ≤ 12) (hr : 0 ≤ r) (hr' : r < 4) (k13 : SX12 → Option SX12) : DX12_beginRound_L36 (iI r) k13 fu (iI 0) S = k13 (uX12_m S (mI (bgZ M r (M 6).toNat))) := by
  have base : S = uX12_m S (mI (bgZ M r 0)) := (um_self hm).symm
  have := upL (fun f j => DX12_beginRound_L36 (iI r) k13 f (iI j) (uX12_m S (mI (bgZ M r j)))) (k13 (uX12_m S (mI (bgZ M r (M 6).toNat)))) (M 6).toNat ?_ ?_ fu (by unfold fu; omega)
  · rw [← base] at this
    exact this
  · intro f j hj
    show DX12_beginRound_L36 _ _ _ _ _ = _
    have e6 : bgZ M r j 6 = M 6 := bg_m r (by omega) (by omega)
    have ej : bgZ M r j (126 + j) = M (126 + j) := bg_m r (by omega) (by omega)
    have b7 := bg_7 (M := M) r j
    have hX := bg_rg hR hr hr' j (by omega)
    have hXW : wkI (bgZ M r j) := wk_c (fun k hk => bg_m r (by omega) (by omega)) hW
    have hfl : flawZ (bgZ M r j) j r = flawZ M j r := fl_c (fun k hk => bg_m r (by omega) (by omega)) hW (by omega) (by omega) hr hr'
    have fb := flawZ_b M j r
    have r1 := hR (126 + j)
    have hn : bgZ M r (j + 1) = if selZ M r j = true then updI (updI (updI (bgZ M r j) (126 + j) 1) (462 + bgZ M r j 7) j) 7 (bgZ M r j 7 + 1) else updI (bgZ M r j) (126 + j) 0 := rfl
    rw [hn, show ((j + 1 : Nat) : Int) = (j : Int) + 1 by omega]
    unfold selZ
    have rfw := R_flawOf (S := uX12_m S (mI (bgZ M r j))) um_m hX hXW (e := j) (r := r) (by omega) (by omega) hr hr'
    rw [hfl] at rfw
    generalize bgZ M r j = X at *
    rw [DX12_beginRound_L36]
    simp only [jn_eq, lt_eq, iI_lit, um_m, um_um, iI_add, rfw, Option.bind_some]
    rw [show mI X 6 = iI (M 6) from congrArg iI e6, if_le (by omega) (by omega) (by omega) (by omega), if_neg (by omega), gd_iI (by omega) (by omega) (by omega), mI_at (by omega) (by omega), ej, if_eq (by omega) (by omega) (by omega) (by omega)]
    have f0 : (gd (gIn (iI (126 + ↑j)) 714) (gd (gIn (iI (126 + ↑j)) 714) (if upd (mI X) (iI (126 + ↑j)).toNatClampNeg (iI 0) (iI (126 + ↑j)).toNatClampNeg = iI 1 then gd (gIn (iI 462 + upd (mI X) (iI (126 + ↑j)).toNatClampNeg (iI 0) 7) 714) (DX12_beginRound_L36 (iI r) k13 f (iI (↑j + 1)) (uX12_m S (upd (upd (upd (mI X) (iI (126 + ↑j)).toNatClampNeg (iI 0)) (iI 462 + upd (mI X) (iI (126 + ↑j)).toNatClampNeg (iI 0) 7).toNatClampNeg (iI ↑j)) 7 (upd (upd (mI X) (iI (126 + ↑j)).toNatClampNeg (iI 0)) (iI 462 + upd (mI X) (iI (126 + ↑j)).toNatClampNeg (iI 0) 7).toNatClampNeg (iI ↑j) 7 + iI 1)))) else DX12_beginRound_L36 (iI r) k13 f (iI (↑j + 1)) (uX12_m S (upd (mI X) (iI (126 + ↑j)).toNatClampNeg (iI 0)))))) = DX12_beginRound_L36 (iI r) k13 f (iI (↑j + 1)) (uX12_m S (mI (updI X (126 + ↑j) 0))) := by
      rw [gd_iI (by omega) (by omega) (by omega), gd_iI (by omega) (by omega) (by omega)]
      simp only [mI_upd (show 0 ≤ 126 + (j : Int) by omega) (show 126 + (j : Int) < 2147483648 by omega)]
      rw [mI_at (by omega) (by omega), updI_self, if_neg (by decide)]
    have f1 : (gd (gIn (iI (126 + ↑j)) 714) (gd (gIn (iI (126 + ↑j)) 714) (if upd (mI X) (iI (126 + ↑j)).toNatClampNeg (iI 1) (iI (126 + ↑j)).toNatClampNeg = iI 1 then gd (gIn (iI 462 + upd (mI X) (iI (126 + ↑j)).toNatClampNeg (iI 1) 7) 714) (DX12_beginRound_L36 (iI r) k13 f (iI (↑j + 1)) (uX12_m S (upd (upd (upd (mI X) (iI (126 + ↑j)).toNatClampNeg (iI 1)) (iI 462 + upd (mI X) (iI (126 + ↑j)).toNatClampNeg (iI 1) 7).toNatClampNeg (iI ↑j)) 7 (upd (upd (mI X) (iI (126 + ↑j)).toNatClampNeg (iI 1)) (iI 462 + upd (mI X) (iI (126 + ↑j)).toNatClampNeg (iI 1) 7).toNatClampNeg (iI ↑j) 7 + iI 1)))) else DX12_beginRound_L36 (iI r) k13 f (iI (↑j + 1)) (uX12_m S (upd (mI X) (iI (126 + ↑j)).toNatClampNeg (iI 1)))))) = DX12_beginRound_L36 (iI r) k13 f (iI (↑j + 1)) (uX12_m S (mI (updI (updI (updI X (126 + ↑j) 1) (462 + X 7) ↑j) 7 (X 7 + 1)))) := by
      rw [gd_iI (by omega) (by omega) (by omega), gd_iI (by omega) (by omega) (by omega)]
      simp only [mI_upd (show 0 ≤ 126 + (j : Int) by omega) (show 126 + (j : Int) < 2147483648 by omega)]
      rw [mI_at (by omega) (by omega), updI_self, if_pos rfl, m7_u (by omega), iI_add, gd_iI (by omega) (by omega) (by omega), mI_upd (by omega) (by omega), m7_u (by omega), show updI X (126 + (j : Int)) 1 7 = X 7 from updI_ne (by omega), iI_add, mI_updN 7 _ rfl]
    by_cases q1 : M (126 + j) = 1
    · rw [if_pos q1, if_eq (by omega) (by omega) (by omega) (by omega)]
      by_cases q2 : flawZ M j r = 0
      · rw [if_pos q2, decide_eq_true q1, decide_eq_true q2, if_pos (show (true && true) = true from rfl)]
        exact f1
      · rw [if_neg q2, decide_eq_true q1, decide_eq_false q2, if_neg (show ¬ (true && false) = true by decide)]
        exact f0
    · rw [if_neg q1, decide_eq_false q1, Bool.false_and, if_neg (show ¬ false = true by decide)]
      exact f0
  · intro f
    show DX12_beginRound_L36 _ _ _ _ _ = _
    have e6 : bgZ M r (M 6).toNat 6 = M 6 := bg_m r (by omega) (by omega)
    rw [DX12_beginRound_L36, um_m, show mI (bgZ M r (M 6).toNat) 6 = iI (M 6) from congrArg iI e6, if_le (by omega) (by omega) (by omega) (by omega), if_pos (by omega)]
/-- the cells as a round has begun -/
def br0 (M : Int → Int) (r : Int) : Int → Int := updI (bgZ M r (M 6).toNat) 3 (if bgZ M r (M 6).toNat 7 = 0 then 3 else 1)
def brZ (M : Int → Int) (r : Int) : Int → Int := drZ (br0 M r) (br0 M r 7) (br0 M r 7 - 1).toNat
theorem R_beginRound (hm : gX12_m S = mI M) (hR : rg M) (hW : wkI M) (h6 : 0 ≤ M 6) (h6' : M 6 ≤ 12) (h11 : 0 ≤ M 11) {r : Int} (hr : 0 ≤ r) (hr' : r < 4) : DX12_beginRound S (iI r) = some (uX12_m S (mI (brZ M r))) := by
  have b7 := bg_7 (M := M) r (M 6).toNat
  have r11 := hR 11
  have e11 : bgZ M r (M 6).toNat 11 = M 11 := bg_m r (by omega) (by omega)
  have g7 : br0 M r 7 = bgZ M r (M 6).toNat 7 := updI_ne (by decide)
  have g11 : br0 M r 11 = M 11 := by unfold br0; rw [updI_ne (by decide)]; exact e11
  have hd := R_draw (S := uX12_m S (mI (br0 M r))) (X := br0 M r) um_m (by omega) (by omega) (by omega) (by omega)
  unfold DX12_beginRound
  simp only [lt_eq, jn_eq, iI_lit, um_m, um_um, hm, mI_updN 4 _ rfl, mI_updN 3 _ rfl, mI_updN 7 _ rfl, mI_updN 8 _ rfl]
  rw [R_clearMarks um_m, m0_eq, um_um]
  simp only [Option.bind_some]
  rw [R_bgL um_m hR hW h6 h6' hr hr', um_um]
  simp only [um_m, um_um, mI_updN 3 _ rfl]
  rw [show mI (bgZ M r (M 6).toNat) 7 = iI (bgZ M r (M 6).toNat 7) from rfl, if_eq (by omega) (by omega) (by omega) (by omega)]
  have fin : (DX12_draw (uX12_m S (mI (br0 M r)))).bind (fun x => some x) = some (uX12_m S (mI (brZ M r))) := by
    rw [hd, um_um]; rfl
  unfold br0 at fin
  by_cases q : bgZ M r (M 6).toNat 7 = 0
  · rw [if_pos q]
    rw [if_pos q] at fin
    exact fin
  · rw [if_neg q]
    rw [if_neg q] at fin
    exact fin
end BS
