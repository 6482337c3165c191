section KX
variable {M N V : Int → Int} {S : SX12} {s : Int → Int} {p : Int}
theorem mean_c {row e w : Int} (h : ∀ k : Int, (k = 0 ∨ (378 ≤ k ∧ k < 462) ∨ (row ≤ k ∧ k < row + 84)) → N k = M k) (h0' : M 0 ≤ 7) (he : 0 ≤ e) (he' : e < 12) : meanZ (emZ N row e w) (N 0).toNat = meanZ (emZ M row e w) (M 0).toNat := by
  rw [h 0 (Or.inl rfl)]
  refine meanZ_congr fun k hk => Or.inl ?_
  unfold emZ countsZ isBarredZ
  rw [h (378 + (12 * (k : Int) + e)) (by omega), h (row + (12 * (k : Int) + e)) (by omega)]
theorem sc_c {e : Int} (h : ∀ k : Int, 0 ≤ k → k < 570 → N k = M k) (h0' : M 0 ≤ 7) (h7 : M 7 ≤ 12) (he : 0 ≤ e) (he' : e < 12) : scoreZ N e = scoreZ M e := by
  unfold scoreZ
  rw [mean_c (N := N) (M := M) (fun k hk => h k (by omega) (by omega)) h0' he he', hp_c (N := N) (M := M) (fun k hk => h k (by omega) (by omega)) h7, h 2 (by omega) (by omega), h (474 + e) (by omega) (by omega)]
theorem sR_c {e : Int} (h : ∀ k : Int, 0 ≤ k → k < 570 → N k = M k) (h0' : M 0 ≤ 7) (h7 : M 7 ≤ 12) (he : 0 ≤ e) (he' : e < 12) : sR N e = sR M e := by
  unfold sR
  rw [plc_c (N := N) (M := M) (fun k hk => h k (by omega) (by omega)) h7, sc_c h h0' h7 he he']
/-- the cells once the scores of the first n entrants are kept -/
def clsZ (M : Int → Int) (n : Int) : Int → Int := fun k => if 666 ≤ k ∧ k < 666 + 4 * n ∧ (k - 666) % 4 = M 4 then sR M ((k - 666) / 4) else M k
theorem cls_0 (M : Int → Int) : clsZ M 0 = M := funext fun k => if_neg (by omega)
theorem cls_s {n : Int} (h4 : 0 ≤ M 4) (h4' : M 4 < 4) (hn : 0 ≤ n) : updI (clsZ M n) (666 + 4 * n + M 4) (sR M n) = clsZ M (n + 1) := by
  funext k
  unfold updI
  by_cases q : k = 666 + 4 * n + M 4
  · rw [if_pos q]
    unfold clsZ
    rw [if_pos (by omega), show (k - 666) / 4 = n by omega]
  · rw [if_neg q]
    unfold clsZ
    by_cases q2 : 666 ≤ k ∧ k < 666 + 4 * n ∧ (k - 666) % 4 = M 4
    · rw [if_pos q2, if_pos (by omega)]
    · rw [if_neg q2, if_neg (by omega)]
theorem cls_fr {n k : Int} (hk : ¬ (666 ≤ k ∧ k < 666 + 4 * n)) : clsZ M n k = M k := if_neg (by omega)
theorem cls_rg (hI : MI M) {n : Int} (hn : n ≤ 12) : rg (clsZ M n) := by
  intro k
  unfold clsZ
  split
  · next q =>
    have := sR_b hI ((k - 666) / 4).toNat (by omega)
    rw [Int.toNat_of_nonneg (by omega)] at this
    omega
  · exact hI.1 k
theorem R_clsL (hm : gX12_m S = mI M) (hI : MI M) (h3 : M 3 = 1) (c1 : Int32) (k21 : SX12 → Option (Int32 × SX12)) : DX12_close_L71 c1 k21 fu (iI 0) S = k21 (uX12_m S (mI (clsZ M (M 6)))) := by
  have hI' := hI
  obtain ⟨hR, hT, hW, hIn, hTi, hk, hs, hO, hN, hru, hba, hty, hml⟩ := hI
  obtain ⟨t0, t1, t2, t3, t4, t6, t7, t8⟩ := hT
  have t12 : M 7 ≤ 12 := by omega
  have base : S = uX12_m S (mI (clsZ M ((0 : Nat) : Int))) := by rw [show ((0 : Nat) : Int) = 0 from rfl, cls_0, um_self hm]
  have := upL (fun f j => DX12_close_L71 c1 k21 f (iI j) (uX12_m S (mI (clsZ M (j : Int))))) (k21 (uX12_m S (mI (clsZ M (M 6))))) (M 6).toNat ?_ ?_ fu (by unfold fu; omega)
  · rw [← base] at this
    exact this
  · intro f j hj
    show DX12_close_L71 _ _ _ _ _ = _
    have g : ∀ k : Int, ¬ (666 ≤ k) → clsZ M (j : Int) k = M k := fun k hk => cls_fr (by omega)
    have hXR := cls_rg hI' (n := (j : Int)) (by omega)
    have pb := plcZ_b M j t12
    have rp := R_placeOf (S := uX12_m S (mI (clsZ M (j : Int)))) (M := clsZ M (j : Int)) (e := j) um_m hXR (by rw [g 7 (by omega)]; omega) (by rw [g 7 (by omega)]; omega) (by omega) (by omega)
    rw [plc_c (M := M) (N := clsZ M (j : Int)) (fun k hk => g k (by omega)) t12] at rp
    have rs := R_scoreOf (S := uX12_m S (mI (clsZ M (j : Int)))) (M := clsZ M (j : Int)) (e := j) um_m hXR (by rw [g 0 (by omega)]; omega) (by rw [g 0 (by omega)]; omega) (by rw [g 2 (by omega)]; omega) (by rw [g 2 (by omega)]; omega) (by rw [g 7 (by omega)]; omega) (by rw [g 7 (by omega)]; omega) (by rw [g 8 (by omega)]; omega) (by rw [g 8 (by omega)]; omega) (by omega) (by omega) (fun i a b => by rw [g _ (by omega)]; exact (hk i j a b (by omega) (by omega)).1) (fun h => by
      rw [hp_c (M := M) (N := clsZ M (j : Int)) (fun k hk => g k (by omega)) t12] at h
      rw [g _ (by omega)]
      exact hs j (by omega) (by omega) h)
    rw [sc_c (M := M) (N := clsZ M (j : Int)) (fun k a b => g k (by omega)) (by omega) t12 (by omega) (by omega)] at rs
    rw [DX12_close_L71]
    simp only [lt_eq, jn_eq, iI_lit, um_m, um_um, rp, rs, Option.bind_some, iI_neg]
    rw [show mI (clsZ M (j : Int)) 6 = iI (M 6) from congrArg iI (g 6 (by omega)), show mI (clsZ M (j : Int)) 3 = iI (M 3) from congrArg iI (g 3 (by omega)), show mI (clsZ M (j : Int)) 4 = iI (M 4) from congrArg iI (g 4 (by omega)), if_le (by omega) (by omega) (by omega) (by omega), if_neg (by omega), if_eq (by omega) (by omega) (by omega) (by omega), if_pos h3]
    simp only [iI_mul, iI_add]
    rw [if_eq (by omega) (by omega) (by omega) (by omega), mI_upd (by omega) (by omega), mI_upd (by omega) (by omega), show ((j + 1 : Nat) : Int) = (j : Int) + 1 by omega, ← cls_s (M := M) (by omega) (by omega) (show 0 ≤ (j : Int) by omega)]
    simp (disch := omega) only [gd_iI]
    unfold sR
    by_cases q : plcZ M j = -1
    · rw [if_pos q, if_pos q]
    · rw [if_neg q, if_neg q]
  · intro f
    show DX12_close_L71 _ _ _ _ _ = _
    rw [DX12_close_L71]
    simp only [um_m]
    rw [show mI (clsZ M (((M 6).toNat : Nat) : Int)) 6 = iI (M 6) from congrArg iI (cls_fr (by omega)), if_le (by omega) (by omega) (by omega) (by omega), if_pos (by omega), Int.toNat_of_nonneg (by omega)]
/-- how many of the first n players stay tied; who is out; the cells with those out -/
def tcZ (M : Int → Int) (ft : Int → Int) (n : Nat) : Int := cn (fun k => decide (ft (M (462 + k)) = 1)) n
def finZ (M : Int → Int) (ft : Int → Int) (l : Int) (last : Bool) (e : Int) : Bool := decide (ft e = 2) || (last && (decide (ft e = 1) && decide (l - tcZ M ft (plcZ M e).toNat ≤ 0)))
def ioZ (M : Int → Int) (fin : Int → Bool) (n : Int) : Int → Int := fun k => if (126 ≤ k ∧ k < 138) ∧ (0 ≤ plcZ M (k - 126) ∧ plcZ M (k - 126) < n) ∧ fin (k - 126) = true then 0 else M k
theorem io_fr {fin : Int → Bool} {n k : Int} (hk : ¬ (126 ≤ k ∧ k < 138)) : ioZ M fin n k = M k := if_neg (fun h => hk h.1)
theorem io_in {fin : Int → Bool} {n e : Int} (he : 0 ≤ e) (he' : e < 12) : ioZ M fin n (126 + e) = if (0 ≤ plcZ M e ∧ plcZ M e < n) ∧ fin e = true then 0 else M (126 + e) := by
  unfold ioZ
  rw [show 126 + e - 126 = e by omega]
  by_cases q : (0 ≤ plcZ M e ∧ plcZ M e < n) ∧ fin e = true
  · rw [if_pos q, if_pos ⟨⟨by omega, by omega⟩, q⟩]
  · rw [if_neg q, if_neg (fun h => q h.2)]
theorem io_0 (fin : Int → Bool) : ioZ M fin 0 = M := funext fun k => if_neg (fun h => by omega)
theorem io_s {fin : Int → Bool} {n : Int} (hO : ordI M) (h6 : M 6 ≤ 12) (hn : 0 ≤ n) (hn' : n < M 7) : updI (ioZ M fin n) (126 + M (462 + n)) (if fin (M (462 + n)) = true then 0 else M (126 + M (462 + n))) = ioZ M fin (n + 1) := by
  have o := hO.1 n hn hn'
  have op := plc_ord hO hn hn'
  funext k
  unfold updI
  by_cases q : k = 126 + M (462 + n)
  · rw [if_pos q, q, io_in o.1 (by omega), op]
    by_cases q1 : fin (M (462 + n)) = true
    · rw [if_pos q1, if_pos ⟨by omega, q1⟩]
    · rw [if_neg q1, if_neg (fun h => q1 h.2)]
  · rw [if_neg q]
    unfold ioZ
    have key : plcZ M (k - 126) ≠ n := fun h9 => by
      have := plc_at (M := M) (e := k - 126) (by omega)
      rw [h9] at this
      omega
    by_cases q2 : (126 ≤ k ∧ k < 138) ∧ (0 ≤ plcZ M (k - 126) ∧ plcZ M (k - 126) < n) ∧ fin (k - 126) = true
    · rw [if_pos q2, if_pos ⟨q2.1, by omega, q2.2.2⟩]
    · rw [if_neg q2, if_neg (fun h => q2 ⟨h.1, by omega, h.2.2⟩)]
def samM (S S' : SX12) : Prop := gX12_saved S' = gX12_saved S ∧ gX12_savedCount S' = gX12_savedCount S ∧ gX12_text S' = gX12_text S ∧ gX12_textLength S' = gX12_textLength S ∧ gX12_code S' = gX12_code S
theorem samM_t {S S' S2 : SX12} (h : samM S S') (h2 : samM S' S2) : samM S S2 := ⟨h2.1.trans h.1, h2.2.1.trans h.2.1, h2.2.2.1.trans h.2.2.1, h2.2.2.2.1.trans h.2.2.2.1, h2.2.2.2.2.trans h.2.2.2.2⟩
theorem samM_s {S S' : SX12} (h : samS S S') : samM S S' := h.2
theorem samM_m {S : SX12} {x : Nat → Int32} : samM S (uX12_m S x) := ⟨rfl, rfl, rfl, rfl, rfl⟩
theorem tc_b (M : Int → Int) (ft : Int → Int) (n : Nat) : 0 ≤ tcZ M ft n ∧ tcZ M ft n ≤ n := ⟨cn_lo _ _, cn_hi _ _⟩
theorem R_stlL (hT : stI M) (hO : ordI M) (hm : gX12_m S = mI M) {last : Bool} {ft : Int → Int} {l f1 : Int} (hf : ∀ e : Nat, (e : Int) < M 6 → gX12_fate S e = iI (ft e)) (hb : ∀ e : Int, -1 ≤ ft e ∧ ft e ≤ 2) (h1 : gX12_fates S 1 = iI f1) (hl : -100 ≤ l) (hl' : l ≤ 100) (k5 : Int32 → SX12 → Option SX12) :
    ∃ S', DX12_settle_L29 (bI last) k5 fu (iI l) (iI 0) S = k5 (iI (l - if last = true then tcZ M ft (M 7).toNat else 0)) S' ∧ gX12_m S' = mI (ioZ M (finZ M ft l last) (M 7)) ∧ samM S S' ∧ gX12_fates S' 1 = iI (f1 - if last = true then tcZ M ft (M 7).toNat else 0) ∧ (last = false → ∀ e : Nat, (e : Int) < M 6 → gX12_fate S' e = iI (ft e)) := by
  obtain ⟨t0, t1, t2, t3, t4, t6, t7, t8⟩ := hT
  have t12 : M 7 ≤ 12 := by omega
  have key := upE (fun f j S => DX12_settle_L29 (bI last) k5 f (iI (l - if last = true then tcZ M ft j else 0)) (iI j) S) (fun S => k5 (iI (l - if last = true then tcZ M ft (M 7).toNat else 0)) S) (fun j S' => gX12_m S' = mI (ioZ M (finZ M ft l last) j) ∧ samM S S' ∧ gX12_fates S' 1 = iI (f1 - if last = true then tcZ M ft j else 0) ∧ ∀ e : Nat, (e : Int) < M 6 → (last = false ∨ plcZ M e = -1 ∨ (j : Int) ≤ plcZ M e) → gX12_fate S' e = iI (ft e)) (M 7).toNat ?_ ?_ fu S (by unfold fu; omega) ?_
  · obtain ⟨S', e1, e2, e3, e4, e5⟩ := key
    refine ⟨S', ?_, ?_, e3, e4, fun h e he => e5 e he (Or.inl h)⟩
    · rw [show (l - if last = true then tcZ M ft 0 else 0) = l by rw [show tcZ M ft 0 = 0 from rfl]; split <;> omega] at e1
      exact e1
    · rw [Int.toNat_of_nonneg (by omega)] at e2
      exact e2
  · intro f j S4 hj hS4
    obtain ⟨m4, s4, f4, g4⟩ := hS4
    have jb : (0 : Int) ≤ j ∧ (j : Int) < M 7 := by omega
    have o := hO.1 j jb.1 jb.2
    have op := plc_ord hO jb.1 jb.2
    have tb := tc_b M ft j
    obtain ⟨e, he⟩ : ∃ e : Int, e = M (462 + j) := ⟨_, rfl⟩
    have hs := io_s (fin := finZ M ft l last) hO (by omega) jb.1 jb.2
    have X7 : ioZ M (finZ M ft l last) j 7 = M 7 := io_fr (by omega)
    have Xo : ioZ M (finZ M ft l last) j (462 + j) = e := by rw [io_fr (by omega), he]
    have Xi : ioZ M (finZ M ft l last) j (126 + e) = M (126 + e) := by rw [io_in (by omega) (by omega), if_neg (by rw [he, op]; omega)]
    rw [← he] at o op hs
    have fe := g4 e.toNat (by omega) (Or.inr (Or.inr (by rw [Int.toNat_of_nonneg o.1, op]; omega)))
    rw [Int.toNat_of_nonneg o.1] at fe
    have be := hb e
    have tcs : tcZ M ft (j + 1) = tcZ M ft j + if ft e = 1 then 1 else 0 := by
      show cn _ (j + 1) = _
      rw [cn]
      show tcZ M ft j + (if decide (ft (M (462 + j)) = 1) = true then 1 else 0) = _
      rw [← he]
      by_cases q : ft e = 1
      · rw [if_pos q, if_pos (decide_eq_true q)]
      · rw [if_neg q, if_neg (by rw [decide_eq_false q]; decide)]
    have efin : finZ M ft l last e = (decide (ft e = 2) || (last && (decide (ft e = 1) && decide (l - tcZ M ft j ≤ 0)))) := by
      unfold finZ
      rw [op, show ((j : Int)).toNat = j by omega]
    generalize ioZ M (finZ M ft l last) j = X at *
    have e7 : mI X 7 = iI (M 7) := congrArg iI X7
    have em : mI X (iI (462 + (j : Int))).toNatClampNeg = iI e := by rw [mI_at (by omega) (by omega), Xo]
    have en : (iI e).toNatClampNeg = e.toNat := iI_nat (by omega) (by omega)
    have ei : mI X (iI (126 + e)).toNatClampNeg = iI (M (126 + e)) := by rw [mI_at (by omega) (by omega), Xi]
    have eu : ∀ v : Int, upd (mI X) (iI (126 + e)).toNatClampNeg (iI v) = mI (updI X (126 + e) v) := fun v => mI_upd (by omega) (by omega)
    have ea : ∀ (F : Nat → Int32) (v : Int32), upd F e.toNat v e.toNat = v := fun F v => if_pos rfl
    have g12 : ∀ x : Option SX12, gd (gIn (iI e) 12) x = x := fun x => gd_iI (by omega) (by omega) (by omega)
    have g714 : ∀ x : Option SX12, gd (gIn (iI (126 + e)) 714) x = x := fun x => gd_iI (by omega) (by omega) (by omega)
    have nx : ∀ (fl : Bool), finZ M ft l last e = fl → updI X (126 + e) (if fl = true then 0 else M (126 + e)) = ioZ M (finZ M ft l last) ((j : Int) + 1) := fun fl h8 => by rw [← hs, h8]
    have jc : ((j + 1 : Nat) : Int) = (j : Int) + 1 := by omega
    have ff : gX12_fate S4 (iI e).toNatClampNeg = iI (ft e) := by rw [en]; exact fe
    have mm : ∀ x y, gX12_m (uX12_fates (uX12_fate S4 x) y) = mI X := fun _ _ => m4
    have mf : ∀ x y, gX12_fate (uX12_fates (uX12_fate S4 x) y) = x := fun _ _ => rfl
    have mg : ∀ x, gX12_fates (uX12_fate S4 x) = gX12_fates S4 := fun _ => rfl
    by_cases qB : last = true ∧ ft e = 1
    · -- in the last tie round, one who would stay tied
      obtain ⟨qB1, qB2⟩ := qB
      subst qB1
      have ef2 : finZ M ft l true e = decide (l - tcZ M ft j ≤ 0) := by rw [efin, decide_eq_false (show ¬ ft e = 2 by omega), decide_eq_true qB2, Bool.false_or, Bool.true_and, Bool.true_and]
      rw [if_pos qB2] at tcs
      refine ⟨uX12_m (uX12_fates (uX12_fate S4 (upd (gX12_fate S4) e.toNat (iI (if l - tcZ M ft j ≤ 0 then 2 else 0)))) (upd (gX12_fates S4) 1 (gX12_fates S4 1 - iI 1))) (mI (ioZ M (finZ M ft l true) ((j : Int) + 1))), ?_, by rw [um_m, jc], samM_t s4 ⟨rfl, rfl, rfl, rfl, rfl⟩, ?_, fun d hd h9 => ?_⟩
      · show DX12_settle_L29 _ _ _ _ _ _ = _
        rw [DX12_settle_L29]
        simp only [lt_eq, jn_eq, iI_lit, iI_neg, iI_add, if_bz, m4, e7, em, fe, mm, mf, mg, en, ei, ea, g12, g714, qB2, if_true, if_neg (show ¬ iI 0 = iI 2 by decide)]
        rw [if_le (by omega) (by omega) (by omega) (by omega), if_neg (by omega), gd_iI (by omega) (by omega) (by omega), if_le (by omega) (by omega) (by omega) (by omega), jc, eu, eu]
        have n9 := nx _ ef2
        have ev : l - tcZ M ft j + -1 = l - tcZ M ft (j + 1) := by omega
        by_cases q : l - tcZ M ft j ≤ 0
        · rw [decide_eq_true q, if_pos rfl] at n9
          rw [if_pos q, if_pos q, n9, ev]
        · rw [decide_eq_false q, if_neg (by decide)] at n9
          rw [if_neg q, if_neg q, n9, ev]
      · show upd (gX12_fates S4) 1 (gX12_fates S4 1 - iI 1) 1 = _
        unfold upd
        rw [if_pos rfl, f4, if_pos rfl, if_pos rfl, iI_sub, tcs]
        congr 1
        omega
      · show upd (gX12_fate S4) e.toNat (iI (if l - tcZ M ft j ≤ 0 then 2 else 0)) d = _
        unfold upd
        have dn : d ≠ e.toNat := fun h => by
          have : (d : Int) = e := by omega
          rw [this, op] at h9
          rcases h9 with h9 | h9 | h9
          · cases h9
          · omega
          · omega
        rw [if_neg dn]
        refine g4 d hd ?_
        rcases h9 with h9 | h9 | h9
        · cases h9
        · exact Or.inr (Or.inl h9)
        · exact Or.inr (Or.inr (by omega))
    · have ef2 : finZ M ft l last e = decide (ft e = 2) := by
        rw [efin]
        cases last with
        | false => rw [Bool.false_and, Bool.or_false]
        | true => rw [decide_eq_false (show ¬ ft e = 1 from fun h => qB ⟨rfl, h⟩), Bool.false_and, Bool.and_false, Bool.or_false]
      have eL : (if last = true then tcZ M ft (j + 1) else 0) = if last = true then tcZ M ft j else 0 := by
        cases last with
        | false => rfl
        | true => rw [if_pos rfl, if_pos rfl, tcs, if_neg (fun h => qB ⟨rfl, h⟩), Int.add_zero]
      refine ⟨uX12_m S4 (mI (ioZ M (finZ M ft l last) ((j : Int) + 1))), ?_, by rw [um_m, jc], samM_t s4 samM_m, ?_, fun d hd h9 => g4 d hd ?_⟩
      · show DX12_settle_L29 _ _ _ _ _ _ = _
        rw [DX12_settle_L29]
        simp only [lt_eq, jn_eq, iI_lit, iI_neg, iI_add, if_bz, m4, e7, em, fe, en, ei, g12, g714]
        rw [if_le (by omega) (by omega) (by omega) (by omega), if_neg (by omega), gd_iI (by omega) (by omega) (by omega), jc, eL]
        have n9 := nx _ ef2
        have fin : (if iI (ft e) = iI 2 then DX12_settle_L29 (bI last) k5 f (iI (l - if last = true then tcZ M ft j else 0)) (iI ((j : Int) + 1)) (uX12_m S4 (upd (mI X) (iI (126 + e)).toNatClampNeg (iI 0))) else DX12_settle_L29 (bI last) k5 f (iI (l - if last = true then tcZ M ft j else 0)) (iI ((j : Int) + 1)) (uX12_m S4 (upd (mI X) (iI (126 + e)).toNatClampNeg (iI (M (126 + e)))))) = DX12_settle_L29 (bI last) k5 f (iI (l - if last = true then tcZ M ft j else 0)) (iI ((j : Int) + 1)) (uX12_m S4 (mI (ioZ M (finZ M ft l last) ((j : Int) + 1)))) := by
          rw [if_eq (by omega) (by omega) (by omega) (by omega), eu, eu]
          by_cases q : ft e = 2
          · rw [decide_eq_true q, if_pos rfl] at n9
            rw [if_pos q, n9]
          · rw [decide_eq_false q, if_neg (by decide)] at n9
            rw [if_neg q, n9]
        cases last with
        | false =>
          rw [if_neg (show ¬ false = true by decide)]
          exact fin
        | true =>
          rw [if_pos (show true = true from rfl), if_neg (show ¬ iI (ft e) = iI 1 by rw [iI_eq (by omega) (by omega) (by omega) (by omega)]; exact fun h => qB ⟨rfl, h⟩)]
          exact fin
      · show gX12_fates S4 1 = _
        rw [f4, eL]
      · rcases h9 with h9 | h9 | h9
        · exact Or.inl h9
        · exact Or.inr (Or.inl h9)
        · exact Or.inr (Or.inr (by omega))
  · intro f S4 hS4
    show DX12_settle_L29 _ _ _ _ _ _ = _
    have X7 : ioZ M (finZ M ft l last) (((M 7).toNat : Nat) : Int) 7 = M 7 := io_fr (by omega)
    rw [DX12_settle_L29, hS4.1, show mI (ioZ M (finZ M ft l last) (((M 7).toNat : Nat) : Int)) 7 = iI (M 7) from congrArg iI X7, if_le (by omega) (by omega) (by omega) (by omega), if_pos (by omega)]
  · refine ⟨?_, ⟨rfl, rfl, rfl, rfl, rfl⟩, ?_, fun e he _ => hf e he⟩
    · rw [hm, show ((0 : Nat) : Int) = 0 from rfl, io_0]
    · rw [h1, show tcZ M ft 0 = 0 from rfl]
      congr 1
      split <;> omega
end KX
