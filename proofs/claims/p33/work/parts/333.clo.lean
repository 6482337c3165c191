section CO
variable {M N : Int → Int} {T : SX11} {s : Int → Int}
/-- it answers 1, in a state that is sound, with as many jurors and entrants -/
def CK (M : Int → Int) (x : Option (Int32 × SX11)) : Prop := ∃ T' N, x = some (iI 1, T') ∧ S0 T' N ∧ yI N ∧ N 0 = M 0 ∧ N 6 = M 6
theorem CKjn {α : Type} {K : α} {B : α → Option (Int32 × SX11)} (h : ∀ k : α, k = K → CK M (B k)) : CK M (jn K B) := h K rfl
theorem CK_bk {J X Y : Int32 → Option (Int32 × SX11)} {a : Int32} (hJ : J = fun x => if a = x then X x else Y x) (h : CK M (X a)) : CK M (J a) := by
  rw [hJ]
  show CK M (if a = a then X a else Y a)
  rw [if_pos rfl]
  exact h
theorem closes_P45 (h : S0 T M) (c1 c2 c3 c6 : Int32) (F4 F5 : Nat → Int32) (k16 : SX11 → (Nat → Int32) → (Nat → Int32) → Option (Int32 × SX11)) (hP : ∀ (T' : SX11) (G5 : Nat → Int32), S0 T' M → G5 0 = iI (fzZ M 0) → G5 1 = iI (fzZ M 1) → G5 2 = iI (fzZ M 2) → CK M (k16 T' F4 G5)) : CK M (DL_closes_L45 c1 c2 c3 c6 k16 4 (iI 0) T F4 F5) := by
  obtain ⟨T', G5, e1, e2, e3, e4, e5⟩ := closes_L45 h c1 c2 c3 c6 F4 F5 k16
  rw [e1]
  exact hP T' G5 e2 e3 e4 e5
theorem closes_P71 (h : S0 T M) (c1 c2 c3 : Int32) (b : Bool) (F4 F5 : Nat → Int32) (k29 : Int32 → SX11 → (Nat → Int32) → (Nat → Int32) → Option (Int32 × SX11)) (hP : ∀ G4 : Nat → Int32, (∀ k : Nat, k < (M 6).toNat → G4 k = iI (sR M k)) → CK M (k29 (bI (b && al (okZ M) (M 6).toNat)) T G4 F5)) : CK M (DL_closes_L71 c1 c2 c3 k29 13 (bI b) (iI 0) T F4 F5) := by
  obtain ⟨G4, e1, e2⟩ := closes_L71 h.rr c1 c2 c3 b F4 F5 k29
  rw [e1]
  exact hP G4 e2
theorem may_1 (h3 : M 3 = 1) : al (okZ M) (M 6).toNat = isClosableZ M := by
  unfold isClosableZ
  rw [decide_eq_true (Or.inl h3), Bool.true_and]
  refine al_congr _ fun k _ => ?_
  unfold closeOk
  rw [if_pos h3]
  rfl
/-- what a closing shows -/
theorem cl_facts (h : S0 T M) (hy : yI M) (hc : isClosableZ M = true) : (clN M 0 = M 0 ∧ clN M 6 = M 6) ∧ (clN M 3 = 1 ∨ clN M 3 = 2 ∨ clN M 3 = 3) ∧ (M 3 = 1 → (∀ e : Int, 0 ≤ e → e < M 6 → clN M (666 + 4 * e + M 4) = sR M e) ∧ (clN M 4 = M 4 → ∀ e d : Int, 0 ≤ e → e < M 6 → 0 ≤ d → d < M 6 → (0 ≤ sR M e → clN M (126 + e) = 1 → 0 ≤ sR M d → clN M (126 + d) = 0 → sR M d ≤ sR M e) ∧ (clN M (654 + e) = 1 → clN M (654 + d) = 1 → sR M d = sR M e))) := by
  have hMK := h.mk
  have hz := h.nz
  obtain ⟨hR, hT, hW, hIn, hTi, hk, hs, hO, hN, hru, hba, hty, hml⟩ := id hMK.1
  obtain ⟨t0, t1, t2, t3, t4, t6, t7, t8⟩ := id hT
  have t12 : M 7 ≤ 12 := by omega
  by_cases q3 : M 3 = 1
  · have hru' := hru (M 4) (by omega) (by omega)
    obtain ⟨xMK, xz⟩ := cls_MK hMK hz
    have g : ∀ k : Int, ¬ (666 ≤ k ∧ k < 666 + 4 * M 6) → clsZ M (M 6) k = M k := fun k hk => cls_fr hk
    have hpm : ∀ e : Int, sR M e ≠ -1 → plcZ M e ≠ -1 := fun e h9 h8 => h9 (if_pos h8)
    have pc : ∀ e : Int, plcZ (clsZ M (M 6)) e = plcZ M e := fun e => plc_c (M := M) (N := clsZ M (M 6)) (fun k hk => g k (by omega)) t12 e
    have sb := sR_b hMK.1
    have hpl : ∀ e : Int, 0 ≤ e → e < 12 → sR M e ≠ -1 → plcZ (clsZ M (M 6)) e ≠ -1 := fun e a b h9 => by
      rw [pc]
      exact hpm e h9
    obtain ⟨g1, g2, g3, g4⟩ := se_at xMK hru'.1 sb hpl
    have en : clN M = seZ (clsZ M (M 6)) (sR M) (M (ruleZ (M 4) 5)) := if_pos q3
    have m10 := (hty.2.2.1 (by omega)).2
    rw [← en] at g1 g2 g3 g4
    refine ⟨⟨by rw [g1 0 (by omega)]; exact g 0 (by omega), by rw [g1 6 (by omega)]; exact g 6 (by omega)⟩, g2, fun _ => ⟨fun e a b => ?_, fun h4 e d a b a' b' => ?_⟩⟩
    · rw [g1 _ (by omega)]
      unfold clsZ
      rw [if_pos ⟨by omega, by omega, by omega⟩, show (666 + 4 * e + M 4 - 666) / 4 = e by omega]
    · obtain ⟨gi, gt⟩ := g3 (by rw [g 4 (by omega)]; exact h4)
      have x10 : clsZ M (M 6) 10 = 0 := by rw [g 10 (by omega)]; exact m10
      have fe := fun e a b => ft_cut (s := sR M) (p := M (ruleZ (M 4) 5)) hru'.1 (fun e he => (sb e he).1) (e := e) a b
      have inx : ∀ e : Int, 0 ≤ e → e < M 6 → 0 ≤ sR M e → (clN M (126 + e) = 0 ↔ ftZ (sR M) (M (ruleZ (M 4) 5)) e = 2) := fun e a b h9 => by
        have pe := hpm e (by omega)
        have pb := plcZ_b M e t12
        have i1 := (hy.1 q3 e a b).mp pe
        rw [gi e a (by omega), pc, g 7 (by omega), x10, g (126 + e) (by omega), i1, show (!(tieZ (sR M) (M (ruleZ (M 4) 5)) && decide ((0 : Int) ≠ 3)) && decide ((0 : Int) = 3)) = false by simp, fin_f]
        by_cases q : ftZ (sR M) (M (ruleZ (M 4) 5)) e = 2
        · rw [if_pos ⟨⟨by omega, by have := pb.2.2 pe; omega⟩, decide_eq_true q⟩]
          exact ⟨fun _ => q, fun _ => rfl⟩
        · rw [if_neg (fun h8 => q (of_decide_eq_true h8.2))]
          exact ⟨fun h8 => by omega, fun h8 => absurd h8 q⟩
      constructor
      · intro s1 n1 s2 n2
        have d2 := (inx d a' b' s2).mp n2
        have e2 : ftZ (sR M) (M (ruleZ (M 4) 5)) e ≠ 2 := fun h8 => by
          have := (inx e a b s1).mpr h8
          omega
        have kd := ft_cut (s := sR M) (p := M (ruleZ (M 4) 5)) hru'.1 (fun e he => (sb e he).1) (e := d.toNat) (by omega) (by rw [show ((d.toNat : Nat) : Int) = d by omega]; omega)
        have ke := ft_cut (s := sR M) (p := M (ruleZ (M 4) 5)) hru'.1 (fun e he => (sb e he).1) (e := e.toNat) (by omega) (by rw [show ((e.toNat : Nat) : Int) = e by omega]; omega)
        rw [show ((d.toNat : Nat) : Int) = d by omega] at kd
        rw [show ((e.toNat : Nat) : Int) = e by omega] at ke
        have := kd.2.1.mp d2
        have : ¬ sR M e < lnZ (sR M) (M (ruleZ (M 4) 5)) := fun h8 => e2 (ke.2.1.mpr h8)
        omega
      · intro n1 n2
        have f1 := gt e a (by omega) n1
        have f2 := gt d a' (by omega) n2
        have kd := ft_cut (s := sR M) (p := M (ruleZ (M 4) 5)) hru'.1 (fun e he => (sb e he).1) (e := d.toNat) (by omega) (by rw [show ((d.toNat : Nat) : Int) = d by omega]; exact ft_n (s := sR M) (p := M (ruleZ (M 4) 5)) (by omega))
        have ke := ft_cut (s := sR M) (p := M (ruleZ (M 4) 5)) hru'.1 (fun e he => (sb e he).1) (e := e.toNat) (by omega) (by rw [show ((e.toNat : Nat) : Int) = e by omega]; exact ft_n (s := sR M) (p := M (ruleZ (M 4) 5)) (by omega))
        rw [show ((d.toNat : Nat) : Int) = d by omega] at kd
        rw [show ((e.toNat : Nat) : Int) = e by omega] at ke
        have := (kd.1.mp f2).2
        have := (ke.1.mp f1).2
        omega
  · have h3 : M 3 = 1 ∨ M 3 = 2 := by
      have := hc
      unfold isClosableZ at this
      rw [Bool.and_eq_true] at this
      exact of_decide_eq_true this.1
    have q2 : M 3 = 2 := by omega
    have hsT : ∀ e : Int, sT M e ≠ -1 → M (654 + e) = 1 := fun e h9 => Classical.byContradiction fun h8 => h9 (if_neg h8)
    obtain ⟨g1, g2, g3, g4⟩ := se_at hMK (hty.2.2.2.1 q2).1 (sT_b hMK.1) (fun e a b h9 => (hty.1 e a b (hsT e h9)).2)
    have en : clN M = seZ M (sT M) (M 9) := if_neg q3
    rw [← en] at g1 g2 g3 g4
    exact ⟨⟨g1 0 (by omega), g1 6 (by omega)⟩, g2, fun h => absurd h q3⟩
/-- the end of closes: undone, and closed once more -/
theorem closes_58 {T1 : SX11} (h : S0 T M) (hy : yI M) (hc : isClosableZ M = true) (h1 : SU T1 (clN M) M) : CK M ((DL_undo T1).bind fun x59 => if x59.1 < iI 0 then some (iI 0, x59.2) else (DL_info x59.2 (iI 3)).bind fun x71 => if x71 = iI (M 3) then (DL_info x59.2 (iI 7)).bind fun x73 => if x73 = iI (countInZ M) then (DL_info x59.2 (iI 10)).bind fun x75 => if x75 = iI (tiedZ M) then (DL_close x59.2).bind fun x77 => if x77.1 = iI (clN M 3) then some (iI 1, x77.2) else some (iI 0, x77.2) else some (iI 0, x59.2) else some (iI 0, x59.2) else some (iI 0, x59.2)) := by
  obtain ⟨w, T2, u1, u2, u3, u4⟩ := E_undo h1
  obtain ⟨T3, v1, v2⟩ := E_close u4 hc
  have i3 := E_info u4.rr (w := 3) (by omega) (by omega)
  have i7 := E_info u4.rr (w := 7) (by omega) (by omega)
  have i10 := E_info u4.rr (w := 10) (by omega) (by omega)
  simp only [inf M] at i3 i7 i10
  have cf := cl_facts h hy hc
  refine ⟨T3, clN M, ?_, v2.st, y_cl h hy hc, cf.1.1, cf.1.2⟩
  rw [u1]
  simp only [Option.bind_some]
  rw [if_lt (by omega) (by omega) (by omega) (by omega), if_neg (by omega)]
  simp only [i3, i7, i10, v1, Option.bind_some, if_true]
theorem gdB0 {x : SX11} : gd (isB (iI 0)) (some (iI 0, x)) = some (iI 0, x) := id rfl
theorem gdB1 {x : SX11} : gd (isB (iI 1)) (some (iI 1, x)) = some (iI 1, x) := id rfl
theorem closes_ok (h : S0 T M) (hy : yI M) : CK M (DL_closes T) := by
  obtain ⟨hR, hT, hW, hIn, hTi, hk, hs, hO, hN, hru, hba, hty, hml⟩ := id h.mk.1
  obtain ⟨t0, t1, t2, t3, t4, t6, t7, t8⟩ := id hT
  have t12 : M 7 ≤ 12 := by omega
  have cb := countInZ_b hIn hT
  have tb := tiedZ_b hTi hT
  have r5 := hR (ruleZ (M 4) 5)
  have I := fun (U : SX11) (hU : S0 U M) w a b => E_info hU.rr (w := w) a b
  have i3 := I T h 3 (by omega) (by omega)
  have i4 := I T h 4 (by omega) (by omega)
  have i8 := I T h 8 (by omega) (by omega)
  simp only [inf M] at i3 i4 i8
  -- the tail of both states, from the close on
  unfold DL_closes
  simp only [lits, iI_neg, i3, i4, i8, Option.bind_some]
  refine CKjn (fun j8 hj8 => ?_)
  by_cases q3 : M 3 = 1
  · rw [if_eq (by omega) (by omega) (by omega) (by omega), if_pos q3, hj8]
    refine closes_P45 h _ _ _ _ _ _ _ (fun T1 G5 h1 g0 g1 g2 => ?_)
    refine closes_P71 h1 _ _ _ true _ _ _ (fun G4 hG4 => ?_)
    rw [Bool.true_and, may_1 q3]
    have i7 := I T1 h1 7 (by omega) (by omega)
    have i10 := I T1 h1 10 (by omega) (by omega)
    simp only [inf M] at i7 i10
    obtain ⟨sv, hsv⟩ := E_sum h1
    have ru := E_rule h1.rr (r := M 4) (i := 5) (by omega) (by omega) (by omega) (by omega)
    refine CKjn (fun j42 hj42 => ?_)
    rw [if_eq (by omega) (by omega) (by omega) (by omega), if_pos q3, ru]
    simp only [Option.bind_some, hj42, i7, i10, hsv, g0, g1, g2, iI_add]
    clear hj42 j42 hj8 j8
    by_cases hc : isClosableZ M = true
    · have fz : ∀ w : Int, fzZ M w = cn (fun e => decide (ftZ (sR M) (M (ruleZ (M 4) 5)) e = w)) 12 := fun w => if_pos ⟨q3, hc⟩
      have fs := fate_sum h.mk.1 q3 hc (M (ruleZ (M 4) 5))
      have f0 : 0 ≤ cn (fun e => decide (ftZ (sR M) (M (ruleZ (M 4) 5)) e = 0)) 12 ∧ cn (fun e => decide (ftZ (sR M) (M (ruleZ (M 4) 5)) e = 0)) 12 ≤ 12 := ⟨cn_lo _ _, cn_hi _ 12⟩
      have f1 : 0 ≤ cn (fun e => decide (ftZ (sR M) (M (ruleZ (M 4) 5)) e = 1)) 12 ∧ cn (fun e => decide (ftZ (sR M) (M (ruleZ (M 4) 5)) e = 1)) 12 ≤ 12 := ⟨cn_lo _ _, cn_hi _ 12⟩
      have fg := fate_go (p := M (ruleZ (M 4) 5)) h.mk.1 (hru (M 4) (by omega) (by omega)).1
      obtain ⟨T2, c1, c2⟩ := E_close h1 hc
      have cf := cl_facts h hy hc
      have n3 := cf.2.1
      simp only [hc, show bI true = iI 1 from rfl, c1, Option.bind_some, fz, if_true]
      rw [← fs]
      have fin := closes_58 h hy hc c2
      have lo : ∀ k93 k100 k107 k114 : SX11 → (Nat → Int32) → (Nat → Int32) → Option (Int32 × SX11), DL_closes_L307 (iI (M 3)) (iI (M 4)) (iI (countInZ M)) (iI (tiedZ M)) (iI (clN M 3)) k93 k100 k107 k114 13 (iI 0) T2 G4 G5 = k114 T2 G4 G5 := fun k93 k100 k107 k114 => closes_L307 (s := sR M) c2.st.rr (by omega) (by omega) _ _ _ _ G4 G5 (fun k hk9 => hG4 k (by rw [cf.1.2] at hk9; exact hk9)) (sR_b h.mk.1) (fun e a b => (cf.2.2 q3).1 e a (by rw [cf.1.2] at b; exact b)) (fun h4 e d a b a' b' => (cf.2.2 q3).2 h4 e d a (by rw [cf.1.2] at b; exact b) a' (by rw [cf.1.2] at b'; exact b')) k93 k100 k107 k114
      generalize cn (fun e => decide (ftZ (sR M) (M (ruleZ (M 4) 5)) e = 0)) 12 = a0 at *
      generalize cn (fun e => decide (ftZ (sR M) (M (ruleZ (M 4) 5)) e = 1)) 12 = a1 at *
      generalize cn (fun e => decide (ftZ (sR M) (M (ruleZ (M 4) 5)) e = 2)) 12 = a2 at *
      refine CKjn (fun j51 hj51 => CKjn (fun j52 hj52 => ?_))
      rw [if_eq (by omega) (by omega) (by omega) (by omega), if_pos q3]
      refine CKjn (fun j196 hx => ?_)
      rw [if_eq (by omega) (by omega) (by omega) (by omega), if_neg (by omega)]
      refine CK_bk hx ?_
      rw [hj52]
      refine CKjn (fun j54 hj54 => ?_)
      rw [if_lt (by omega) (by omega) (by omega) (by omega), if_neg (by omega)]
      refine CK_bk hj54 ?_
      rw [if_eq (by omega) (by omega) (by omega) (by omega), if_neg (by omega)]
      refine CKjn (fun j58 hj58 => ?_)
      rw [if_eq (by omega) (by omega) (by omega) (by omega), if_pos q3]
      refine CKjn (fun j83 hj83 => ?_)
      rw [if_pos rfl]
      refine CKjn (fun j84 hj84 => ?_)
      have e84 : CK M (j84 ()) := by
        rw [hj84, lo]
        simp only [hj58, jn_eq, gdB0, gdB1]
        exact fin
      rw [if_eq (by omega) (by omega) (by omega) (by omega)]
      by_cases qa : a1 = 0
      · have := fg qa
        rw [if_pos qa, if_le (by omega) (by omega) (by omega) (by omega), if_pos this]
        exact e84
      · rw [if_neg qa]
        exact e84
    · have hf : isClosableZ M = false := Bool.eq_false_iff.mpr hc
      have fz : ∀ w : Int, fzZ M w = -1 := fun w => if_neg (fun h9 => hc h9.2)
      have c1 := E_close_s h1 hf
      simp only [hf, show bI false = iI 0 from rfl, c1, Option.bind_some, fz, if_true, hsv]
      refine CKjn (fun j51 hj51 => CKjn (fun j52 hj52 => ?_))
      rw [if_eq (by omega) (by omega) (by omega) (by omega), if_pos q3]
      refine CKjn (fun j196 hx => ?_)
      refine CK_bk hx ?_
      rw [hj52]
      refine CKjn (fun j54 hj54 => ?_)
      rw [if_lt (by omega) (by omega) (by omega) (by omega), if_pos (by omega)]
      refine CK_bk hj54 ?_
      simp only [jn_eq, gdB0, gdB1]
      exact ⟨T1, M, rfl, h1, hy, rfl, rfl⟩
  · rw [if_eq (by omega) (by omega) (by omega) (by omega), if_neg q3, hj8]
    refine closes_P45 h _ _ _ _ _ _ _ (fun T1 G5 h1 g0 g1 g2 => ?_)
    refine closes_P71 h1 _ _ _ false _ _ _ (fun G4 hG4 => ?_)
    have i7 := I T1 h1 7 (by omega) (by omega)
    have i10 := I T1 h1 10 (by omega) (by omega)
    have i11 := I T1 h1 11 (by omega) (by omega)
    simp only [inf M] at i7 i10 i11
    obtain ⟨sv, hsv⟩ := E_sum h1
    have fz : ∀ w : Int, fzZ M w = -1 := fun w => if_neg (fun h9 => q3 h9.1)
    refine CKjn (fun j42 hj42 => ?_)
    rw [if_eq (by omega) (by omega) (by omega) (by omega), if_neg q3, i11]
    simp only [Option.bind_some, hj42, i7, i10, hsv, g0, g1, g2, iI_add, fz, Bool.false_and, show bI false = iI 0 from rfl]
    clear hj42 j42 hj8 j8
    by_cases hc : isClosableZ M = true
    · have h3 : M 3 = 1 ∨ M 3 = 2 := by
        have := hc
        unfold isClosableZ at this
        rw [Bool.and_eq_true] at this
        exact of_decide_eq_true this.1
      obtain ⟨T2, c1, c2⟩ := E_close h1 hc
      have cf := cl_facts h hy hc
      have n3 := cf.2.1
      have fin := closes_58 h hy hc c2
      have J4 := E_info c2.st.rr (w := 4) (by omega) (by omega)
      have J7 := E_info c2.st.rr (w := 7) (by omega) (by omega)
      simp only [inf (clN M)] at J4 J7
      have n4 := c2.st.mk.1.2.1.2.2.2.2.1
      have ty9 := hty.2.2.2.2.1
      simp only [c1, Option.bind_some]
      refine CKjn (fun j51 hj51 => CKjn (fun j52 hj52 => ?_))
      rw [if_eq (by omega) (by omega) (by omega) (by omega), if_neg q3, hj52]
      refine CKjn (fun j54 hj54 => ?_)
      rw [if_lt (by omega) (by omega) (by omega) (by omega), if_pos (by omega)]
      refine CK_bk hj54 ?_
      rw [if_eq (by omega) (by omega) (by omega) (by omega), if_neg (by omega)]
      refine CKjn (fun j58 hj58 => ?_)
      have e58 : ∀ (a b : Nat → Int32), CK M (j58 T2 a b) := by
        intro a b
        simp only [hj58, jn_eq, gdB0, gdB1]
        exact fin
      rw [if_eq (by omega) (by omega) (by omega) (by omega), if_neg q3, if_eq (by omega) (by omega) (by omega) (by omega)]
      by_cases qn : clN M 3 = 2
      · rw [if_pos qn]
        exact e58 _ _
      · rw [if_neg qn, J4]
        simp only [Option.bind_some, J7]
        rw [if_eq (by omega) (by omega) (by omega) (by omega)]
        by_cases q4 : clN M 4 = M 4
        · have tc := tie_cnt h hy (by omega) hc q4 qn
          rw [if_pos q4, tc]
          simp only [iI_sub, iI_add, if_true]
          exact e58 _ _
        · rw [if_neg q4]
          exact e58 _ _
    · have hf : isClosableZ M = false := Bool.eq_false_iff.mpr hc
      have c1 := E_close_s h1 hf
      simp only [c1, Option.bind_some, hsv]
      refine CKjn (fun j51 hj51 => CKjn (fun j52 hj52 => ?_))
      rw [if_eq (by omega) (by omega) (by omega) (by omega), if_neg q3, hj52]
      refine CKjn (fun j54 hj54 => ?_)
      rw [if_lt (by omega) (by omega) (by omega) (by omega), if_pos (by omega)]
      refine CK_bk hj54 ?_
      rw [if_pos trivial]
      simp only [jn_eq, gdB0, gdB1, if_true]
      exact ⟨T1, M, rfl, h1, hy, rfl, rfl⟩
end CO
