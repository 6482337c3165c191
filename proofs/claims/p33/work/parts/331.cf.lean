/-! what a closing does to the cells -/
section CF
variable {M N V X : Int → Int} {T : SX11} {s : Int → Int} {p : Int}
theorem sm_sub {f g : Int → Int} {q : Int → Bool} : ∀ n : Nat, (∀ k : Nat, k < n → g k = f k - if q k = true then 1 else 0) → sm g n = sm f n - cn q n := by
  intro n
  induction n with
  | zero => intro _; rfl
  | succ n ih =>
    intro h
    unfold sm cn
    rw [ih (fun k hk => h k (by omega)), h n (by omega)]
    split <;> omega
theorem cn_true : ∀ n : Nat, cn (fun _ => true) n = n := by
  intro n
  induction n with
  | zero => rfl
  | succ n ih => unfold cn; rw [ih, if_pos rfl]; omega
/-- of those flagged, the ones behind the first l -/
theorem cn_behind {b : Int → Bool} {l : Int} (h0 : 0 ≤ l) : ∀ n : Nat, cn (fun k => b k && decide (l ≤ cn b k.toNat)) n = if l ≤ cn b n then cn b n - l else 0 := by
  intro n
  induction n with
  | zero =>
    show (0 : Int) = if l ≤ 0 then 0 - l else 0
    split <;> omega
  | succ n ih =>
    rw [cn, ih, show cn b (n + 1) = cn b n + (if b n = true then 1 else 0) from rfl, show ((n : Int)).toNat = n by omega]
    by_cases q : b n = true
    · rw [if_pos q, q, Bool.true_and]
      by_cases q2 : l ≤ cn b n
      · rw [if_pos q2, if_pos (decide_eq_true q2), if_pos (by omega)]; omega
      · rw [if_neg q2, if_neg (by rw [decide_eq_false q2]; decide)]
        split <;> omega
    · rw [if_neg q, Bool.eq_false_iff.mpr q, Bool.false_and, if_neg (show ¬ (false = true) by decide), Int.add_zero, Int.add_zero]
/-- players, counted by their places or by their numbers -/
theorem plc_cnt (hT : stI M) (hO : ordI M) : cn (fun e => decide (plcZ M e ≠ -1)) 12 = M 7 := by
  obtain ⟨t0, t1, t2, t3, t4, t6, t7, t8⟩ := id hT
  have h := cn_perm (m := 12) (f := fun k => M (462 + k)) (M 7).toNat (fun e => decide (plcZ M e ≠ -1)) (fun k hk => by have := hO.1 k (by omega) (by omega); exact ⟨this.1, by omega⟩) (fun i k a b => hO.2 i k (by omega) (by omega) (by omega)) (fun e he q => by
    have q1 := of_decide_eq_true q
    obtain ⟨k, a, b, d⟩ := plc_iff.mp q1
    exact ⟨k.toNat, by omega, by rw [show ((k.toNat : Nat) : Int) = k by omega]; exact d⟩)
  rw [← h]
  have : cn (fun k => decide (plcZ M (M (462 + k)) ≠ -1)) (M 7).toNat = cn (fun _ => true) (M 7).toNat := cn_congr _ fun k hk => decide_eq_true (by rw [plc_ord hO (by omega) (by omega)]; omega)
  rw [this, cn_true]
  omega
theorem ft_3 (s : Int → Int) (p e : Int) : (s e = -1 ∧ ftZ s p e = -1) ∨ (s e ≠ -1 ∧ (ftZ s p e = 0 ∨ ftZ s p e = 1 ∨ ftZ s p e = 2)) := by
  unfold ftZ
  by_cases q : s e = -1
  · left; exact ⟨q, if_pos q⟩
  · right
    refine ⟨q, ?_⟩
    rw [if_neg q]
    split
    · left; rfl
    · split
      · right; left; rfl
      · right; right; rfl
/-- all fates together -/
theorem ft_sum (s : Int → Int) (p : Int) : ∀ n : Nat, cn (fun e => decide (ftZ s p e = 0)) n + cn (fun e => decide (ftZ s p e = 1)) n + cn (fun e => decide (ftZ s p e = 2)) n = cn (fun e => decide (s e ≠ -1)) n := by
  intro n
  induction n with
  | zero => rfl
  | succ n ih =>
    simp only [cn, decide_eq_true_eq]
    rcases ft_3 s p n with ⟨q1, q2⟩ | ⟨q1, q2 | q2 | q2⟩
    · rw [q2, if_neg (by omega), if_neg (by omega), if_neg (by omega), if_neg (fun h => h q1)]; omega
    · rw [q2, if_pos rfl, if_neg (by omega), if_neg (by omega), if_pos q1]; omega
    · rw [q2, if_neg (by omega), if_pos rfl, if_neg (by omega), if_pos q1]; omega
    · rw [q2, if_neg (by omega), if_neg (by omega), if_pos rfl, if_pos q1]; omega
/-- a round that can be closed: who has a score is a player -/
theorem sR_pl (hI : MI M) (h3 : M 3 = 1) (hc : isClosableZ M = true) {e : Int} (he : 0 ≤ e) (he' : e < 12) : (sR M e ≠ -1) = (plcZ M e ≠ -1) := by
  apply propext
  unfold sR
  by_cases q : plcZ M e = -1
  · rw [if_pos q]; exact ⟨fun h => absurd rfl h, fun h => absurd q h⟩
  · rw [if_neg q]
    have := closable_1 hI h3 hc he he' q
    exact ⟨fun _ => q, fun _ => by omega⟩
theorem fate_sum (hI : MI M) (h3 : M 3 = 1) (hc : isClosableZ M = true) (p : Int) : cn (fun e => decide (ftZ (sR M) p e = 0)) 12 + cn (fun e => decide (ftZ (sR M) p e = 1)) 12 + cn (fun e => decide (ftZ (sR M) p e = 2)) 12 = M 7 := by
  obtain ⟨hR, hT, hW, hIn, hTi, hk, hs, hO, hN, hru, hba, hty, hml⟩ := id hI
  rw [ft_sum, ← plc_cnt hT hO]
  exact cn_congr _ fun k hk9 => decide_eq_decide.mpr (iff_of_eq (sR_pl hI h3 hc (by omega) (by omega)))
theorem fate_go (hI : MI M) (hp : 1 ≤ p) (h1 : cn (fun e => decide (ftZ (sR M) p e = 1)) 12 = 0) : cn (fun e => decide (ftZ (sR M) p e = 0)) 12 ≤ p := by
  have sb := sR_b hI
  have fc := ft_cnt (s := sR M) (p := p) hp (fun e he => (sb e he).1)
  rw [fc.2.1] at h1
  rw [fc.1]
  cases q : tieZ (sR M) p with
  | true =>
    have := tie_ab hp sb q
    rw [q, if_pos rfl] at h1
    omega
  | false =>
    have := of_decide_eq_false q
    rw [if_neg (by decide)]
    omega
/-- the cells behind a settled cut that neither begins a round nor moves on: fates by who is in, who is tied -/
theorem se_at (hMK : MK X) (hp : 1 ≤ p) (hs : sbI s) (hpl : ∀ e : Int, 0 ≤ e → e < 12 → s e ≠ -1 → plcZ X e ≠ -1) : (∀ k : Int, ¬ (k = 3 ∨ k = 4 ∨ (7 ≤ k ∧ k ≤ 11) ∨ (126 ≤ k ∧ k < 138) ∨ (462 ≤ k ∧ k < 474) ∨ (486 ≤ k ∧ k < 666)) → seZ X s p k = X k) ∧ (seZ X s p 3 = 1 ∨ seZ X s p 3 = 2 ∨ seZ X s p 3 = 3) ∧ (seZ X s p 4 = X 4 → (∀ e : Int, 0 ≤ e → e < 12 → seZ X s p (126 + e) = if (0 ≤ plcZ X e ∧ plcZ X e < X 7) ∧ finZ X (ftZ s p) (p - thZ s p) (!(tieZ s p && decide (X 10 ≠ 3)) && decide (X 10 = 3)) e = true then 0 else X (126 + e)) ∧ (∀ e : Int, 0 ≤ e → e < 12 → seZ X s p (654 + e) = 1 → ftZ s p e = 1)) ∧ (seZ X s p 3 = 2 ↔ tieZ s p = true ∧ X 10 ≠ 3) := by
  have t := hMK.1.2.1
  have hO := hMK.1.2.2.2.2.2.2.2.1
  obtain ⟨t0, t1, t2, t3, t4, t6, t7, t8⟩ := id t
  have hsx : ∀ e : Int, 0 ≤ e → e < 12 → ftZ s p e = 1 → e < X 6 := fun e a b h9 => (plc_in t hO (hpl e a b (ft_n (s := s) (p := p) (e := e) (by omega)))).2
  unfold seZ
  by_cases q : tieZ s p = true ∧ X 10 ≠ 3
  · rw [if_pos q]
    obtain ⟨g1, g2, g3, g4, g5, g6, g7, g8⟩ := tiN_at (X := X) hMK (finZ X (ftZ s p) (p - thZ s p) false) (n := X 10 + 1) (l := p - abZ s p) (ft := ftZ s p) hsx
    obtain ⟨hpp, gB, b9, b10, bm, bt, bi⟩ := B_pre hMK (finZ X (ftZ s p) (p - thZ s p) false)
    refine ⟨fun k hk => g1 k (by omega), Or.inr (Or.inl g5), fun _ => ⟨fun e a b => ?_, fun e a b h9 => ?_⟩, ⟨fun _ => q, fun _ => g5⟩⟩
    · rw [g2 _ (by omega) (by omega), bi e a b, q.1, decide_eq_true q.2]
      rfl
    · rw [g4 e a b] at h9
      by_cases q9 : ftZ s p e = 1
      · exact q9
      · rw [if_neg q9] at h9; omega
  · rw [if_neg q]
    have eq9 : (!(tieZ s p && decide (X 10 ≠ 3)) && decide (X 10 = 3)) = decide (X 10 = 3) := by
      by_cases q10 : X 10 = 3
      · rw [decide_eq_true q10, decide_eq_false (fun h => h q10), Bool.and_false]; rfl
      · rw [decide_eq_false q10, Bool.and_false]
    rw [eq9]
    generalize hf : finZ X (ftZ s p) (p - thZ s p) (decide (X 10 = 3)) = fin
    obtain ⟨hpp, gB, b9, b10, bm, bt, bi⟩ := B_pre hMK fin
    have h4 := gB 4 (by omega)
    have h6 := gB 6 (by omega)
    unfold goZ
    by_cases q1 : X 4 + 1 < X 1
    · rw [if_pos q1]
      have e3 := br_3 (M := ctZ (ioZ X fin (X 7))) (by omega) (X 4 + 1)
      have e4 : brZ (ctZ (ioZ X fin (X 7))) (X 4 + 1) 4 = X 4 + 1 := by
        rw [br_m0 (by omega) _ (by omega)]
        exact (m0_at _ 4).1 rfl
      refine ⟨fun k hk => by rw [br_m (by omega) _ (by omega)]; exact gB k (by omega), ?_, fun h => by omega, ⟨fun h => ?_, fun h => absurd h q⟩⟩
      · rw [e3]; split <;> omega
      · rw [e3] at h; split at h <;> omega
    · rw [if_neg q1]
      have v3 : updI (ctZ (ioZ X fin (X 7))) 3 3 3 = 3 := updI_self _ _ _
      refine ⟨fun k hk => by rw [u_ne (by omega)]; exact gB k (by omega), Or.inr (Or.inr v3), fun _ => ⟨fun e a b => ?_, fun e a b h9 => ?_⟩, ⟨fun h => by omega, fun h => absurd h q⟩⟩
      · rw [u_ne (by omega), bi e a b]
      · rw [u_ne (by omega), bt _ (by omega) (by omega)] at h9; omega
/-- a tie round that ends a competition: as many are in as there were places -/
theorem tie_cnt (h : S0 T M) (hy : yI M) (h3 : M 3 = 2) (hc : isClosableZ M = true) (h4 : clN M 4 = M 4) (hn : clN M 3 ≠ 2) : countInZ (clN M) = countInZ M - tiedZ M + M 9 := by
  have hMK := h.mk
  obtain ⟨hR, hT, hW, hIn, hTi, hk, hs, hO, hN, hru, hba, hty, hml⟩ := id hMK.1
  obtain ⟨t0, t1, t2, t3, t4, t6, t7, t8⟩ := id hT
  have en : clN M = seZ M (sT M) (M 9) := if_neg (by omega)
  rw [en] at h4 hn ⊢
  have sb := sT_b hMK.1
  have hp := (hty.2.2.2.1 h3).1
  have hp' := hty.2.2.2.2.1.2
  have y4 := hy.2.2.2.1 h3
  have hsT : ∀ e : Int, sT M e ≠ -1 → M (654 + e) = 1 := fun e h9 => Classical.byContradiction fun h8 => h9 (if_neg h8)
  have hT1 : ∀ e : Int, 0 ≤ e → e < 12 → M (654 + e) = 1 → 0 ≤ sT M e := fun e a b h9 => by
    have := closable_2 hMK.1 h3 hc a b h9
    unfold sT
    rw [if_pos h9]
    exact this
  have hpl : ∀ e : Int, 0 ≤ e → e < 12 → sT M e ≠ -1 → plcZ M e ≠ -1 := fun e a b h9 => (hty.1 e a b (hsT e h9)).2
  obtain ⟨g1, g2, g3, g4⟩ := se_at hMK hp sb hpl
  obtain ⟨gi, gt⟩ := g3 h4
  have e6 := g1 6 (by omega)
  have nt : ¬ (tieZ (sT M) (M 9) = true ∧ M 10 ≠ 3) := fun h9 => hn (g4.mpr h9)
  have fb := ft_cnt (s := sT M) (p := M 9) hp (fun e he => (sb e he).1)
  have fs := ft_sum (sT M) (M 9) 12
  -- the tied ones, counted
  have et : tiedZ M = cn (fun e => decide (sT M e ≠ -1)) 12 := by
    unfold tiedZ
    have e12 : 12 = (M 6).toNat + (12 - (M 6).toNat) := by omega
    rw [e12, cn_tail _ (fun k a b => by
      refine decide_eq_false fun h9 => ?_
      have := (plc_in hT hO (hpl k (by omega) (by omega) h9)).2
      omega)]
    refine cn_sm _ fun k hk9 => ?_
    show M (654 + (k : Int)) = _
    rcases hTi k (by omega) (by omega) with q | q
    · rw [if_neg (fun h9 => by have := hsT k (of_decide_eq_true h9); omega), q]
    · rw [if_pos (decide_eq_true (by have := hT1 k (by omega) (by omega) q; omega)), q]
  obtain ⟨Q, hQ⟩ : ∃ Q : Int → Bool, Q = fun e => decide ((0 ≤ plcZ M e ∧ plcZ M e < M 7) ∧ finZ M (ftZ (sT M) (M 9)) (M 9 - thZ (sT M) (M 9)) (!(tieZ (sT M) (M 9) && decide (M 10 ≠ 3)) && decide (M 10 = 3)) e = true) := ⟨_, rfl⟩
  have hfin : ∀ e : Int, 0 ≤ e → e < 12 → Q e = true → ftZ (sT M) (M 9) e = 2 ∨ ftZ (sT M) (M 9) e = 1 := fun e a b q => by
    rw [hQ] at q
    have q1 := (of_decide_eq_true q).2
    unfold finZ at q1
    rw [Bool.or_eq_true, Bool.and_eq_true] at q1
    rcases q1 with q1 | q1
    · exact Or.inl (of_decide_eq_true q1)
    · have h5 := q1.2
      rw [Bool.and_eq_true] at h5
      exact Or.inr (of_decide_eq_true h5.1)
  have ec : countInZ (seZ M (sT M) (M 9)) = countInZ M - cn Q (M 6).toNat := by
    unfold countInZ
    rw [e6]
    refine sm_sub _ fun k hk9 => ?_
    show seZ M (sT M) (M 9) (126 + (k : Int)) = M (126 + (k : Int)) - _
    rw [gi k (by omega) (by omega)]
    by_cases q : Q k = true
    · have f9 := hfin k (by omega) (by omega) q
      have i1 := hy.2.2.1 k (by omega) (by omega) (hsT k (ft_n (s := sT M) (p := M 9) (e := k) (by omega)))
      rw [if_pos q]
      rw [hQ] at q
      rw [if_pos (of_decide_eq_true q), i1]
      rfl
    · rw [if_neg q]
      rw [hQ] at q
      rw [if_neg (fun h9 => q (decide_eq_true h9))]
      omega
  have eQ : cn Q (M 6).toNat = cn Q 12 := by
    have e12 : 12 = (M 6).toNat + (12 - (M 6).toNat) := by omega
    rw [e12, cn_tail _ (fun k a b => by
      cases q : Q k with
      | false => rfl
      | true =>
        have f9 := hfin k (by omega) (by omega) q
        have := (plc_in hT hO (hpl k (by omega) (by omega) (ft_n (s := sT M) (p := M 9) (e := k) (by omega)))).2
        omega)]
  rw [ec, eQ]
  -- enough: those out are the others
  have key : cn Q 12 = cn (fun e => decide (sT M e ≠ -1)) 12 - M 9 := by
    by_cases q : tieZ (sT M) (M 9) = true
    · -- the third tie round
      have q10 : M 10 = 3 := Classical.byContradiction fun h9 => nt ⟨q, h9⟩
      have ta := tie_ab hp sb q
      rw [fb.1, fb.2.1, fb.2.2, if_pos q, if_pos q] at fs
      have th : thZ (sT M) (M 9) = abZ (sT M) (M 9) := if_pos q
      have qlt := of_decide_eq_true q
      have split : cn Q 12 = cn (fun e => decide (ftZ (sT M) (M 9) e = 2)) 12 + cn (fun e => decide (ftZ (sT M) (M 9) e = 1) && decide (M 9 - abZ (sT M) (M 9) ≤ tcZ M (ftZ (sT M) (M 9)) (plcZ M e).toNat)) 12 := by
        refine cn_add 12 (fun k hk9 => ?_) (fun k hk9 h9 => ?_)
        · rw [hQ]
          simp only [finZ, th, q, q10]
          have pb := plcZ_b M k (by omega)
          by_cases f2 : ftZ (sT M) (M 9) k = 2
          · have pp := hpl k (by omega) (by omega) (ft_n (s := sT M) (p := M 9) (e := k) (by omega))
            rw [decide_eq_true f2, Bool.true_or, Bool.true_or]
            exact decide_eq_true ⟨⟨by omega, by have := pb.2.2 pp; omega⟩, rfl⟩
          · rw [decide_eq_false f2, Bool.false_or, Bool.false_or]
            by_cases f1 : ftZ (sT M) (M 9) k = 1
            · have pp := hpl k (by omega) (by omega) (ft_n (s := sT M) (p := M 9) (e := k) (by omega))
              rw [decide_eq_true f1, Bool.true_and, Bool.true_and]
              have pl : 0 ≤ plcZ M k ∧ plcZ M k < M 7 := ⟨by omega, by have := pb.2.2 pp; omega⟩
              simp only [pl, and_self, true_and]
              by_cases f0 : M 9 - abZ (sT M) (M 9) ≤ tcZ M (ftZ (sT M) (M 9)) (plcZ M k).toNat
              · rw [decide_eq_true f0, decide_eq_true (show M 9 - abZ (sT M) (M 9) - tcZ M (ftZ (sT M) (M 9)) (plcZ M k).toNat ≤ 0 by omega)]
                rfl
              · rw [decide_eq_false f0, decide_eq_false (show ¬ M 9 - abZ (sT M) (M 9) - tcZ M (ftZ (sT M) (M 9)) (plcZ M k).toNat ≤ 0 by omega)]
                rfl
            · rw [decide_eq_false f1, Bool.false_and, Bool.false_and, Bool.and_false]
              exact decide_eq_false (fun h9 => by cases h9.2)
        · have := of_decide_eq_true h9
          rw [decide_eq_false (by omega), Bool.false_and]
      have perm := cn_perm (m := 12) (f := fun k => M (462 + k)) (M 7).toNat (fun e => decide (ftZ (sT M) (M 9) e = 1) && decide (M 9 - abZ (sT M) (M 9) ≤ tcZ M (ftZ (sT M) (M 9)) (plcZ M e).toNat)) (fun k hk9 => by have := hO.1 k (by omega) (by omega); exact ⟨this.1, by omega⟩) (fun i k a b => hO.2 i k (by omega) (by omega) (by omega)) (fun e he q9 => by
        rw [Bool.and_eq_true] at q9
        have q1 := of_decide_eq_true q9.1
        obtain ⟨k, a, b, d⟩ := plc_iff.mp (hpl e (by omega) (by omega) (ft_n (s := sT M) (p := M 9) (e := e) (by omega)))
        exact ⟨k.toNat, by omega, by rw [show ((k.toNat : Nat) : Int) = k by omega]; exact d⟩)
      have behind := cn_behind (b := fun k => decide (ftZ (sT M) (M 9) (M (462 + k)) = 1)) (l := M 9 - abZ (sT M) (M 9)) (by omega) (M 7).toNat
      have ctb : cn (fun k => decide (ftZ (sT M) (M 9) (M (462 + k)) = 1)) (M 7).toNat = lvZ (sT M) (M 9) := by
        have := tc_all hT hO (ft := ftZ (sT M) (M 9)) (fun e he h9 => hpl e (by omega) (by omega) (ft_n (s := sT M) (p := M 9) (e := e) (by omega)))
        rw [fb.2.1, if_pos q] at this
        exact this
      have same : cn (fun k => (decide (ftZ (sT M) (M 9) (M (462 + k)) = 1) && decide (M 9 - abZ (sT M) (M 9) ≤ tcZ M (ftZ (sT M) (M 9)) (plcZ M (M (462 + k))).toNat))) (M 7).toNat = cn (fun k => (decide (ftZ (sT M) (M 9) (M (462 + k)) = 1) && decide (M 9 - abZ (sT M) (M 9) ≤ cn (fun k => decide (ftZ (sT M) (M 9) (M (462 + k)) = 1)) k.toNat))) (M 7).toNat := cn_congr _ fun k hk9 => by
        rw [plc_ord hO (by omega) (by omega)]
        rfl
      rw [split, fb.2.2, ← perm]
      rw [ctb, if_pos (by omega)] at behind
      have e9 := same.trans behind
      have e8 : cn (fun k => (fun e => decide (ftZ (sT M) (M 9) e = 1) && decide (M 9 - abZ (sT M) (M 9) ≤ tcZ M (ftZ (sT M) (M 9)) (plcZ M e).toNat)) ((fun k => M (462 + k)) k)) (M 7).toNat = lvZ (sT M) (M 9) - (M 9 - abZ (sT M) (M 9)) := e9
      rw [e8]
      omega
    · -- no tie is left
      have qf : tieZ (sT M) (M 9) = false := Bool.eq_false_iff.mpr q
      rw [fb.1, fb.2.1, fb.2.2, qf, if_neg (by decide), if_neg (by decide)] at fs
      have qle := of_decide_eq_false qf
      have c0 : M 9 < cF (sT M) 0 := by
        have : cF (sT M) 0 = cn (fun e => decide (sT M e ≠ -1)) 12 := by
          unfold cF
          exact cn_congr _ fun k hk9 => decide_eq_decide.mpr (by have := (sb k hk9).1; omega)
        rw [this, ← et]
        exact y4
      have lo := ln_ok (s := sT M) (p := M 9) hp (fun e he => (sb e he).1) c0
      have al := ablv_eq (s := sT M) (p := M 9) (fun e he => (sb e he).1) lo.1
      have split : cn Q 12 = cn (fun e => decide (ftZ (sT M) (M 9) e = 2)) 12 := by
        refine cn_congr 12 fun k hk9 => ?_
        rw [hQ]
        have pb := plcZ_b M k (by omega)
        have n1 : ftZ (sT M) (M 9) k ≠ 1 := fun h9 => by
          have := ft_t (s := sT M) (p := M 9) hp sb (e := k) (by omega) (by omega) h9
          rw [qf] at this; cases this
        by_cases f2 : ftZ (sT M) (M 9) k = 2
        · have pp := hpl k (by omega) (by omega) (ft_n (s := sT M) (p := M 9) (e := k) (by omega))
          rw [decide_eq_true f2]
          refine decide_eq_true ⟨⟨by omega, by have := pb.2.2 pp; omega⟩, ?_⟩
          unfold finZ
          rw [decide_eq_true f2, Bool.true_or]
        · rw [decide_eq_false f2]
          refine decide_eq_false fun h9 => ?_
          have := h9.2
          unfold finZ at this
          rw [decide_eq_false f2, decide_eq_false n1, Bool.false_and, Bool.and_false, Bool.false_or] at this
          cases this
      rw [split, fb.2.2]
      omega
  rw [key, et]
  omega
end CF
