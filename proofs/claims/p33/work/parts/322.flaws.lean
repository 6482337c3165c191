/-! flaws by the rules -/
section FL
variable {M : Int → Int} {T : SX11}
theorem work_in (hW : wkI M) {w : Int} (h0 : 0 ≤ w) (h1 : w < M 5) : (0 ≤ M (12 + 3 * w) ∧ M (12 + 3 * w) ≤ 9) ∧ (0 ≤ M (12 + 3 * w + 1) ∧ M (12 + 3 * w + 1) ≤ 4) ∧ (1 ≤ M (12 + 3 * w + 2) ∧ M (12 + 3 * w + 2) ≤ 60) := hW.2.1 w h0 h1
theorem flaws_L84 (h : RR T M) {e r : Int} (he : 0 ≤ e) (he' : e < M 6) (hr : 0 ≤ r) (hr' : r < 4) (c3 c4 c5 c6 c7 : Int32) {w : Int} (hw : 0 ≤ w) (hw' : w < M 5) (k69 : Int32 → Option Int32) : DL_flaws_L84 T (iI e) (iI r) c3 c4 c5 c6 c7 (iI w) k69 5 (iI 0) (iI 0) = k69 (iI (alikeZ M e r (M (12 + 3 * w)) (M (cellZ e r)).toNat)) := by
  have hW := h.2.2.2.1
  have h6 := h.2.2.1.2.2.2.2.2.1
  have h5 := hW.1
  have hc := (hW.2.2 e r he (by omega) hr hr').1
  have wa := work_in hW hw hw'
  have hE : ∀ k : Int, 0 ≤ k → k < 4 → (k < M (cellZ e r) → 0 ≤ workAtZ M e r k ∧ workAtZ M e r k < M 5) ∧ (¬ k < M (cellZ e r) → workAtZ M e r k = -1) := fun k a b => ⟨fun q => (workAtZ_in hW he (by omega) hr hr' a q).2, fun q => by unfold workAtZ; rw [if_neg (by omega)]⟩
  have tail : alikeZ M e r (M (12 + 3 * w)) (M (cellZ e r)).toNat = cn (fun i => decide (0 ≤ workAtZ M e r i) && decide (compZ M e r i = M (12 + 3 * w))) 4 := by
    have e4 : 4 = (M (cellZ e r)).toNat + (4 - (M (cellZ e r)).toNat) := by omega
    rw [e4, cn_tail _ (fun k a b => by
      have := (hE k (by omega) (by omega)).2 (by omega)
      rw [this]; rfl)]
    unfold alikeZ
    refine cn_congr _ fun k hk => ?_
    have := (hE k (by omega) (by omega)).1 (by omega)
    rw [decide_eq_true this.1, Bool.true_and]
  rw [tail]
  have key := upL (fun f j => DL_flaws_L84 T (iI e) (iI r) c3 c4 c5 c6 c7 (iI w) k69 f (iI (cn (fun i => decide (0 ≤ workAtZ M e r i) && decide (compZ M e r i = M (12 + 3 * w))) j)) (iI j)) (k69 (iI (cn (fun i => decide (0 ≤ workAtZ M e r i) && decide (compZ M e r i = M (12 + 3 * w))) 4))) 4 ?_ ?_ 5 (by omega)
  · exact key
  · intro f j hj
    show DL_flaws_L84 _ _ _ _ _ _ _ _ _ _ _ _ _ = DL_flaws_L84 _ _ _ _ _ _ _ _ _ _ _ _ _
    obtain ⟨d1, d2⟩ := hE j (by omega) (by omega)
    have wb := workAtZ_b hW (e := e) (r := r) (k := j) he (by omega) hr hr'
    rw [DL_flaws_L84, show cn (fun i => decide (0 ≤ workAtZ M e r i) && decide (compZ M e r i = M (12 + 3 * w))) (j + 1) = cn (fun i => decide (0 ≤ workAtZ M e r i) && decide (compZ M e r i = M (12 + 3 * w))) j + (if (decide (0 ≤ workAtZ M e r j) && decide (compZ M e r j = M (12 + 3 * w))) = true then 1 else 0) from rfl, show ((j + 1 : Nat) : Int) = (j : Int) + 1 by omega]
    generalize cn (fun i => decide (0 ≤ workAtZ M e r i) && decide (compZ M e r i = M (12 + 3 * w))) j = g
    simp only [iI_lit, iI_neg, jn_eq]
    rw [if_le (by omega) (by omega) (by omega) (by omega), if_neg (by omega), E_program h he he' hr (by omega) (by omega) (by omega)]
    simp only [Option.bind_some, iI_add]
    rw [if_lt (by omega) (by omega) (by omega) (by omega)]
    by_cases q : (j : Int) < M (cellZ e r)
    · obtain ⟨d3, d4⟩ := d1 q
      have wc := work_in hW d3 d4
      rw [if_neg (by omega), E_work h d3 d4 (by omega) (by omega), E_work h hw hw' (by omega) (by omega)]
      simp only [Option.bind_some, Int.add_zero]
      rw [if_eq (by omega) (by omega) (by omega) (by omega), decide_eq_true d3, Bool.true_and]
      show (if compZ M e r j = M (12 + 3 * w) then _ else _) = _
      by_cases q2 : compZ M e r j = M (12 + 3 * w)
      · rw [if_pos q2, if_pos (decide_eq_true q2)]
      · rw [if_neg q2, if_neg (by rw [decide_eq_false q2]; decide), Int.add_zero]
    · have d3 := d2 q
      rw [if_pos (by omega), d3]
      rfl
  · intro f
    show DL_flaws_L84 _ _ _ _ _ _ _ _ _ _ _ _ _ = _
    rw [DL_flaws_L84]
    simp only [iI_lit]
    rw [if_le (by omega) (by omega) (by omega) (by omega), if_pos (by omega)]
theorem was_s (e w : Int) (j : Nat) : wasZ M e w (j + 1) = (wasZ M e w j || decide (workAtZ M e ((j : Int) / 4) ((j : Int) - (j : Int) / 4 * 4) = w)) := by
  unfold wasZ
  rw [al, Bool.not_and]
  by_cases q : workAtZ M e ((j : Int) / 4) ((j : Int) - (j : Int) / 4 * 4) = w <;> simp [q]
theorem flaws_L157 (h : RR T M) {e r : Int} (he : 0 ≤ e) (he' : e < M 6) (hr : 0 ≤ r) (hr' : r < 4) (c3 c4 c5 c6 : Int32) {w : Int} (hw : 0 ≤ w) (hw' : w < M 5) (b : Bool) (k81 : Int32 → Option Int32) : DL_flaws_L157 T (iI e) (iI r) c3 c4 c5 c6 (iI w) k81 13 (bI b) (iI 0) = k81 (bI (b || wasZ M e w (4 * r).toNat)) := by
  have hW := h.2.2.2.1
  have h6 := h.2.2.1.2.2.2.2.2.1
  have h5 := hW.1
  have key := upL (fun f j => DL_flaws_L157 T (iI e) (iI r) c3 c4 c5 c6 (iI w) k81 f (bI (b || wasZ M e w j)) (iI j)) (k81 (bI (b || wasZ M e w (4 * r).toNat))) (4 * r).toNat ?_ ?_ 13 (by omega)
  · have e0 : (b || wasZ M e w 0) = b := by show (b || false) = b; rw [Bool.or_false]
    rw [e0] at key
    exact key
  · intro f j hj
    show DL_flaws_L157 _ _ _ _ _ _ _ _ _ _ _ _ = DL_flaws_L157 _ _ _ _ _ _ _ _ _ _ _ _
    have wb := workAtZ_b hW (e := e) (r := (j : Int) / 4) (k := (j : Int) - (j : Int) / 4 * 4) he (by omega) (by omega) (by omega)
    rw [DL_flaws_L157, was_s, show ((j + 1 : Nat) : Int) = (j : Int) + 1 by omega]
    simp only [iI_lit, jn_eq, iI_mul]
    rw [if_le (by omega) (by omega) (by omega) (by omega), if_neg (by omega), iI_div (by omega) (by omega) (by omega) (by omega)]
    simp only [iI_mul, iI_sub, iI_add]
    rw [E_program h he he' (by omega) (by omega) (by omega) (by omega)]
    simp only [Option.bind_some]
    rw [if_eq (by omega) (by omega) (by omega) (by omega)]
    cases b with
    | true => rfl
    | false =>
      simp only [Bool.false_or]
      cases hh : wasZ M e w j with
      | true => rfl
      | false =>
        simp only [Bool.false_or]
        rw [show bI false = iI 0 from rfl, if_pos rfl]
        by_cases q : workAtZ M e ((j : Int) / 4) ((j : Int) - (j : Int) / 4 * 4) = w
        · rw [if_pos q, decide_eq_true q]; rfl
        · rw [if_neg q, decide_eq_false q]; rfl
  · intro f
    show DL_flaws_L157 _ _ _ _ _ _ _ _ _ _ _ _ = _
    rw [DL_flaws_L157]
    simp only [iI_lit, iI_mul]
    rw [if_le (by omega) (by omega) (by omega) (by omega), if_pos (by omega)]
theorem bd_if {α β : Type} {x : Option α} {v : α} {c : α → Prop} {inst : ∀ y, Decidable (c y)} {A B : α → Option β} (h : x = some v) (hc : c v) : (x.bind fun y => if c y then A y else B y) = A v := by
  rw [h]
  exact if_pos hc
theorem flaws_L33 (h : RR T M) {e r : Int} (he : 0 ≤ e) (he' : e < M 6) (hr : 0 ≤ r) (hr' : r < 4) (k13 : Int32 → Int32 → Int32 → Int32 → Int32 → Option Int32) : DL_flaws_L33 T (iI e) (iI r) k13 5 (iI 0) (iI 0) (iI 0) (iI 0) (iI 0) = k13 (iI (flZ M e r (M (cellZ e r)).toNat (M (cellZ e r)).toNat).1) (flZ M e r (M (cellZ e r)).toNat (M (cellZ e r)).toNat).2.1 (iI (M (cellZ e r))) (iI (flZ M e r (M (cellZ e r)).toNat (M (cellZ e r)).toNat).2.2.1) (bI (flZ M e r (M (cellZ e r)).toNat (M (cellZ e r)).toNat).2.2.2) := by
  have hW := h.2.2.2.1
  have h6 := h.2.2.1.2.2.2.2.2.1
  have h5 := hW.1
  have hc := (hW.2.2 e r he (by omega) hr hr').1
  obtain ⟨N, hN⟩ : ∃ N : Nat, N = (M (cellZ e r)).toNat := ⟨_, rfl⟩
  have fo := flZ_ok hW he (show e < 12 by omega) hr hr' N hN
  have key : DL_flaws_L33 T (iI e) (iI r) k13 5 (iI (flZ M e r N 0).1) (flZ M e r N 0).2.1 (iI ((0 : Nat) : Int)) (iI (flZ M e r N 0).2.2.1) (bI (flZ M e r N 0).2.2.2) = k13 (iI (flZ M e r N N).1) (flZ M e r N N).2.1 (iI (M (cellZ e r))) (iI (flZ M e r N N).2.2.1) (bI (flZ M e r N N).2.2.2) := upL (fun f j => DL_flaws_L33 T (iI e) (iI r) k13 f (iI (flZ M e r N j).1) (flZ M e r N j).2.1 (iI j) (iI (flZ M e r N j).2.2.1) (bI (flZ M e r N j).2.2.2)) (k13 (iI (flZ M e r N N).1) (flZ M e r N N).2.1 (iI (M (cellZ e r))) (iI (flZ M e r N N).2.2.1) (bI (flZ M e r N N).2.2.2)) N ?_ ?_ 5 (by omega)
  · rw [← hN]
    rw [show flZ M e r N 0 = (0, iI 0, 0, false) from rfl, show ((0 : Nat) : Int) = 0 from rfl, show bI false = iI 0 from rfl] at key
    exact key
  · intro f j hj
    show DL_flaws_L33 _ _ _ _ _ _ _ _ _ _ = DL_flaws_L33 _ _ _ _ _ _ _ _ _ _
    obtain ⟨w, hw9⟩ : ∃ w : Int, w = workAtZ M e r j := ⟨_, rfl⟩
    obtain ⟨-, d1, d2⟩ := workAtZ_in hW he (show e < 12 by omega) hr hr' (k := (j : Int)) (by omega) (by omega)
    rw [← hw9] at d1 d2
    have wa := work_in hW d1 d2
    have f1 := fo j (by omega)
    have f2 := fo (j + 1) (by omega)
    have ea : alikeZ M e r (M (12 + 3 * w)) N = alikeZ M e r (compZ M e r j) N := by unfold compZ; rw [hw9]
    have al0 : 0 ≤ alikeZ M e r (compZ M e r j) N := cn_lo _ _
    have al1 : alikeZ M e r (compZ M e r j) N ≤ N := cn_hi _ _
    have es : flZ M e r N (j + 1) = ((flZ M e r N j).1 + M (12 + 3 * w + 2), (flZ M e r N j).2.1 ||| (iI 1 <<< (iI (M (12 + 3 * w + 1)) &&& iI 31)), (if alikeZ M e r (compZ M e r j) N ≤ (flZ M e r N j).2.2.1 then (flZ M e r N j).2.2.1 else alikeZ M e r (compZ M e r j) N), (flZ M e r N j).2.2.2 || wasZ M e w (4 * r).toNat) := by
      rw [hw9]; rfl
    rw [DL_flaws_L33, es, show ((j + 1 : Nat) : Int) = (j : Int) + 1 by omega]
    simp only [iI_lit, jn_eq]
    rw [E_program h he he' hr (by omega) (by omega) (by omega), ← hw9]
    simp only [Option.bind_some]
    rw [if_lt (by omega) (by omega) (by omega) (by omega), if_neg (by omega), E_work h d1 d2 (by omega) (by omega)]
    simp only [Option.bind_some]
    rw [E_work h d1 d2 (by omega) (by omega)]
    simp only [Option.bind_some]
    rw [flaws_L84 h he he' hr hr' _ _ _ _ _ d1 d2, ← hN, ea, if_le (by omega) (by omega) (by omega) (by omega)]
    simp only [flaws_L157 h he he' hr hr' _ _ _ _ d1 d2, iI_add]
    by_cases q : alikeZ M e r (compZ M e r j) N ≤ (flZ M e r N j).2.2.1
    · rw [if_pos q, if_pos q]
    · rw [if_neg q, if_neg q]
  · intro f
    show DL_flaws_L33 _ _ _ _ _ _ _ _ _ _ = _
    have hw1 : workAtZ M e r (N : Int) = -1 := by unfold workAtZ; rw [if_neg (by omega)]
    have hp := E_program h he he' hr (show r ≤ 3 by omega) (k := (N : Int)) (by omega) (by omega)
    have hNc : (N : Int) = M (cellZ e r) := by omega
    rw [hw1] at hp
    rw [← hNc, DL_flaws_L33]
    exact bd_if (c := fun y => y < (0 : Int32)) hp (by show iI (-1) < iI 0; rw [iI_lt (by omega) (by omega) (by omega) (by omega)]; omega)
theorem flaws_L14 (h : RR T M) (hy : yI M) {e : Int} (he : 0 ≤ e) (he' : e < M 6) (k8 k9 : Unit → Option Int32) : DL_flaws_L14 T (iI e) k8 k9 5 (iI 0) = k9 () := by
  have hW := h.2.2.2.1
  have hR := h.2.1
  have h6 := h.2.2.1.2.2.2.2.2.1
  have h5 := hW.1
  refine upL (fun f j => DL_flaws_L14 T (iI e) k8 k9 f (iI j)) (k9 ()) 4 ?_ ?_ 5 (by omega)
  · intro f j hj
    obtain ⟨r, hr9⟩ : ∃ r : Int, r = (j : Int) := ⟨_, rfl⟩
    have hr : 0 ≤ r := by omega
    have hr' : r < 4 := by omega
    have hc := (hW.2.2 e r he (by omega) hr hr').1
    have fo := flZ_ok hW he (show e < 12 by omega) hr hr' (M (cellZ e r)).toNat rfl (M (cellZ e r)).toNat (Nat.le_refl _)
    have fb := flawZ_b M e r
    have w1 : workAtZ M e r (-1) = -1 := by unfold workAtZ; rw [if_neg (by omega)]
    have u0 := E_rule h hr (show r ≤ 3 by omega) (show (0 : Int) ≤ 0 by omega) (by omega)
    have u1 := E_rule h hr (show r ≤ 3 by omega) (show (0 : Int) ≤ 1 by omega) (by omega)
    have u2 := E_rule h hr (show r ≤ 3 by omega) (show (0 : Int) ≤ 2 by omega) (by omega)
    have u3 := E_rule h hr (show r ≤ 3 by omega) (show (0 : Int) ≤ 3 by omega) (by omega)
    have u4 := E_rule h hr (show r ≤ 3 by omega) (show (0 : Int) ≤ 4 by omega) (by omega)
    have r0 := hR (ruleZ r 0)
    have r1 := hR (ruleZ r 1)
    have r3 := hR (ruleZ r 3)
    have r4 := hy.2.2.2.2.2 r hr hr'
    have ed : flawZ M e r = if M (cellZ e r) = 0 then 1 else if M (ruleZ r 0) ≤ (flZ M e r (M (cellZ e r)).toNat (M (cellZ e r)).toNat).1 then if (flZ M e r (M (cellZ e r)).toNat (M (cellZ e r)).toNat).1 ≤ M (ruleZ r 1) then if (iI (M (ruleZ r 2)) &&& ((flZ M e r (M (cellZ e r)).toNat (M (cellZ e r)).toNat).2.1 ^^^ iI (-1))) = iI 0 then if (flZ M e r (M (cellZ e r)).toNat (M (cellZ e r)).toNat).2.2.1 ≤ M (ruleZ r 3) then if M (ruleZ r 4) = 1 ∧ (flZ M e r (M (cellZ e r)).toNat (M (cellZ e r)).toNat).2.2.2 = true then 6 else 0 else 5 else 4 else 3 else 2 := rfl
    show DL_flaws_L14 _ _ _ _ _ _ = DL_flaws_L14 _ _ _ _ _ _
    rw [DL_flaws_L14, show ((j + 1 : Nat) : Int) = r + 1 by omega, ← hr9]
    simp only [iI_lit, iI_neg, jn_eq]
    rw [if_le (by omega) (by omega) (by omega) (by omega), if_neg (by omega), flaws_L33 h he he' hr hr']
    simp only [E_flaw h he he' hr (show r ≤ 3 by omega), E_program h he he' hr (show r ≤ 3 by omega) (show (-2147483648 : Int) ≤ -1 by omega) (by omega), w1, u0, u1, u2, u3, u4, Option.bind_some, iI_add, if_true]
    have fin : ∀ D : Option Int32, (if iI (flawZ M e r) < iI 0 then k8 () else if iI 6 < iI (flawZ M e r) then k8 () else D) = D := fun D => by
      rw [if_lt (by omega) (by omega) (by omega) (by omega), if_neg (by omega), if_lt (by omega) (by omega) (by omega) (by omega), if_neg (by omega)]
    simp only [fin]
    generalize (flZ M e r (M (cellZ e r)).toNat (M (cellZ e r)).toNat) = F at *
    obtain ⟨F1, F2, F3, F4⟩ := F
    simp only at *
    have fin2 : ∀ D : Option Int32, (if iI 4 < iI (M (cellZ e r)) then k8 () else D) = D := fun D => by
      rw [if_lt (by omega) (by omega) (by omega) (by omega), if_neg (by omega)]
    simp only [fin2]
    have x1 : ∀ a : Int, 0 ≤ a → a ≤ 6 → (iI a = iI 0) = (a = 0) := fun a b d => iI_eq (by omega) (by omega) (by omega) (by omega)
    have x2 : ∀ a : Int, 0 ≤ a → a ≤ 6 → (iI a = iI 1) = (a = 1) := fun a b d => iI_eq (by omega) (by omega) (by omega) (by omega)
    simp only [x1 _ fb.1 fb.2, x2 _ fb.1 fb.2, x1 _ hc.1 (show M (cellZ e r) ≤ 6 by omega), iI_le (show -2147483648 ≤ M (cellZ e r) by omega) (show M (cellZ e r) < 2147483648 by omega) (show (-2147483648 : Int) ≤ 0 by omega) (show (0 : Int) < 2147483648 by omega), iI_lt (show -2147483648 ≤ F1 by omega) (show F1 < 2147483648 by omega) r0.1 r0.2, iI_lt r1.1 r1.2 (show -2147483648 ≤ F1 by omega) (show F1 < 2147483648 by omega), iI_lt r3.1 r3.2 (show -2147483648 ≤ F3 by omega) (show F3 < 2147483648 by omega)]
    have b4 : (iI (M (ruleZ r 4)) = iI 0) = (M (ruleZ r 4) = 0) := by rcases r4 with q | q <;> rw [q] <;> decide
    simp only [b4, bI_z]
    generalize flawZ M e r = fz at *
    by_cases q0 : M (cellZ e r) = 0
    · rw [if_pos q0] at ed
      subst ed
      simp only [q0, Int.le_refl, if_true]
      rfl
    · rw [if_neg q0] at ed
      have q0' : ¬ M (cellZ e r) ≤ 0 := by omega
      simp only [if_neg q0', if_neg q0]
      by_cases q1 : F1 < M (ruleZ r 0)
      · rw [if_neg (by omega)] at ed
        subst ed
        simp only [if_pos q1]
        rfl
      · rw [if_pos (by omega)] at ed
        simp only [if_neg q1]
        by_cases q2 : M (ruleZ r 1) < F1
        · rw [if_neg (by omega)] at ed
          subst ed
          simp only [if_pos q2]
          rfl
        · rw [if_pos (by omega)] at ed
          simp only [if_neg q2]
          by_cases q3 : (iI (M (ruleZ r 2)) &&& (F2 ^^^ iI (-1))) = iI 0
          · rw [if_pos q3] at ed
            simp only [if_pos q3]
            by_cases q4 : M (ruleZ r 3) < F3
            · rw [if_neg (by omega)] at ed
              subst ed
              simp only [if_pos q4]
              rfl
            · rw [if_pos (by omega)] at ed
              simp only [if_neg q4]
              by_cases q5 : M (ruleZ r 4) = 0
              · rw [if_neg (by omega)] at ed
                subst ed
                simp only [if_pos q5]
                rfl
              · simp only [if_neg q5]
                have q6 : M (ruleZ r 4) = 1 := by omega
                cases F4 with
                | true =>
                  rw [if_pos ⟨q6, rfl⟩] at ed
                  subst ed
                  rfl
                | false =>
                  rw [if_neg (fun h => by cases h.2)] at ed
                  subst ed
                  rfl
          · rw [if_neg q3] at ed
            subst ed
            simp only [if_neg q3]
            rfl
  · intro f
    show DL_flaws_L14 _ _ _ _ _ _ = _
    rw [DL_flaws_L14]
    simp only [iI_lit]
    rw [if_le (by omega) (by omega) (by omega) (by omega), if_pos (by omega)]
theorem flaws_ok (h : RR T M) (hy : yI M) : DL_flaws T = some (iI 1) := by
  have h6 := h.2.2.1.2.2.2.2.2.1
  have i6 := E_info h (w := 6) (by omega) (by omega)
  rw [show infoZ M 6 = M 6 from rfl] at i6
  unfold DL_flaws
  simp only [iI_lit, jn_eq]
  refine upL (fun f j => DL_flaws_L2 T (fun _ => some (iI 0)) (fun _ => some (iI 1)) f (iI j)) (some (iI 1)) (M 6).toNat ?_ ?_ 13 (by omega)
  · intro f j hj
    show DL_flaws_L2 _ _ _ _ _ = DL_flaws_L2 _ _ _ _ _
    rw [DL_flaws_L2]
    simp only [iI_lit, i6, Option.bind_some]
    rw [if_le (by omega) (by omega) (by omega) (by omega), if_neg (by omega), flaws_L14 h hy (e := (j : Int)) (by omega) (by omega), iI_add]
    rfl
  · intro f
    show DL_flaws_L2 _ _ _ _ _ = _
    rw [DL_flaws_L2]
    simp only [iI_lit, i6, Option.bind_some]
    rw [if_le (by omega) (by omega) (by omega) (by omega), if_pos (by omega)]
end FL
