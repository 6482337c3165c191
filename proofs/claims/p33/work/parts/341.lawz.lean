/-! the law, from the start -/
section LZ
variable {M N V : Int → Int} {T : SX11} {L : Int} {c : Int32 → Int32}
theorem pre_11 (h : S0 T M) {s : Int} (hs : 0 ≤ s) (hs' : s < 2147483648) : preI (updI M 11 s) := by
  obtain ⟨⟨hR, hT, hW, hIn, hTi, hk, hsl, hO, hN, hru, hba, hty, hml⟩, hx⟩ := h.mk
  obtain ⟨t0, t1, t2, t3, t4, t6, t7, t8⟩ := id hT
  have e6 : updI M 11 s 6 = M 6 := updI_ne (by omega)
  have g : ∀ k : Int, ¬ (k = 11) → updI M 11 s k = M k := fun k p => updI_ne p
  refine ⟨rg_upd hR (by omega) (by omega), by rw [g 0 (by omega)]; exact t0, by rw [g 1 (by omega)]; exact t1, by rw [g 2 (by omega)]; exact t2, by rw [e6]; exact t6, wk_c (fun k hk => g k (by omega)) hW, in_c (fun k hk => g k (by omega)) hIn, ru_c (fun k hk => g k (by omega)) hru, ba_c (fun k hk => g k (by omega)) hba, by rw [updI_self]; exact hs, fun e r a b d f hq => ?_⟩
  rw [e6] at hq
  rw [g _ (by omega)]
  exact hx.2 e r a b d f hq
theorem PQ_y (h : S0 T M) {W E : Int} (hq : PQ M W E) : yI M := by
  obtain ⟨q3, q4, q5, q6, q7, q8⟩ := hq
  exact y_n2 h.mk (by omega) (fun h9 => by omega) (fun _ => q4) q8
theorem sj_x (h : RR T M) (h3 : M 3 ≠ 1) : DX11_strangestJuror (gX11_now T) = some (iI (-1)) := by
  have t3 := h.2.2.1.2.2.2.1
  unfold DX11_strangestJuror
  rw [show gX0_state (gX11n_now (gX11_now T)) = iI (M 3) from h.1.1]
  simp only [lits, iI_neg]
  rw [if_eq (by omega) (by omega) (by omega) (by omega), if_neg h3]
theorem cl_x (h3 : M 3 = 0) : isClosableZ M = false := by
  unfold isClosableZ
  rw [decide_eq_false (by omega), Bool.false_and]
theorem begin_ok (h : S0 T M) {W E s : Int} (hq : PQ M W E) (hE : E ≤ 12) (hs : 0 ≤ s) (hs' : s < 2147483648) : ∃ T' N, DL_begin T (iI s) = some (iI (cn (fun e => decide (flawZ M e 0 = 0)) E.toNat), T') ∧ S0 T' N ∧ yI N ∧ N 0 = M 0 ∧ N 6 = E ∧ N 7 = cn (fun e => decide (flawZ M e 0 = 0)) E.toNat ∧ countInZ N = cn (fun e => decide (flawZ M e 0 = 0)) E.toNat ∧ N 3 = if cn (fun e => decide (flawZ M e 0 = 0)) E.toNat = 0 then 3 else 1 := by
  obtain ⟨q3, q4, q5, q6, q7, q8⟩ := id hq
  obtain ⟨hR, hT, hW, hIn, hTi, hk, hsl, hO, hN, hru, hba, hty, hml⟩ := h.mk.1
  have t6 := hT.2.2.2.2.2.1
  have hp := pre_11 h hs hs'
  have g : ∀ k : Int, k ≠ 11 → updI M 11 s k = M k := fun k p => updI_ne p
  have g6 := g 6 (by omega)
  have b := br_cnt (M := updI M 11 s) (by omega) (by omega) hp.2.2.2.2.2.2.1 0
  have b3 := br_3 (M := updI M 11 s) (by omega) 0
  rw [← br_7 (M := updI M 11 s) (by omega) 0] at b3
  have es : cn (selZ (updI M 11 s) 0) (updI M 11 s 6).toNat = cn (fun e => decide (flawZ M e 0 = 0)) E.toNat := by
    rw [g6, q6]
    refine cn_congr _ fun k hk => ?_
    unfold selZ
    rw [g _ (by omega), q7 k (by omega) (by omega), fl_c (M := M) (fun k hk => g k (by omega)) hW (by omega) (by omega) (by omega) (by omega)]
    rfl
  rw [es] at b
  obtain ⟨T', e1, e2⟩ := E_begin h hs hs' q3
  rw [b.1] at e1 b3
  refine ⟨T', _, e1, e2.st, y_br hp (by omega) (by omega) (fun r a b => ?_), ?_, ?_, b.1, b.2, b3⟩
  · rw [g _ (by unfold ruleZ; omega)]
    exact q8 r a b
  · rw [br_m (by omega) 0 (by omega), g 0 (by omega)]
  · rw [br_m (by omega) 0 (by omega), g6, q6]
theorem law_ok (h : AS T M V 0 L) (hq : PQ M 0 0) (h0 : M 0 = 5) (h1 : M 1 = 1) : LK (DL_law c T) := by
  have hS : S0 T M := ⟨V, 0, L, h⟩
  have hy := PQ_y hS hq
  obtain ⟨q3, q4, q5, q6, q7, q8⟩ := id hq
  have sd := and_nn ((c (iI 0)) >>> (iI 2 &&& iI 31))
  have sd' := and_hi ((c (iI 0)) >>> (iI 2 &&& iI 31))
  have es : ((c (iI 0)) >>> (iI 2 &&& iI 31)) &&& 2147483647 = iI (((c (iI 0)) >>> (iI 2 &&& iI 31)) &&& 2147483647).toInt := (iI_of _).symm
  unfold DL_law
  simp only [lits, iI_neg, refuses_ok hS, Option.bind_some, E_undo_x h, sound_ok hS.rr hy, E_close_s hS (cl_x q3), sj_x hS.rr (show M 3 ≠ 1 by omega), ne10, if_true, if_false, lws]
  rw [es]
  generalize (((c (iI 0)) >>> (iI 2 &&& iI 31)) &&& 2147483647).toInt = sd0 at *
  generalize (c (iI 0)) >>> (iI 3 &&& iI 31) = y3
  generalize (c (iI 0)) >>> (iI 7 &&& iI 31) = y7
  generalize (c (iI 0)) >>> (iI 10 &&& iI 31) = y10
  have b1 := lw_b (c (iI 0)) (n := 6) (by omega)
  have b2 := lw_b y3 (n := 9) (by omega)
  have b3 := lw_b y7 (n := 5) (by omega)
  have b4 := lw_b y10 (n := 4) (by omega)
  generalize lw (c (iI 0)) 6 = W0 at *
  generalize lw y3 9 = E0 at *
  generalize lw y7 5 = J0 at *
  generalize lw y10 4 = R0 at *
  refine LKjn (fun j4 _ => ?_)
  simp only [iI_add]
  rw [gd_nn (by omega) (by omega)]
  refine LKjn (fun j19 _ => ?_)
  refine law_works _ (n := 4 + W0) (a := 5) (b := 1) (by omega) _ _ (fun T1 M1 s1 p1 a1 a1' => ?_) (4 + W0).toNat _ T M 0 (by omega) (by omega) (by omega) hS hq h0 h1
  refine LKjn (fun j31 _ => ?_)
  refine law_entrants _ _ (n := 2 + E0) (W := 4 + W0) (a := 5) (b := 1) (by omega) _ _ (fun T2 M2 s2 p2 a2 a2' => ?_) (2 + E0).toNat _ T1 M1 0 (by omega) (by omega) (by omega) s1 p1 a1 a1'
  obtain ⟨T3, c1, c2⟩ := E_set s2 (w := 0) (v := 3 + J0) (by omega) (by unfold loS hiS; rw [if_pos rfl, if_pos rfl]; omega) (Or.inr p2.1)
  rw [a2] at c1
  have s3 := c2.st
  have g3 : ∀ k : Int, k ≠ 0 → updI M2 0 (3 + J0) k = M2 k := fun k p => updI_ne p
  obtain ⟨T4, d1, d2⟩ := E_set s3 (w := 1) (v := 1 + R0) (by omega) (by unfold loS hiS; rw [if_neg (by omega), if_pos rfl, if_neg (by omega), if_pos rfl]; omega) (Or.inr (by rw [g3 3 (by omega)]; exact p2.1))
  rw [g3 1 (by omega), a2'] at d1
  have s4 := d2.st
  have g4 : ∀ k : Int, k ≠ 0 → k ≠ 1 → updI (updI M2 0 (3 + J0)) 1 (1 + R0) k = M2 k := fun k p p' => by rw [updI_ne p', updI_ne p]
  have n0 : updI (updI M2 0 (3 + J0)) 1 (1 + R0) 0 = 3 + J0 := by rw [updI_ne (by omega), updI_self]
  generalize updI (updI M2 0 (3 + J0)) 1 (1 + R0) = M4 at *
  have p4 : PQ M4 (4 + W0) (2 + E0) := by
    obtain ⟨r3, r4, r5, r6, r7, r8⟩ := p2
    refine ⟨by rw [g4 3 (by omega) (by omega), r3], by rw [g4 4 (by omega) (by omega), r4], by rw [g4 5 (by omega) (by omega), r5], by rw [g4 6 (by omega) (by omega), r6], fun e u v => ?_, fun r u v => ?_⟩
    · rw [g4 _ (by omega) (by omega)]
      exact r7 e u v
    · rw [g4 _ (by unfold ruleZ; omega) (by unfold ruleZ; omega)]
      exact r8 r u v
  have i0 := E_info s4.rr (w := 0) (by omega) (by omega)
  rw [(inf M4).1, n0] at i0
  simp only [c1, Option.bind_some]
  refine LKjn (fun j46 _ => ?_)
  simp only [if_true, d1, Option.bind_some, i0]
  refine LKjn (fun j54 _ => ?_)
  refine law_tells _ _ (W := 4 + W0) (E := 2 + E0) (a0 := 3 + J0) (by omega) (by omega) (by omega) _ _ (fun T5 M5 s5 p5 a5 => ?_) (2 + E0).toNat _ T4 M4 0 (by omega) (by omega) (by omega) s4 p4 n0
  refine LKjn (fun j66 _ => ?_)
  refine law_rules _ _ _ (W := 4 + W0) (E := 2 + E0) (a0 := 3 + J0) _ _ (by omega) (fun T6 M6 s6 p6 a6 => ?_) 8 _ T5 M5 0 (by omega) (by omega) (by omega) s5 p5 a5
  have y6 := PQ_y s6 p6
  simp only [flaws_ok s6.rr y6, Option.bind_some]
  refine LKjn (fun j79 _ => ?_)
  simp only [ne10, if_false, sound_ok s6.rr y6, Option.bind_some]
  refine law_good _ _ (n := 2 + E0) (by omega) _ s6 p6.2.2.2.1 ?_ (2 + E0).toNat _ 0 (by omega) (by omega)
  obtain ⟨T7, M7, e1, s7, y7, m0, m6, m7, mc, m3⟩ := begin_ok s6 p6 (by omega) sd sd'
  have gb := cn_lo (fun e => decide (flawZ M6 e 0 = 0)) (2 + E0).toNat
  have gb' := cn_hi (fun e => decide (flawZ M6 e 0 = 0)) (2 + E0).toNat
  generalize cn (fun e => decide (flawZ M6 e 0 = 0)) (2 + E0).toNat = G at *
  have i8 := E_info s7.rr (w := 8) (by omega) (by omega)
  have i7 := E_info s7.rr (w := 7) (by omega) (by omega)
  have i3 := E_info s7.rr (w := 3) (by omega) (by omega)
  simp only [inf M7, m7, mc, m3] at i8 i7 i3
  simp only [e1, Option.bind_some]
  refine LKjn (fun j94 _ => ?_)
  simp only [if_true, i8, i7, i3, Option.bind_some]
  refine LKjn (fun j102 h102 => ?_)
  have fin : LK (j102 (iI (if G = 0 then 3 else 1))) := by
    rw [h102]
    dsimp only
    rw [if_pos rfl, sound_ok s7.rr y7, Option.bind_some, if_neg (by rw [ne10]; exact id)]
    refine LKjn (fun j106 _ => LKjn (fun j108 _ => LKjn (fun j110 _ => LKjn (fun j112 _ => LKjn (fun j114 _ => ?_)))))
    refine law_main (by omega) (by omega) _ _ _ _ _ _ _ (fun T8 M8 s8 => ?_) 40 _ T7 M7 0 (by omega) (by omega) (by omega) s7 y7 (by omega) m6
    simp only [refuses_ok s8, Option.bind_some]
    rfl
  rw [if_eq (by omega) (by omega) (by omega) (by omega)]
  by_cases q : G = 0
  · rw [if_pos q] at fin ⊢
    exact fin
  · rw [if_neg q] at fin ⊢
    exact fin
end LZ
