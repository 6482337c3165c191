/-! what holds in every state stays when the calls write -/
section YI
variable {M N X V : Int → Int} {T : SX11} {s : Int → Int} {p : Int}
theorem cn_sm {g : Int → Int} {q : Int → Bool} : ∀ n : Nat, (∀ k : Nat, k < n → g k = if q k = true then 1 else 0) → sm g n = cn q n := by
  intro n
  induction n with
  | zero => intro _; rfl
  | succ n ih => intro h; unfold sm cn; rw [ih (fun k hk => h k (by omega)), h n (by omega)]
theorem y_c (h : ∀ k : Int, (k = 3 ∨ k = 4 ∨ k = 6 ∨ k = 7 ∨ k = 9 ∨ (126 ≤ k ∧ k < 138) ∨ (462 ≤ k ∧ k < 474) ∨ (570 ≤ k ∧ k < 666)) → N k = M k) (h6 : 0 ≤ M 6 ∧ M 6 ≤ 12) (h7 : M 7 ≤ 12) (hr : ∀ r : Int, 0 ≤ r → r < 4 → N (ruleZ r 4) = 0 ∨ N (ruleZ r 4) = 1) (hy : yI M) : yI N := by
  obtain ⟨a1, a2, a3, a4, a5, a6⟩ := hy
  have e3 := h 3 (by omega)
  have e4 := h 4 (by omega)
  have e6 := h 6 (by omega)
  have e9 := h 9 (by omega)
  refine ⟨fun q e he he' => ?_, fun j e a b d f => ?_, fun e a b q => ?_, fun q => ?_, fun q => ?_, hr⟩
  · rw [plc_c (fun k hk => h k (by omega)) h7, h (126 + e) (by omega)]
    exact a1 (by omega) e he (by omega)
  · rw [h _ (by omega)]
    exact a2 j e a b d f
  · rw [h (126 + e) (by omega)]
    rw [h (654 + e) (by omega)] at q
    exact a3 e a b q
  · have et : tiedZ N = tiedZ M := by
      unfold tiedZ
      rw [e6]
      exact sm_congr _ fun k hk => h (654 + k) (by omega)
    rw [et, e9]
    exact a4 (by omega)
  · rw [e4]
    exact a5 (by omega)
theorem y_n2 (hMK : MK N) (h3 : N 3 ≠ 2) (ha : N 3 = 1 → ∀ e : Int, 0 ≤ e → e < N 6 → (plcZ N e ≠ -1 ↔ N (126 + e) = 1)) (h0 : N 3 = 0 → N 4 = 0) (hr : ∀ r : Int, 0 ≤ r → r < 4 → N (ruleZ r 4) = 0 ∨ N (ruleZ r 4) = 1) : yI N := by
  obtain ⟨hR, hT, hW, hIn, hTi, hk, hs, hO, hN, hru, hba, hty, hml⟩ := hMK.1
  have nt : ∀ e : Int, 0 ≤ e → e < 12 → N (654 + e) ≠ 1 := fun e a b q => h3 (hty.1 e a b q).1
  refine ⟨ha, fun j e a b d f => ?_, fun e a b q => absurd q (nt e a b), fun q => absurd q h3, h0, hr⟩
  rw [hty.2.1 j e a b d f (nt e d f)]
  omega
theorem bg_mem (r e : Int) : ∀ n : Nat, n ≤ 12 → ((∃ k : Int, 0 ≤ k ∧ k < bgZ M r n 7 ∧ bgZ M r n (462 + k) = e) ↔ (0 ≤ e ∧ e < n ∧ selZ M r e = true)) := by
  intro n
  induction n with
  | zero => intro _; exact ⟨fun ⟨k, a, b, _⟩ => absurd (show k < 0 from b) (by omega), fun ⟨a, b, _⟩ => by omega⟩
  | succ n ih =>
    intro hn
    have ih := ih (by omega)
    have h7 := bg_7 (M := M) r n
    rw [bgZ]
    by_cases q : selZ M r n = true
    · rw [if_pos q]
      have g7 : updI (updI (updI (bgZ M r n) (126 + n) 1) (462 + bgZ M r n 7) n) 7 (bgZ M r n 7 + 1) 7 = bgZ M r n 7 + 1 := updI_self _ _ _
      have gk : ∀ k : Int, 0 ≤ k → k < bgZ M r n 7 → updI (updI (updI (bgZ M r n) (126 + n) 1) (462 + bgZ M r n 7) n) 7 (bgZ M r n 7 + 1) (462 + k) = bgZ M r n (462 + k) := fun k h1 h2 => by rw [updI_ne (by omega), updI_ne (by omega), updI_ne (by omega)]
      have gl : updI (updI (updI (bgZ M r n) (126 + n) 1) (462 + bgZ M r n 7) n) 7 (bgZ M r n 7 + 1) (462 + bgZ M r n 7) = n := by rw [updI_ne (by omega), updI_self]
      rw [g7]
      constructor
      · rintro ⟨k, a, b, d⟩
        by_cases qk : k = bgZ M r n 7
        · rw [qk, gl] at d
          rw [← d]
          exact ⟨by omega, by omega, q⟩
        · rw [gk k a (by omega)] at d
          have := ih.mp ⟨k, a, by omega, d⟩
          exact ⟨this.1, by omega, this.2.2⟩
      · rintro ⟨a, b, d⟩
        by_cases qe : e = n
        · exact ⟨bgZ M r n 7, h7.1, by omega, by rw [gl, qe]⟩
        · obtain ⟨k, k1, k2, k3⟩ := ih.mpr ⟨a, by omega, d⟩
          exact ⟨k, k1, by omega, by rw [gk k k1 k2]; exact k3⟩
    · rw [if_neg q]
      have g7 : updI (bgZ M r n) (126 + n) 0 7 = bgZ M r n 7 := updI_ne (by omega)
      have gk : ∀ k : Int, 0 ≤ k → k < 12 → updI (bgZ M r n) (126 + n) 0 (462 + k) = bgZ M r n (462 + k) := fun k h1 h2 => updI_ne (by omega)
      rw [g7]
      constructor
      · rintro ⟨k, a, b, d⟩
        rw [gk k a (by omega)] at d
        have := ih.mp ⟨k, a, b, d⟩
        exact ⟨this.1, by omega, this.2.2⟩
      · rintro ⟨a, b, d⟩
        have qe : e ≠ n := fun h => q (by rw [← h]; exact d)
        obtain ⟨k, k1, k2, k3⟩ := ih.mpr ⟨a, by omega, d⟩
        exact ⟨k, k1, k2, by rw [gk k k1 (by omega)]; exact k3⟩
theorem drS_mem {i P e : Int} (h : 0 ≤ i) (h' : i < P) : (∃ k : Int, 0 ≤ k ∧ k < P ∧ drS M i (462 + k) = e) ↔ ∃ k : Int, 0 ≤ k ∧ k < P ∧ M (462 + k) = e := by
  have ho := do_b M h
  have g : ∀ k : Int, 0 ≤ k → k < P → drS M i (462 + k) = if k = doZ M i then M (462 + i) else if k = i then M (462 + doZ M i) else M (462 + k) := by
    intro k a b
    unfold drS
    by_cases q : k = doZ M i
    · rw [if_pos q, q, updI_self]
    · rw [if_neg q, updI_ne (by omega)]
      by_cases q2 : k = i
      · rw [if_pos q2, q2, updI_self]
      · rw [if_neg q2]
        by_cases q3 : 462 + k = 11
        · omega
        · rw [updI_ne (by omega), updI_ne q3]
  constructor
  · rintro ⟨k, a, b, d⟩
    rw [g k a b] at d
    by_cases q : k = doZ M i
    · rw [if_pos q] at d; exact ⟨i, h, h', d⟩
    · rw [if_neg q] at d
      by_cases q2 : k = i
      · rw [if_pos q2] at d; exact ⟨doZ M i, ho.1, by omega, d⟩
      · rw [if_neg q2] at d; exact ⟨k, a, b, d⟩
  · rintro ⟨k, a, b, d⟩
    by_cases q : k = i
    · exact ⟨doZ M i, ho.1, by omega, by rw [g _ ho.1 (by omega), if_pos rfl, ← q]; exact d⟩
    · by_cases q2 : k = doZ M i
      · refine ⟨i, h, h', ?_⟩
        rw [g i h h', if_neg (by omega), if_pos rfl, ← q2]; exact d
      · exact ⟨k, a, b, by rw [g k a b, if_neg q2, if_neg q]; exact d⟩
theorem dr_mem {P e : Int} : ∀ n : Nat, (n : Int) ≤ P - 1 ∨ n = 0 → ((∃ k : Int, 0 ≤ k ∧ k < P ∧ drZ M P n (462 + k) = e) ↔ ∃ k : Int, 0 ≤ k ∧ k < P ∧ M (462 + k) = e) := by
  intro n
  induction n with
  | zero => intro _; exact Iff.rfl
  | succ n ih =>
    intro hn
    rw [drZ, drS_mem (by omega) (by omega)]
    exact ih (by omega)
/-- who plays in a round that begins -/
theorem br_mem (h6 : 0 ≤ M 6) (h6' : M 6 ≤ 12) (r e : Int) : plcZ (brZ M r) e ≠ -1 ↔ (0 ≤ e ∧ e < M 6 ∧ selZ M r e = true) := by
  have b7 := bg_7 (M := M) r (M 6).toNat
  have g7 : br0 M r 7 = bgZ M r (M 6).toNat 7 := updI_ne (by decide)
  have gk : ∀ k : Int, 0 ≤ k → k < 12 → br0 M r (462 + k) = bgZ M r (M 6).toNat (462 + k) := fun k h1 h2 => updI_ne (by omega)
  rw [plc_iff, br_7 h6' r]
  have d := dr_mem (M := br0 M r) (P := br0 M r 7) (e := e) (br0 M r 7 - 1).toNat (by omega)
  have b := fun (_ : Unit) => bg_mem (M := M) r e (M 6).toNat (by omega)
  rw [g7] at d
  have d' : (∃ k : Int, 0 ≤ k ∧ k < bgZ M r (M 6).toNat 7 ∧ brZ M r (462 + k) = e) ↔ ∃ k : Int, 0 ≤ k ∧ k < bgZ M r (M 6).toNat 7 ∧ br0 M r (462 + k) = e := by
    unfold brZ
    rw [g7]
    exact d
  rw [d']
  clear d d'
  constructor
  · rintro ⟨k, a, q, f⟩
    rw [gk k a (by omega)] at f
    have := (b ()).mp ⟨k, a, q, f⟩
    exact ⟨this.1, by omega, this.2.2⟩
  · rintro ⟨a, q, f⟩
    obtain ⟨k, k1, k2, k3⟩ := (b ()).mpr ⟨a, by omega, f⟩
    exact ⟨k, k1, k2, by rw [gk k k1 (by omega)]; exact k3⟩
theorem bg_cnt (r : Int) : ∀ n : Nat, bgZ M r n 7 = cn (selZ M r) n := by
  intro n
  induction n with
  | zero =>
    show m0Z M r 7 = 0
    exact (m0_at r 7).2.1 (by omega)
  | succ n ih =>
    have h7 := bg_7 (M := M) r n
    rw [bgZ, cn]
    by_cases q : selZ M r n = true
    · rw [if_pos q, if_pos q, updI_self, ih]
    · rw [if_neg q, if_neg q, updI_ne (by omega), ih, Int.add_zero]
/-- how many play in a round that begins, how many are in -/
theorem br_cnt (h6 : 0 ≤ M 6) (h6' : M 6 ≤ 12) (hI : inI M) (r : Int) : brZ M r 7 = cn (selZ M r) (M 6).toNat ∧ countInZ (brZ M r) = cn (selZ M r) (M 6).toNat := by
  refine ⟨by rw [br_7 h6' r, bg_cnt], ?_⟩
  unfold countInZ
  rw [show brZ M r 6 = M 6 from br_m h6' r (by omega)]
  exact cn_sm _ fun k hk => by rw [br_in h6 h6' hI r (by omega) (by omega), if_pos (by omega)]
theorem y_br (hp : preI M) {r : Int} (hr : 0 ≤ r) (hr' : r < 4) (hru : ∀ r : Int, 0 ≤ r → r < 4 → M (ruleZ r 4) = 0 ∨ M (ruleZ r 4) = 1) : yI (brZ M r) := by
  obtain ⟨p1, p2, p3, p4, p6, p7, p8, p9, p10, p11, p12⟩ := id hp
  have e3 := br_3 p6.2 r
  have e6 : brZ M r 6 = M 6 := br_m p6.2 r (by omega)
  refine y_n2 (br_MK hp hr hr') ?_ (fun q e he he' => ?_) (fun q => ?_) (fun r1 a b => ?_)
  · rw [e3]; split <;> omega
  · rw [e6] at he'
    rw [br_mem p6.1 p6.2, br_in p6.1 p6.2 p8 r he (by omega), if_pos he']
    constructor
    · rintro ⟨-, -, q9⟩
      rw [if_pos q9]
    · intro q9
      refine ⟨he, he', ?_⟩
      by_cases q8 : selZ M r e = true
      · exact q8
      · rw [if_neg q8] at q9; omega
  · rw [e3] at q
    split at q <;> omega
  · rw [br_m p6.2 r (by unfold ruleZ; omega)]
    exact hru r1 a b
theorem y_se (hMK : MK X) (hz : nz X) (hp : 1 ≤ p) (hp' : p ≤ 12) (hs : sbI s) (hpl : ∀ e : Int, 0 ≤ e → e < 12 → s e ≠ -1 → plcZ X e ≠ -1) (hin : ∀ e : Int, 0 ≤ e → e < 12 → s e ≠ -1 → X (126 + e) = 1) (hru : ∀ r : Int, 0 ≤ r → r < 4 → X (ruleZ r 4) = 0 ∨ X (ruleZ r 4) = 1) : yI (seZ X s p) := by
  have t := hMK.1.2.1
  have hO := hMK.1.2.2.2.2.2.2.2.1
  have ty := hMK.1.2.2.2.2.2.2.2.2.2.2.2.1
  obtain ⟨t0, t1, t2, t3, t4, t6, t7, t8⟩ := id t
  have hse := se_ok hMK hz (show X 10 < 3 ∨ X 10 = 3 by have := ty.2.2.2.2.2.1; omega) hp hp' hs hpl
  have hsx : ∀ e : Int, 0 ≤ e → e < 12 → ftZ s p e = 1 → e < X 6 := fun e a b h9 => (plc_in t hO (hpl e a b (ft_n (s := s) (p := p) (e := e) (by omega)))).2
  unfold seZ at hse ⊢
  by_cases q : tieZ s p = true ∧ X 10 ≠ 3
  · rw [if_pos q] at hse ⊢
    obtain ⟨g1, g2, g3, g4, g5, g6, g7, g8⟩ := tiN_at (X := X) hMK (finZ X (ftZ s p) (p - thZ s p) false) (n := X 10 + 1) (l := p - abZ s p) (ft := ftZ s p) hsx
    obtain ⟨hpp, gB, b9, b10, bm, bt, bi⟩ := B_pre hMK (finZ X (ftZ s p) (p - thZ s p) false)
    have hsb : ∀ e : Nat, e < 12 → -1 ≤ s e := fun e he => (hs e he).1
    have fc := ft_cnt (s := s) (p := p) hp hsb
    have e6 := g1 6 (by omega)
    generalize tiN (ctZ (ioZ X (finZ X (ftZ s p) (p - thZ s p) false) (X 7))) (X 10 + 1) (p - abZ s p) (ftZ s p) = N at *
    refine ⟨fun h => by omega, fun j e a b d f => by rw [g3 _ (by omega) (by omega)]; omega, fun e a b h9 => ?_, fun _ => ?_, fun h => by omega, fun r a b => ?_⟩
    · rw [g4 e a b] at h9
      have hf : ftZ s p e = 1 := by
        by_cases q9 : ftZ s p e = 1
        · exact q9
        · rw [if_neg q9] at h9; omega
      rw [g2 _ (by omega) (by omega), bi e a b, if_neg]
      · exact hin e a b (ft_n (s := s) (p := p) (e := e) (by omega))
      · rintro ⟨-, h8⟩
        rw [fin_f] at h8
        have := of_decide_eq_true h8
        omega
    · rw [g7]
      have ec : tiedZ N = cn (fun e => decide (ftZ s p e = 1)) 12 := by
        unfold tiedZ
        rw [e6]
        have e12 : 12 = (X 6).toNat + (12 - (X 6).toNat) := by omega
        rw [e12, cn_tail _ (fun k a b => by
          refine decide_eq_false fun h9 => ?_
          have := hsx k (by omega) (by omega) h9
          omega)]
        refine cn_sm _ fun k hk => ?_
        show N (654 + (k : Int)) = _
        rw [g4 k (by omega) (by omega)]
        by_cases q9 : ftZ s p k = 1
        · rw [if_pos q9, if_pos (decide_eq_true q9)]
        · rw [if_neg q9, if_neg (by rw [decide_eq_false q9]; decide)]
      rw [ec, fc.2.1, if_pos q.1]
      have := of_decide_eq_true q.1
      omega
    · rw [g1 _ (by unfold ruleZ; omega)]
      exact hru r a b
  · rw [if_neg q] at hse ⊢
    generalize finZ X (ftZ s p) (p - thZ s p) (decide (X 10 = 3)) = fin at *
    obtain ⟨hpp, gB, b9, b10, bm, bt, bi⟩ := B_pre hMK fin
    have hru' : ∀ r : Int, 0 ≤ r → r < 4 → ctZ (ioZ X fin (X 7)) (ruleZ r 4) = 0 ∨ ctZ (ioZ X fin (X 7)) (ruleZ r 4) = 1 := fun r a b => by
      rw [gB _ (by unfold ruleZ; omega)]
      exact hru r a b
    unfold goZ at hse ⊢
    by_cases q1 : X 4 + 1 < X 1
    · rw [if_pos q1]
      exact y_br hpp (by omega) (by omega) hru'
    · rw [if_neg q1] at hse ⊢
      have v3 : updI (ctZ (ioZ X fin (X 7))) 3 3 3 = 3 := updI_self _ _ _
      refine y_n2 hse.2 (by omega) (fun h => by omega) (fun h => by omega) (fun r a b => ?_)
      rw [u_ne (by unfold ruleZ; omega)]
      exact hru' r a b
theorem y_cl (h : S0 T M) (hy : yI M) (hc : isClosableZ M = true) : yI (clN M) := by
  have hMK := h.mk
  have hz := h.nz
  obtain ⟨hR, hT, hW, hIn, hTi, hk, hs, hO, hN, hru, hba, hty, hml⟩ := id hMK.1
  obtain ⟨t0, t1, t2, t3, t4, t6, t7, t8⟩ := id hT
  have t12 : M 7 ≤ 12 := by omega
  have h3 : M 3 = 1 ∨ M 3 = 2 := by
    have := hc
    unfold isClosableZ at this
    rw [Bool.and_eq_true] at this
    exact of_decide_eq_true this.1
  unfold clN
  by_cases q3 : M 3 = 1
  · rw [if_pos q3]
    have hru' := hru (M 4) (by omega) (by omega)
    obtain ⟨xMK, xz⟩ := cls_MK hMK hz
    have g : ∀ k : Int, ¬ (666 ≤ k ∧ k < 666 + 4 * M 6) → clsZ M (M 6) k = M k := fun k hk => cls_fr hk
    have hpm : ∀ e : Int, sR M e ≠ -1 → plcZ M e ≠ -1 := fun e h9 h8 => h9 (if_pos h8)
    refine y_se xMK xz hru'.1 hru'.2 (sR_b hMK.1) (fun e a b h9 => ?_) (fun e a b h9 => ?_) (fun r a b => ?_)
    · rw [plc_c (M := M) (N := clsZ M (M 6)) (fun k hk => g k (by omega)) t12]
      exact hpm e h9
    · rw [g _ (by omega)]
      have i := plc_in hT hO (hpm e h9)
      exact (hy.1 q3 e i.1 i.2).mp (hpm e h9)
    · rw [g _ (by unfold ruleZ; omega)]
      exact hy.2.2.2.2.2 r a b
  · rw [if_neg q3]
    have q2 : M 3 = 2 := by omega
    have hsT : ∀ e : Int, sT M e ≠ -1 → M (654 + e) = 1 := fun e h9 => Classical.byContradiction fun h8 => h9 (if_neg h8)
    exact y_se hMK hz (hty.2.2.2.1 q2).1 hty.2.2.2.2.1.2 (sT_b hMK.1) (fun e a b h9 => (hty.1 e a b (hsT e h9)).2) (fun e a b h9 => hy.2.2.1 e a b (hsT e h9)) hy.2.2.2.2.2
theorem y_wd (h : S0 T M) (hy : yI M) {e : Int} (he : 0 ≤ e) (he' : e < M 6) (hw : mwZ M e) : yI (wdZ M e) := by
  have hMK := h.mk
  obtain ⟨V, c, L, S, hG, hL⟩ := h
  obtain ⟨n1, n2, n3, n4, n5, n6, n7, n8⟩ := G_wd hG he he' hw
  obtain ⟨hR, hT, hW, hIn, hTi, hk, hs, hO, hN, hru, hba, hty, hml⟩ := id hMK.1
  obtain ⟨t0, t1, t2, t3, t4, t6, t7, t8⟩ := id hT
  have t12 : M 7 ≤ 12 := by omega
  have hru' : ∀ r : Int, 0 ≤ r → r < 4 → wdZ M e (ruleZ r 4) = 0 ∨ wdZ M e (ruleZ r 4) = 1 := fun r a b => by
    rw [n5 _ (by unfold ruleZ; omega)]
    exact hy.2.2.2.2.2 r a b
  by_cases q : plcZ M e = -1
  · have g := n7 q
    have g3 := g 3 (by omega)
    have g4 := g 4 (by omega)
    have z3 : M 3 ≠ 1 := fun q3 => ((hy.1 q3 e he he').mpr hw.1) q
    have z2 := hw.2.1
    refine y_n2 n2 (by omega) (fun h9 => by omega) (fun h9 => ?_) hru'
    rw [g4]
    exact hy.2.2.2.2.1 (by omega)
  · obtain ⟨m1, m2, m3, m4, m5, m6⟩ := n8 q
    have g6 := n5 6 (by omega)
    have g4 := n5 4 (by omega)
    have pe : M (462 + plcZ M e) = e := plc_at q
    have pb := plcZ_b M e t12
    have v3 : wdZ M e 3 = 3 ∨ wdZ M e 3 = 1 := by
      rw [m2]
      split <;> omega
    refine y_n2 n2 (by omega) (fun h9 d hd hd' => ?_) (fun h9 => by omega) hru'
    rw [g6] at hd'
    have old := hy.1 m3 d hd hd'
    rw [plc_iff] at old
    rw [plc_iff, m1]
    have ev : wdZ M e (126 + d) = if d = e then 0 else M (126 + d) := by
      by_cases qd : d = e
      · rw [if_pos qd, qd]; exact n6
      · rw [if_neg qd]; exact n5 _ (by omega)
    rw [ev]
    by_cases qd : d = e
    · rw [if_pos qd]
      constructor
      · rintro ⟨k, a, b, f⟩
        exfalso
        rw [m6 k a (by omega)] at f
        by_cases q5 : plcZ M e ≤ k ∧ k < M 7 - 1
        · rw [if_pos q5] at f
          exact hO.2 (plcZ M e) (k + 1) (by omega) (by omega) (by omega) (by rw [show 462 + (k + 1) = 462 + k + 1 by omega, f, pe, qd])
        · rw [if_neg q5] at f
          exact hO.2 k (plcZ M e) a (by omega) (by omega) (by rw [f, pe, qd])
      · intro h8; omega
    · rw [if_neg qd, ← old]
      constructor
      · rintro ⟨k, a, b, f⟩
        rw [m6 k a (by omega)] at f
        by_cases q5 : plcZ M e ≤ k ∧ k < M 7 - 1
        · rw [if_pos q5] at f
          exact ⟨k + 1, by omega, by omega, by rw [show 462 + (k + 1) = 462 + k + 1 by omega]; exact f⟩
        · rw [if_neg q5] at f
          exact ⟨k, a, by omega, f⟩
      · rintro ⟨k, a, b, f⟩
        by_cases q5 : k < plcZ M e
        · refine ⟨k, a, by omega, ?_⟩
          rw [m6 k a (by omega), if_neg (by omega)]
          exact f
        · have q6 : k ≠ plcZ M e := fun h8 => qd (by rw [← f, h8, pe])
          refine ⟨k - 1, by omega, by omega, ?_⟩
          rw [m6 (k - 1) (by omega) (by omega), if_pos (by omega), show 462 + (k - 1) + 1 = 462 + k by omega]
          exact f
theorem y_mark (hMK : MK M) (hy : yI M) {j e v : Int} (hj : 0 ≤ j) (hj' : j < 7) (he : 0 ≤ e) (he' : e < 12) (hv : M 3 = 2 → v ≤ 10) : yI (updI M (opZ M + (12 * j + e)) v) := by
  obtain ⟨hR, hT, hW, hIn, hTi, hk, hs, hO, hN, hru, hba, hty, hml⟩ := id hMK.1
  obtain ⟨t0, t1, t2, t3, t4, t6, t7, t8⟩ := id hT
  by_cases q : M 3 = 2
  · have eo : opZ M = 570 := if_pos q
    rw [eo]
    have g : ∀ k : Int, k ≠ 570 + (12 * j + e) → updI M (570 + (12 * j + e)) v k = M k := fun k hk => u_ne hk
    have gi : updI M (570 + (12 * j + e)) v (570 + (12 * j + e)) = v := updI_self _ _ _
    generalize updI M (570 + (12 * j + e)) v = N at *
    obtain ⟨a1, a2, a3, a4, a5, a6⟩ := hy
    have e3 := g 3 (by omega)
    refine ⟨fun h => by omega, fun j1 e1 a b d f => ?_, fun e1 a b h => ?_, fun _ => ?_, fun h => by omega, fun r a b => ?_⟩
    · by_cases q1 : 570 + (12 * j1 + e1) = 570 + (12 * j + e)
      · rw [q1, gi]; exact hv q
      · rw [g _ q1]; exact a2 j1 e1 a b d f
    · rw [g _ (by omega)] at h ⊢
      exact a3 e1 a b h
    · have et : tiedZ N = tiedZ M := by
        unfold tiedZ
        rw [g 6 (by omega)]
        exact sm_congr _ fun k hk => g (654 + k) (by omega)
      rw [et, g 9 (by omega)]
      exact a4 q
    · rw [g _ (by unfold ruleZ; omega)]
      exact a6 r a b
  · have eo : opZ M = 486 := if_neg q
    rw [eo]
    exact y_c (fun k hk => u_ne (by omega)) ⟨by omega, by omega⟩ (by omega) (fun r a b => by rw [u_ne (by unfold ruleZ; omega)]; exact hy.2.2.2.2.2 r a b) hy
end YI
