section LP
variable {M N V : Int → Int} {T : SX11} {c : Int32 → Int32}
theorem y_fr (h : S0 T M) (hy : yI M) {z v : Int} (hz : z = 2 ∨ z = 8 ∨ (378 ≤ z ∧ z < 462) ∨ (474 ≤ z ∧ z < 570)) : yI (updI M z v) := by
  have t6 := h.mk.1.2.1.2.2.2.2.2.1
  have t7 := h.mk.1.2.1.2.2.2.2.2.2.1
  refine y_c (M := M) (fun k hk => updI_ne (by omega)) t6 (by omega) (fun r a b => ?_) hy
  rw [updI_ne (by unfold ruleZ; omega)]
  exact hy.2.2.2.2.2 r a b
theorem bar_ok (h : S0 T M) (hy : yI M) {j e : Int} (β : Bool) (hj : 0 ≤ j ∧ j < M 0) (he : 0 ≤ e ∧ e < M 6) : ∃ T' N, DL_bar T (iI j) (iI e) (bI β) = some (bI (isBarredZ M j e), T') ∧ S0 T' N ∧ yI N ∧ N 0 = M 0 ∧ N 6 = M 6 ∧ isBarredZ N j e = β := by
  obtain ⟨t0, t1, t2, t3, t4, t6, t7, t8⟩ := id h.mk.1.2.1
  obtain ⟨T', e1, e2⟩ := E_bar h β hj he
  refine ⟨T', _, e1, e2.st, y_fr h hy (by omega), updI_ne (by omega), updI_ne (by omega), ?_⟩
  unfold isBarredZ
  rw [updI_self]
  cases β <;> rfl
theorem play_ok (h : S0 T M) (hy : yI M) (h3 : M 3 = 1) (h8 : M 8 < M 7) {s : Int} (hs : 0 ≤ s ∧ s ≤ 20) : ∃ T' N, DL_play T (iI s) = some (iI (M (462 + M 8)), T') ∧ S0 T' N ∧ yI N ∧ N 0 = M 0 ∧ N 6 = M 6 ∧ DL_entrant T' (iI (M (462 + M 8))) (iI 2) = some (iI s) ∧ ∃ (a : Bool) (b : Int), DL_entrant T' (iI (M (462 + M 8))) (iI 5) = some (iI (if a = true then 1 else 0)) ∧ DL_entrant T' (iI (M (462 + M 8))) (iI 3) = some (iI b) ∧ 0 ≤ b ∧ b ≤ 7 ∧ (a = true → b ≠ 0) := by
  obtain ⟨hR, hT, hW, hIn, hTi, hk, hs', hO, hN, hru, hba, hty, hml⟩ := id h.mk.1
  obtain ⟨t0, t1, t2, t3, t4, t6, t7, t8⟩ := id hT
  obtain ⟨T', e1, e2⟩ := E_play h hs h3 h8
  have st := e2.st
  have oe := hO.1 (M 8) (by omega) h8
  generalize he : M (462 + M 8) = e at *
  have fr : ∀ k : Int, k ≠ 474 + e → k ≠ 8 → updI (updI M (474 + e) s) 8 (M 8 + 1) k = M k := fun k h1 h2 => by rw [updI_ne h2, updI_ne h1]
  have n8 : updI (updI M (474 + e) s) 8 (M 8 + 1) 8 = M 8 + 1 := updI_self _ _ _
  have ns : updI (updI M (474 + e) s) 8 (M 8 + 1) (474 + e) = s := by rw [updI_ne (by omega), updI_self]
  have hyN : yI (updI (updI M (474 + e) s) 8 (M 8 + 1)) := by
    refine y_c (M := M) (fun k hk => fr k (by omega) (by omega)) t6 (by omega) (fun r a b => ?_) hy
    rw [fr _ (by unfold ruleZ; omega) (by unfold ruleZ; omega)]
    exact hy.2.2.2.2.2 r a b
  generalize updI (updI M (474 + e) s) 8 (M 8 + 1) = N at *
  have m0 := fr 0 (by omega) (by omega)
  have m6 := fr 6 (by omega) (by omega)
  have m7 := fr 7 (by omega) (by omega)
  have m3 := fr 3 (by omega) (by omega)
  have pl : plcZ N e = M 8 := by
    unfold plcZ
    have := fst_ext (p := fun k => decide (N (462 + k) = e)) (j := (M 8).toNat) (decide_eq_true (by rw [show (((M 8).toNat : Nat) : Int) = M 8 by omega, fr _ (by omega) (by omega)]; exact he)) (fun k hk => decide_eq_false (by rw [fr _ (by omega) (by omega), ← he]; exact hO.2 k (M 8) (by omega) (by omega) h8)) (N 7).toNat (by omega)
    omega
  have hp : hpZ N e = true := hp_plc.mpr (by omega)
  have i2 := E_entrant st.rr (e := e) (w := 2) (by omega) (by omega) (by omega) (by omega)
  have i5 := E_entrant st.rr (e := e) (w := 5) (by omega) (by omega) (by omega) (by omega)
  have i3 := E_entrant st.rr (e := e) (w := 3) (by omega) (by omega) (by omega) (by omega)
  rw [(ofE N e).2.2.1, if_pos hp, ns] at i2
  rw [(ofE N e).2.2.2.2.2.1] at i5
  rw [(ofE N e).2.2.2.1, if_neg (show ¬ N 3 = 2 by omega)] at i3
  have cb := cntZ_b N 486 e (by omega)
  refine ⟨T', N, e1, st, hyN, m0, m6, i2, isCompleteZ N e, countingZ N 486 e, i5, i3, cb.1, cb.2, fun hc => ?_⟩
  unfold isCompleteZ isMarkedZ at hc
  rw [Bool.and_eq_true, Bool.and_eq_true] at hc
  have := of_decide_eq_true hc.2.1
  omega
theorem sm_dec {g k : Int → Int} {e : Nat} (h1 : g e = k e - 1) : ∀ n : Nat, e < n → (∀ i : Nat, i < n → i ≠ e → g i = k i) → sm g n = sm k n - 1 := by
  intro n
  induction n with
  | zero => intro h; omega
  | succ n ih =>
    intro hn h
    rw [sm, sm]
    by_cases q : e = n
    · subst q
      rw [sm_congr (g := g) (k := k) e (fun i hi => h i (by omega) (by omega)), h1]
      omega
    · rw [ih (by omega) (fun i hi hne => h i (by omega) hne), h n (by omega) (by omega)]
      omega
theorem wd_ok (h : S0 T M) (hy : yI M) {e : Int} (he : 0 ≤ e) (he' : e < M 6) (hw : mwZ M e) : ∃ T' N, DL_withdraw T (iI e) = some (iI (countInZ M - 1), T') ∧ S0 T' N ∧ yI N ∧ N 0 = M 0 ∧ N 6 = M 6 ∧ N (126 + e) = 0 ∧ plcZ N e = -1 := by
  obtain ⟨hR, hT, hW, hIn, hTi, hk, hs', hO, hN, hru, hba, hty, hml⟩ := id h.mk.1
  obtain ⟨t0, t1, t2, t3, t4, t6, t7, t8⟩ := id hT
  have yw := y_wd h hy he he' hw
  obtain ⟨T', e1, e2⟩ := E_withdraw h ⟨he, he'⟩ hw
  have st := e2.st
  obtain ⟨V, c, L, S, hG, hL⟩ := id h
  obtain ⟨n1, n2, n3, n4, n5, n6, n7, n8⟩ := G_wd hG he he' hw
  have g6 := n5 6 (by omega)
  have hc : countInZ (wdZ M e) = countInZ M - 1 := by
    unfold countInZ
    rw [g6]
    have en : ((e.toNat : Nat) : Int) = e := by omega
    refine sm_dec (e := e.toNat) ?_ _ (by omega) (fun i hi hne => n5 _ (by omega))
    show wdZ M e (126 + (e.toNat : Int)) = M (126 + (e.toNat : Int)) - 1
    rw [en, n6, hw.1]
    omega
  rw [hc] at e1
  refine ⟨T', wdZ M e, e1, st, yw, n5 0 (by omega), g6, n6, ?_⟩
  refine Classical.byContradiction fun q => ?_
  by_cases q3 : wdZ M e 3 = 1
  · have := (yw.1 q3 e he (by omega)).mp q
    omega
  · obtain ⟨k, k1, k2, k3⟩ := plc_iff.mp q
    by_cases p : plcZ M e = -1
    · have g := n7 p
      obtain ⟨hR2, hT2, hW2, hIn2, hTi2, hk2, hs2, hO2, hN2, hru2, hba2, hty2, hml2⟩ := id n2.1
      have z3 : M 3 ≠ 1 := fun q4 => ((hy.1 q4 e he he').mpr hw.1) p
      have z2 := hw.2.1
      have := hty2.2.2.2.2.2.2.1 (by rw [g 3 (by omega)]; omega)
      omega
    · obtain ⟨m1, m2, m3, m4, m5, m6⟩ := n8 p
      rw [m2] at q3
      split at q3 <;> omega
end LP
