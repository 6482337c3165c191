section WH
variable {M N V : Int → Int} {T : SX11} {S : SX12} {C : SX0} {c : Int}
/-- the last found, from 100 down -/
def dnZ (p : Int → Bool) : Nat → Int
  | 0 => -1
  | n + 1 => if p (100 - n) = true then 100 - n else dnZ p n
theorem dn_ok (p : Int → Bool) : ∀ n : Nat, n ≤ 101 → (dnZ p n = -1 ∧ ∀ k : Int, 101 - n ≤ k → k ≤ 100 → p k = false) ∨ (101 - n ≤ dnZ p n ∧ dnZ p n ≤ 100 ∧ p (dnZ p n) = true ∧ ∀ k : Int, 101 - n ≤ k → k < dnZ p n → p k = false) := by
  intro n
  induction n with
  | zero => intro _; left; exact ⟨rfl, fun k a b => by omega⟩
  | succ n ih =>
    intro hn
    have i := ih (by omega)
    rw [dnZ]
    cases q : p (100 - n) with
    | true =>
      right
      rw [if_pos rfl]
      exact ⟨by omega, by omega, q, fun k a b => by omega⟩
    | false =>
      rw [if_neg (by decide)]
      rcases i with ⟨i1, i2⟩ | ⟨i1, i2, i3, i4⟩
      · left
        refine ⟨i1, fun k a b => ?_⟩
        by_cases q1 : k = 100 - n
        · rw [q1]; exact q
        · exact i2 k (by omega) b
      · right
        refine ⟨by omega, i2, i3, fun k a b => ?_⟩
        by_cases q1 : k = 100 - n
        · rw [q1]; exact q
        · exact i4 k (by omega) b
theorem dn_fst (p : Int → Bool) : dnZ p 101 = fst p 101 := by
  rcases dn_ok p 101 (by omega) with ⟨i1, i2⟩ | ⟨i1, i2, i3, i4⟩
  · rw [i1]
    exact ((fst_none 101).mpr fun k hk => i2 k (by omega) (by omega)).symm
  · obtain ⟨n, hn⟩ : ∃ n : Nat, dnZ p 101 = n := ⟨(dnZ p 101).toNat, by omega⟩
    rw [hn] at i3 i4 ⊢
    exact (fst_ext i3 (fun k hk => i4 k (by omega) (by omega)) 101 (by omega)).symm
theorem sc_upd (hT : stI M) {j e v : Int} (hj : 0 ≤ j) (hj' : j < 7) (he : 0 ≤ e) (he' : e < 12) (hv : 0 ≤ v) (hb : isBarredZ M j e = false) (hp : hpZ M e = true) : scoreZ (updI M (486 + (12 * j + e)) v) e = scW M j e v := by
  obtain ⟨t0, t1, t2, t3, t4, t6, t7, t8⟩ := hT
  have t12 : M 7 ≤ 12 := by omega
  have em : meanZ (emZ (updI M (486 + (12 * j + e)) v) 486 e (-1)) (M 0).toNat = meanZ (emC M 486 e j v) (M 0).toNat := by
    refine meanZ_congr fun k hk => ?_
    have eb : isBarredZ (updI M (486 + (12 * j + e)) v) k e = isBarredZ M k e := by
      unfold isBarredZ
      rw [updI_ne (by omega)]
    unfold emZ emC countsZ
    rw [if_neg (show ¬ (k : Int) = -1 by omega), eb]
    by_cases q : (k : Int) = j
    · rw [q, updI_self, hb, if_pos (by rw [decide_eq_true hv]; rfl), if_neg (by decide), if_pos rfl]
      exact Or.inl rfl
    · rw [updI_ne (by omega), if_neg q]
      cases hb2 : isBarredZ M k e with
      | true => rw [Bool.not_true, Bool.and_false, if_neg (by decide), if_pos rfl]; exact Or.inl rfl
      | false =>
        rw [if_neg (show ¬ false = true by decide), Bool.not_false, Bool.and_true]
        by_cases q2 : 0 ≤ M (486 + (12 * (k : Int) + e))
        · rw [decide_eq_true q2, if_pos rfl]; exact Or.inl rfl
        · rw [decide_eq_false q2, if_neg (by decide)]; right; omega
  have hp2 : hpZ (updI M (486 + (12 * j + e)) v) e = true := by
    rw [hp_c (M := M) (N := updI M (486 + (12 * j + e)) v) (fun k hk => u_ne (by omega)) t12]; exact hp
  unfold scoreZ scW
  rw [show updI M (486 + (12 * j + e)) v 0 = M 0 from u_ne (by omega), show updI M (486 + (12 * j + e)) v 2 = M 2 from u_ne (by omega), show updI M (486 + (12 * j + e)) v (474 + e) = M (474 + e) from u_ne (by omega), em, hp2, hp]
  by_cases q : meanZ (emC M 486 e j v) (M 0).toNat = -1
  · rw [if_pos (Or.inl q), if_pos q]
  · rw [if_neg (show ¬ (meanZ (emC M 486 e j v) (M 0).toNat = -1 ∨ true = false) by intro h; rcases h with h | h; exact q h; cases h), if_neg q, if_pos rfl]
theorem upd_upd (M : Int → Int) (z a b : Int) : updI (updI M z a) z b = updI M z b := by
  funext k
  unfold updI
  by_cases q : k = z
  · rw [if_pos q, if_pos q]
  · rw [if_neg q, if_neg q, if_neg q]
theorem upd_own (M : Int → Int) (z : Int) : updI M z (M z) = M := by
  funext k
  unfold updI
  by_cases q : k = z
  · rw [if_pos q, q]
  · rw [if_neg q]
theorem scW_b (hI : MI M) {j e v : Int} (he : 0 ≤ e) (he' : e < 12) (hv' : v ≤ 100) : -1 ≤ scW M j e v ∧ scW M j e v ≤ 700000 := by
  obtain ⟨hR, hT, hW, hIn, hTi, hk, hs, -⟩ := hI
  have t0 := hT.1
  have t2 := hT.2.2.1
  have b2 := meanZ_hi (emC_hi (M := M) (row := 486) (e := e) (w := j) (v := v) (fun j h1 h2 => (hk j e h1 h2 he he').1) t0.2 hv')
  have hsl : 0 ≤ (if hpZ M e = true then M (474 + e) else 0) := by
    split
    · next q => exact (hs e he he' q).1
    · omega
  have p1 : 0 ≤ 10 * M 2 * (if hpZ M e = true then M (474 + e) else 0) := Int.mul_nonneg (by omega) hsl
  unfold scW
  generalize (if hpZ M e = true then M (474 + e) else 0) = sl at *
  split
  · omega
  · split <;> omega
theorem K_neededMark (h : GG T S) {j e s : Int} (hj : -2147483648 ≤ j) (hj' : j < 2147483648) (he : -2147483648 ≤ e) (he' : e < 2147483648) (hs1 : -2147483648 ≤ s) (hs2 : s < 2147483648) : AnsR [1, 2, 3] T (DX11_neededMark (gX11_now T) (iI j) (iI e) (iI s)) (DX12_neededMark S (iI j) (iI e) (iI s)) := by
  obtain ⟨M, V, c, h⟩ := h
  have h' := h
  obtain ⟨gm, gv, gc, hz, hMK, hC, hK, hX⟩ := h
  have hMK' := hMK
  have hC' := hC
  obtain ⟨hMI, hx⟩ := hMK
  have hMI' := hMI
  obtain ⟨hR, hT, hW, hIn, hTi, hk, hs, hO, hN, hru, hba, hty, hml⟩ := hMI
  obtain ⟨c3, c4, c1, c2, cw, ce, cr, cp, cj, cs, ch, ct, cc⟩ := hC
  have hT' := hT
  obtain ⟨t0, t1, t2, t3, t4, t6, t7, t8⟩ := hT
  have h5 := hW.1
  have t12 : M 7 ≤ 12 := by omega
  obtain ⟨K', k1, k2⟩ := C_keep hK hC' hMK' hz
  have ec : DX11_neededMark (gX11_now T) (iI j) (iI e) (iI s) = if (0 ≤ j ∧ j < M 0) ∧ (0 ≤ e ∧ e < M 6) then if 0 ≤ s ∧ s ≤ 100000 then if M 3 = 1 then if hpZ M e = true then if isBarredZ M j e = true then some (Sum.inl 3) else some (Sum.inr (iI (fst (fun v => decide (s ≤ scW M j e v)) 101))) else some (Sum.inl 3) else some (Sum.inl 3) else some (Sum.inl 2) else some (Sum.inl 1) := by
    unfold DX11_neededMark
    rw [C_reqJE hC' hMI' hj hj' he he', tx_p, show gX11n_now (gX11_now T) = gX11_now T from rfl, c3]
    simp only [iI_lit, iI_neg, jn_eq]
    rw [C_between hs1 hs2 (by omega) (by omega) (by omega) (by omega)]
    simp only [Option.bind_some, C_reqA, tx_d, reqS0, reqS1, tx_l, tx_r]
    by_cases q : (0 ≤ j ∧ j < M 0) ∧ (0 ≤ e ∧ e < M 6)
    · rw [if_pos q, if_pos q, C_hasPlayed cs hs hR (by omega) (by omega), C_isBarred cj hR (by omega) (by omega) (by omega) (by omega)]
      simp only [Option.bind_some, if_bz]
      by_cases q1 : 0 ≤ s ∧ s ≤ 100000
      · rw [if_pos q1, if_pos q1, if_eq (by omega) (by omega) (by omega) (by omega)]
        have loop : DX11_neededMark_L76 (gX11_now T) (iI j) (iI e) (iI s) (fun v4_22 => some (Sum.inr v4_22)) (fun _ => some (Sum.inr (iI (-1)))) fu (iI 0) = some (Sum.inr (iI (fst (fun v => decide (s ≤ scW M j e v)) 101))) := by
          have key := upS (fun f k => DX11_neededMark_L76 (gX11_now T) (iI j) (iI e) (iI s) (fun v4_22 => some (Sum.inr v4_22)) (fun _ => some (Sum.inr (iI (-1)))) f (iI k)) (fun z => some (Sum.inr (iI z))) (fun v => decide (s ≤ scW M j e v)) 101 ?_ ?_ ?_ fu (by unfold fu; omega)
          · exact key
          · intro f k hk hp
            show DX11_neededMark_L76 _ _ _ _ _ _ _ _ = _
            have sb := scW_b hMI' (e := e) (j := j) (v := k) (by omega) (by omega) (by omega)
            rw [DX11_neededMark_L76, show gX11n_now (gX11_now T) = gX11_now T from rfl]
            simp only [iI_lit, iI_add]
            rw [if_lt (by omega) (by omega) (by omega) (by omega), if_neg (by omega), C_scoreWith hC' hMI' (by omega) (by omega) (by omega) (by omega) (by omega) (by omega)]
            simp only [Option.bind_some]
            rw [if_lt (by omega) (by omega) (by omega) (by omega), if_pos (by have := of_decide_eq_false hp; omega)]
            rfl
          · intro f k hk hp
            show DX11_neededMark_L76 _ _ _ _ _ _ _ _ = _
            have sb := scW_b hMI' (e := e) (j := j) (v := k) (by omega) (by omega) (by omega)
            rw [DX11_neededMark_L76, show gX11n_now (gX11_now T) = gX11_now T from rfl]
            simp only [iI_lit, iI_add]
            rw [if_lt (by omega) (by omega) (by omega) (by omega), if_neg (by omega), C_scoreWith hC' hMI' (by omega) (by omega) (by omega) (by omega) (by omega) (by omega)]
            simp only [Option.bind_some]
            rw [if_lt (by omega) (by omega) (by omega) (by omega), if_neg (by have := of_decide_eq_true hp; omega)]
          · intro f
            show DX11_neededMark_L76 _ _ _ _ _ _ _ _ = _
            rw [DX11_neededMark_L76]
            simp only [iI_lit]
            rw [if_lt (by omega) (by omega) (by omega) (by omega), if_pos (by omega)]
        rw [loop]
      · rw [if_neg q1, if_neg q1]
    · rw [if_neg q, if_neg q]
  have er : DX12_neededMark S (iI j) (iI e) (iI s) = if (0 ≤ j ∧ j < M 0) ∧ (0 ≤ e ∧ e < M 6) then if 0 ≤ s ∧ s ≤ 100000 then if M 3 = 1 then if mayMarkZ M j e = true then some (iI (fst (fun v => decide (s ≤ scW M j e v)) 101), uX12_code S (iI 0)) else some (iI 0, uX12_code S (iI 3)) else some (iI 0, uX12_code S (iI 3)) else some (iI 0, uX12_code S (iI 2)) else some (iI 0, uX12_code S (iI 1)) := by
    unfold DX12_neededMark
    simp only [iI_lit, iI_neg, jn_eq, lt_eq, uc_code, uc_m, gm]
    rw [R_isJuror gm hT' hj hj', R_isEntrant gm hT' he he', R_in hs1 hs2 (by omega) (by omega) (by omega) (by omega)]
    simp only [show mI M 3 = iI (M 3) from rfl, Option.bind_some, if_bz, decide_eq_true_eq, R_seat, iI_add, if_neg (show ¬ iI 1 = iI 0 by decide), if_neg (show ¬ iI 2 = iI 0 by decide), if_neg (show ¬ iI 3 = iI 0 by decide), if_pos (show iI 0 = iI 0 from rfl), if_true]
    by_cases q : (0 ≤ j ∧ j < M 0) ∧ (0 ≤ e ∧ e < M 6)
    · rw [if_pos q.1, if_pos q.2, if_pos q]
      by_cases q1 : 0 ≤ s ∧ s ≤ 100000
      · rw [if_pos q1, if_pos q1, if_eq (by omega) (by omega) (by omega) (by omega)]
        by_cases q2 : M 3 = 1
        · rw [if_pos q2, if_pos q2, R_mayMark gm hR hT' (by omega) (by omega) (by omega) (by omega)]
          simp only [Option.bind_some, if_bz]
          by_cases q3 : mayMarkZ M j e = true
          · have hst := may_st q3
            have hpe : hpZ M e = true := by
              rcases hst.1 with h9 | h9
              · exact h9.2
              · omega
            rw [if_pos q3, if_pos q3, gd_iI (by omega) (by omega) (by omega), mI_at (by omega) (by omega)]
            have loop : ∀ k15 : Int32 → SX12 → Option (Int32 × SX12), DX12_neededMark_L98 (iI e) (iI s) (iI (486 + (12 * j + e))) (iI (M (486 + (12 * j + e)))) k15 fu (iI (-1)) (iI 100) (uX12_code S (iI 0)) = k15 (iI (fst (fun v => decide (s ≤ scW M j e v)) 101)) (uX12_m (uX12_code S (iI 0)) (mI (updI M (486 + (12 * j + e)) 0))) := by
              intro k15
              rw [← dn_fst]
              have base : uX12_code S (iI 0) = uX12_m (uX12_code S (iI 0)) (mI (if (0 : Nat) = 0 then M else updI M (486 + (12 * j + e)) (101 - ((0 : Nat) : Int)))) := by
                rw [if_pos rfl]
                exact (um_self (S := uX12_code S (iI 0)) gm).symm
              have key := upL (fun f n => DX12_neededMark_L98 (iI e) (iI s) (iI (486 + (12 * j + e))) (iI (M (486 + (12 * j + e)))) k15 f (iI (dnZ (fun v => decide (s ≤ scW M j e v)) n)) (iI (100 - n)) (uX12_m (uX12_code S (iI 0)) (mI (if n = 0 then M else updI M (486 + (12 * j + e)) (101 - (n : Int)))))) (k15 (iI (dnZ (fun v => decide (s ≤ scW M j e v)) 101)) (uX12_m (uX12_code S (iI 0)) (mI (updI M (486 + (12 * j + e)) 0)))) 101 ?_ ?_ fu (by unfold fu; omega)
              · rw [← base] at key
                exact key
              · intro f n hn
                show DX12_neededMark_L98 _ _ _ _ _ _ _ _ _ = _
                obtain ⟨v, hv⟩ : ∃ v : Int, v = 100 - (n : Int) := ⟨_, rfl⟩
                have eu : updI (if n = 0 then M else updI M (486 + (12 * j + e)) (101 - (n : Int))) (486 + (12 * j + e)) v = updI M (486 + (12 * j + e)) v := by
                  split
                  · rfl
                  · exact upd_upd _ _ _ _
                have sb := scW_b hMI' (e := e) (j := j) (v := v) (by omega) (by omega) (by omega)
                have hsc := R_scoreOf (S := uX12_m (uX12_code S (iI 0)) (mI (updI M (486 + (12 * j + e)) v))) (M := updI M (486 + (12 * j + e)) v) (e := e) um_m (rg_upd hR (by omega) (by omega)) (by rw [u_ne (by omega)]; omega) (by rw [u_ne (by omega)]; omega) (by rw [u_ne (by omega)]; omega) (by rw [u_ne (by omega)]; omega) (by rw [u_ne (by omega)]; omega) (by rw [u_ne (by omega)]; omega) (by rw [u_ne (by omega)]; omega) (by rw [u_ne (by omega)]; omega) (by omega) (by omega) (fun i a b => by
                  by_cases q9 : i = j
                  · rw [q9, updI_self]; omega
                  · rw [u_ne (by omega)]; exact (hk i e a b (by omega) (by omega)).1) (fun _ => by
                  rw [u_ne (by omega)]; exact hs e (by omega) (by omega) hpe)
                rw [sc_upd hT' (by omega) (by omega) (by omega) (by omega) (by omega) hst.2 hpe] at hsc
                rw [← hv, DX12_neededMark_L98]
                simp only [iI_lit, iI_add, iI_neg, jn_eq, lt_eq, um_m, um_um]
                rw [if_lt (by omega) (by omega) (by omega) (by omega), if_neg (by omega), gd_iI (by omega) (by omega) (by omega), mI_upd (by omega) (by omega), eu, hsc]
                simp only [Option.bind_some]
                rw [if_lt (by omega) (by omega) (by omega) (by omega), dnZ, ← hv, show v + -1 = 100 - ((n + 1 : Nat) : Int) by omega, if_neg (show ¬ n + 1 = 0 by omega), show 101 - ((n + 1 : Nat) : Int) = v by omega]
                by_cases q9 : scW M j e v < s
                · rw [if_pos q9, if_neg (by rw [decide_eq_false (by omega)]; decide)]
                · rw [if_neg q9, if_pos (decide_eq_true (by omega))]
              · intro f
                show DX12_neededMark_L98 _ _ _ _ _ _ _ _ _ = _
                rw [DX12_neededMark_L98]
                simp only [iI_lit]
                rw [if_lt (by omega) (by omega) (by omega) (by omega), if_pos (by omega), if_neg (by decide)]
                rfl
            rw [loop]
            simp only [um_m, um_um]
            rw [gd_iI (by omega) (by omega) (by omega), mI_upd (by omega) (by omega), upd_upd, upd_own, um_self (S := uX12_code S (iI 0)) gm]
          · rw [if_neg q3, if_neg q3]
        · rw [if_neg q2, if_neg q2]
      · rw [if_neg q1, if_neg q1]
    · rw [if_neg q]
      by_cases q1 : 0 ≤ j ∧ j < M 0
      · rw [if_pos q1, if_neg (fun h => q ⟨q1, h⟩)]
      · rw [if_neg q1]
  rw [ec, er]
  by_cases q : (0 ≤ j ∧ j < M 0) ∧ (0 ≤ e ∧ e < M 6)
  · by_cases q1 : 0 ≤ s ∧ s ≤ 100000
    · by_cases q2 : M 3 = 1
      · have em : mayMarkZ M j e = (hpZ M e && !isBarredZ M j e) := by
          unfold mayMarkZ
          rw [decide_eq_true q2, decide_eq_false (show ¬ M 3 = 2 by omega), Bool.true_and, Bool.false_and, Bool.or_false]
        rw [em]
        cases q3 : hpZ M e with
        | false => exact ansR_x h' 2 3 rfl (by rw [if_pos q, if_pos q1, if_pos q2, if_neg (by decide)]) (by rw [if_pos q, if_pos q1, if_pos q2, Bool.false_and, if_neg (by decide)]; rfl)
        | true =>
          cases q4 : isBarredZ M j e with
          | true => exact ansR_x h' 2 3 rfl (by rw [if_pos q, if_pos q1, if_pos q2, if_pos rfl, if_pos rfl]) (by rw [if_pos q, if_pos q1, if_pos q2, if_neg (by decide)]; rfl)
          | false => exact ansR_v h' _ (by rw [if_pos q, if_pos q1, if_pos q2, if_pos rfl, if_neg (by decide)]) (by rw [if_pos q, if_pos q1, if_pos q2, Bool.not_false, Bool.and_true, if_pos rfl])
      · exact ansR_x h' 2 3 rfl (by rw [if_pos q, if_pos q1, if_neg q2]) (by rw [if_pos q, if_pos q1, if_neg q2]; rfl)
    · exact ansR_x h' 1 2 rfl (by rw [if_pos q, if_neg q1]) (by rw [if_pos q, if_neg q1]; rfl)
  · exact ansR_x h' 0 1 rfl (by rw [if_neg q]) (by rw [if_neg q]; rfl)
end WH
