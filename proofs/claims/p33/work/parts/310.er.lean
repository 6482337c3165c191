/-! what the law's wrappers of calls that only read tell, on the cells -/
theorem lit_x : (-901 : Int32) = iI (-901) ∧ (-902 : Int32) = iI (-902) ∧ (-903 : Int32) = iI (-903) ∧ (100000 : Int32) = iI 100000 ∧ (100 : Int32) = iI 100 ∧ (101 : Int32) = iI 101 ∧ (31 : Int32) = iI 31 ∧ (40 : Int32) = iI 40 ∧ (44 : Int32) = iI 44 ∧ (48 : Int32) = iI 48 ∧ (100001 : Int32) = iI 100001 ∧ (21 : Int32) = iI 21 ∧ (70 : Int32) = iI 70 := ⟨id rfl, id rfl, id rfl, id rfl, id rfl, id rfl, id rfl, id rfl, id rfl, id rfl, id rfl, id rfl, id rfl⟩
theorem eg1 : eg [1] 1 = some (iI (-903)) ∧ eg [1, 2] 1 = some (iI (-903)) ∧ eg [1, 2] 2 = some (iI (-901)) ∧ eg [2] 2 = some (iI (-901)) ∧ eg [1, 2, 3] 1 = some (iI (-903)) ∧ eg [1, 2, 3] 2 = some (iI (-901)) ∧ eg [1, 2, 3] 3 = some (iI (-902)) ∧ eg [2, 3] 2 = some (iI (-901)) ∧ eg [2, 3] 3 = some (iI (-902)) ∧ eg [3] 3 = some (iI (-902)) ∧ eg [1, 3] 1 = some (iI (-903)) ∧ eg [1, 3] 3 = some (iI (-902)) := ⟨id rfl, id rfl, id rfl, id rfl, id rfl, id rfl, id rfl, id rfl, id rfl, id rfl, id rfl, id rfl⟩
theorem wxR_v {xs : List Nat} {v : Int32} : wxR xs (some (Sum.inr v)) = some v := id rfl
theorem wxR_x {xs : List Nat} {n : Nat} : wxR xs (some (Sum.inl n)) = eg xs n := id rfl
/-- the class's competition says what the cells say: what a call that reads stands on -/
def RR (T : SX11) (M : Int → Int) : Prop := Cp (gX11_now T) M ∧ MI M
section ER
variable {M : Int → Int} {T : SX11}
theorem E_work (h : RR T M) {w i : Int} (hw : 0 ≤ w) (hw' : w < M 5) (hi : 0 ≤ i) (hi' : i ≤ 2) : DL_work T (iI w) (iI i) = some (iI (M (12 + 3 * w + i))) := by
  have h5 := h.2.2.2.1.1
  unfold DL_work
  rw [C_work h.1 h.2 (by omega) (by omega) (by omega) (by omega), if_pos ⟨hw, hw'⟩, if_pos ⟨hi, hi'⟩, wxR_v]
theorem E_work_x (h : RR T M) {w i : Int} (hw : -2147483648 ≤ w) (hw' : w < 2147483648) (hi : -2147483648 ≤ i) (hi' : i < 2147483648) (q : ¬ (0 ≤ w ∧ w < M 5)) : DL_work T (iI w) (iI i) = some (iI (-903)) := by
  unfold DL_work
  rw [C_work h.1 h.2 hw hw' hi hi', if_neg q, wxR_x]
  exact eg1.2.1
theorem E_rule (h : RR T M) {r i : Int} (hr : 0 ≤ r) (hr' : r ≤ 3) (hi : 0 ≤ i) (hi' : i ≤ 5) : DL_rule T (iI r) (iI i) = some (iI (M (ruleZ r i))) := by
  unfold DL_rule
  rw [C_rule h.1 (by omega) (by omega) (by omega) (by omega), if_pos ⟨hr, hr'⟩, if_pos ⟨hi, hi'⟩, wxR_v]
theorem E_rule_x (h : RR T M) {r i : Int} (hr : 0 ≤ r) (hr' : r ≤ 3) (hi : -2147483648 ≤ i) (hi' : i < 2147483648) (q : ¬ (0 ≤ i ∧ i ≤ 5)) : DL_rule T (iI r) (iI i) = some (iI (-901)) := by
  unfold DL_rule
  rw [C_rule h.1 (by omega) (by omega) hi hi', if_pos ⟨hr, hr'⟩, if_neg q, wxR_x]
  exact eg1.2.2.1
theorem E_program (h : RR T M) {e r k : Int} (he : 0 ≤ e) (he' : e < M 6) (hr : 0 ≤ r) (hr' : r ≤ 3) (hk : -2147483648 ≤ k) (hk' : k < 2147483648) : DL_program T (iI e) (iI r) (iI k) = some (iI (workAtZ M e r k)) := by
  have h6 := h.2.2.1.2.2.2.2.2.1
  have e9 : DX11_program (gX11_now T) (iI e) (iI r) (iI k) = some (Sum.inr (iI (workAtZ M e r k))) := by
    unfold DX11_program
    rw [C_reqER h.1 h.2 (by omega) (by omega) (by omega) (by omega), tx_p, if_pos ⟨⟨he, he'⟩, hr, hr'⟩, show gX0_programs (gX11n_now (gX11_now T)) = gX0_programs (gX11_now T) from rfl, C_workAt h.1.2.2.2.2.2.2.2.1 h.2.2.2.1 (by omega) (by omega) (by omega) (by omega) hk hk']
    rfl
  unfold DL_program
  rw [e9, wxR_v]
theorem E_program_x (h : RR T M) {e r k : Int} (he : -2147483648 ≤ e) (he' : e < 2147483648) (hr : -2147483648 ≤ r) (hr' : r < 2147483648) (q : ¬ ((0 ≤ e ∧ e < M 6) ∧ (0 ≤ r ∧ r ≤ 3))) : DL_program T (iI e) (iI r) (iI k) = some (iI (-903)) := by
  have e9 : DX11_program (gX11_now T) (iI e) (iI r) (iI k) = some (Sum.inl 1) := by
    unfold DX11_program
    rw [C_reqER h.1 h.2 he he' hr hr', tx_p, if_neg q]
  unfold DL_program
  rw [e9, wxR_x]
  exact eg1.1
theorem E_flaw (h : RR T M) {e r : Int} (he : 0 ≤ e) (he' : e < M 6) (hr : 0 ≤ r) (hr' : r ≤ 3) : DL_flaw T (iI e) (iI r) = some (iI (flawZ M e r)) := by
  have h6 := h.2.2.1.2.2.2.2.2.1
  have e9 : DX11_flaw (gX11_now T) (iI e) (iI r) = some (Sum.inr (iI (flawZ M e r))) := by
    unfold DX11_flaw
    rw [C_reqER h.1 h.2 (by omega) (by omega) (by omega) (by omega), tx_p, if_pos ⟨⟨he, he'⟩, hr, hr'⟩, show gX11n_now (gX11_now T) = gX11_now T from rfl, C_flawOf h.1.2.2.2.2.2.2.2.1 h.2.1 h.2.2.2.1 h.1.2.2.2.2.1 h.1.2.2.2.2.2.2.1 (by omega) (by omega) (by omega) (by omega)]
    rfl
  unfold DL_flaw
  rw [e9, wxR_v]
theorem E_flaw_x (h : RR T M) {e r : Int} (he : -2147483648 ≤ e) (he' : e < 2147483648) (hr : -2147483648 ≤ r) (hr' : r < 2147483648) (q : ¬ ((0 ≤ e ∧ e < M 6) ∧ (0 ≤ r ∧ r ≤ 3))) : DL_flaw T (iI e) (iI r) = some (iI (-903)) := by
  have e9 : DX11_flaw (gX11_now T) (iI e) (iI r) = some (Sum.inl 1) := by
    unfold DX11_flaw
    rw [C_reqER h.1 h.2 he he' hr hr', tx_p, if_neg q]
  unfold DL_flaw
  rw [e9, wxR_x]
  exact eg1.1
theorem E_info (h : RR T M) {w : Int} (h0 : 0 ≤ w) (h1 : w ≤ 12) : DL_info T (iI w) = some (iI (infoZ M w)) := by
  have e9 : DX11_info (gX11_now T) (iI w) = some (Sum.inr (iI (infoZ M w))) := by
    unfold DX11_info
    simp only [iI_lit]
    rw [C_between (by omega) (by omega) (by omega) (by omega) (by omega) (by omega)]
    simp only [Option.bind_some, C_reqA, tx_d]
    rw [if_pos ⟨h0, h1⟩, show gX11n_now (gX11_now T) = gX11_now T from rfl, C_tell h.1 h.2 (by omega) (by omega)]
    rfl
  unfold DL_info
  rw [e9, wxR_v]
theorem E_info_x (h : RR T M) {w : Int} (h0 : -2147483648 ≤ w) (h1 : w < 2147483648) (q : ¬ (0 ≤ w ∧ w ≤ 12)) : DL_info T (iI w) = some (iI (-901)) := by
  have e9 : DX11_info (gX11_now T) (iI w) = some (Sum.inl 2) := by
    unfold DX11_info
    simp only [iI_lit]
    rw [C_between (by omega) (by omega) (by omega) (by omega) (by omega) (by omega)]
    simp only [Option.bind_some, C_reqA, tx_d]
    rw [if_neg q]
  unfold DL_info
  rw [e9, wxR_x]
  exact eg1.2.2.2.1
theorem E_entrant (h : RR T M) {e w : Int} (he : 0 ≤ e) (he' : e < M 6) (hw : 0 ≤ w) (hw' : w ≤ 7) : DL_entrant T (iI e) (iI w) = some (iI (ofEntrantZ M e w)) := by
  have h6 := h.2.2.1.2.2.2.2.2.1
  have e9 : DX11_entrant (gX11_now T) (iI e) (iI w) = some (Sum.inr (iI (ofEntrantZ M e w))) := by
    unfold DX11_entrant
    simp only [iI_lit]
    rw [C_reqEntrant h.1 h.2 (by omega) (by omega), tx_p, C_between (by omega) (by omega) (by omega) (by omega) (by omega) (by omega)]
    simp only [Option.bind_some, C_reqA, tx_d]
    rw [if_pos ⟨he, he'⟩, if_pos ⟨hw, hw'⟩, show gX11n_now (gX11_now T) = gX11_now T from rfl, C_tellOfEntrant h.1 h.2 (by omega) (by omega) (by omega) (by omega)]
    rfl
  unfold DL_entrant
  rw [e9, wxR_v]
theorem E_entrant_x (h : RR T M) {e w : Int} (he : -2147483648 ≤ e) (he' : e < 2147483648) (q : ¬ (0 ≤ e ∧ e < M 6)) : DL_entrant T (iI e) (iI w) = some (iI (-903)) := by
  have e9 : DX11_entrant (gX11_now T) (iI e) (iI w) = some (Sum.inl 1) := by
    unfold DX11_entrant
    rw [C_reqEntrant h.1 h.2 he he', tx_p, if_neg q]
  unfold DL_entrant
  rw [e9, wxR_x]
  exact eg1.2.1
theorem E_marked (h : RR T M) {j e : Int} (β : Bool) (hj : 0 ≤ j) (hj' : j < M 0) (he : 0 ≤ e) (he' : e < M 6) : DL_marked T (iI j) (iI e) (bI β) = some (iI (M ((if β = true then 570 else 486) + (12 * j + e)))) := by
  have h6 := h.2.2.1.2.2.2.2.2.1
  have t0 := h.2.2.1.1
  have e9 : DX11_marked (gX11_now T) (iI j) (iI e) (bI β) = some (Sum.inr (iI (M ((if β = true then 570 else 486) + (12 * j + e))))) := by
    obtain ⟨⟨c3, c4, c1, c2, cw, ce, cr, cp, cj, cs, ch, ct, cc⟩, hI⟩ := id h
    unfold DX11_marked
    rw [C_reqJE h.1 h.2 (by omega) (by omega) (by omega) (by omega), tx_p, if_pos ⟨⟨hj, hj'⟩, he, he'⟩]
    simp only [iI_lit, jn_eq, if_bz, show gX11n_now (gX11_now T) = gX11_now T from rfl]
    rw [C_at ch (by omega) (by omega) (by omega) (by omega), C_at ct.2.2.2 (by omega) (by omega) (by omega) (by omega)]
    cases β <;> rfl
  unfold DL_marked
  rw [e9, wxR_v]
theorem E_marked_x (h : RR T M) {j e : Int} {v : Int32} (hj : -2147483648 ≤ j) (hj' : j < 2147483648) (he : -2147483648 ≤ e) (he' : e < 2147483648) (q : ¬ ((0 ≤ j ∧ j < M 0) ∧ (0 ≤ e ∧ e < M 6))) : DL_marked T (iI j) (iI e) v = some (iI (-903)) := by
  have e9 : DX11_marked (gX11_now T) (iI j) (iI e) v = some (Sum.inl 1) := by
    unfold DX11_marked
    rw [C_reqJE h.1 h.2 hj hj' he he', tx_p, if_neg q]
  unfold DL_marked
  rw [e9, wxR_x]
  exact eg1.1
theorem E_history (h : RR T M) {e r : Int} (he : 0 ≤ e) (he' : e < M 6) (hr : 0 ≤ r) (hr' : r ≤ 3) : DL_history T (iI e) (iI r) = some (iI (M (666 + 4 * e + r))) := by
  have h6 := h.2.2.1.2.2.2.2.2.1
  unfold DL_history
  rw [C_history h.1 h.2 (by omega) (by omega) (by omega) (by omega), if_pos ⟨⟨he, he'⟩, hr, hr'⟩, wxR_v]
theorem E_history_x (h : RR T M) {e r : Int} (he : -2147483648 ≤ e) (he' : e < 2147483648) (hr : -2147483648 ≤ r) (hr' : r < 2147483648) (q : ¬ ((0 ≤ e ∧ e < M 6) ∧ (0 ≤ r ∧ r ≤ 3))) : DL_history T (iI e) (iI r) = some (iI (-903)) := by
  unfold DL_history
  rw [C_history h.1 h.2 he he' hr hr', if_neg q, wxR_x]
  exact eg1.1
theorem E_stage (h : RR T M) {k : Int} (hk : -2147483648 ≤ k) (hk' : k < 2147483648) : DX11_stage (gX11_now T) (iI k) = some (iI (if 0 ≤ k ∧ k < M 7 then M (462 + k) else -1)) := C_stage h.1 h.2 hk hk'
theorem F_needed (h : RR T M) {j e s : Int} (hj : -2147483648 ≤ j) (hj' : j < 2147483648) (he : -2147483648 ≤ e) (he' : e < 2147483648) (hs1 : -2147483648 ≤ s) (hs2 : s < 2147483648) : DX11_neededMark (gX11_now T) (iI j) (iI e) (iI s) = if (0 ≤ j ∧ j < M 0) ∧ (0 ≤ e ∧ e < M 6) then if 0 ≤ s ∧ s ≤ 100000 then if M 3 = 1 then if hpZ M e = true then if isBarredZ M j e = true then some (Sum.inl 3) else some (Sum.inr (iI (fst (fun v => decide (s ≤ scW M j e v)) 101))) else some (Sum.inl 3) else some (Sum.inl 3) else some (Sum.inl 2) else some (Sum.inl 1) := by
  obtain ⟨hC', hMI'⟩ := h
  obtain ⟨hR, hT, hW, hIn, hTi, hk, hs, hO, hN, hru, hba, hty, hml⟩ := id hMI'
  obtain ⟨c3, c4, c1, c2, cw, ce, cr, cp, cj, cs, ch, ct, cc⟩ := id hC'
  obtain ⟨t0, t1, t2, t3, t4, t6, t7, t8⟩ := id hT
  unfold DX11_neededMark
  rw [C_reqJE hC' hMI' hj hj' he he', tx_p, show gX11n_now (gX11_now T) = gX11_now T from rfl, c3]
  simp only [iI_lit, iI_neg, jn_eq]
  rw [C_between hs1 hs2 (by omega) (by omega) (by omega) (by omega)]
  simp only [Option.bind_some, C_reqA, tx_d, reqS0, reqS1, tx_l, tx_r]
  by_cases q : (0 ≤ j ∧ j < M 0) ∧ (0 ≤ e ∧ e < M 6)
  · rw [if_pos q, if_pos q, C_hasPlayed cs hs hR (by omega) (by omega), C_isBarred cj hR (by omega) (by omega) (by omega) (by omega)]
    simp only [Option.bind_some, if_bz]
    by_cases q1 : 0 ≤ s ∧ s ≤ 100000
    · rw [if_pos q1, if_pos q1, if_eq (by omega) (by omega) (by omega) (by omega)]
      have loop : DX11_neededMark_L76 (gX11_now T) (iI j) (iI e) (iI s) (fun v4_22 => some (Sum.inr v4_22)) (fun _ => some (Sum.inr (iI (-1)))) fu (iI 0) = some (Sum.inr (iI (fst (fun v => decide (s ≤ scW M j e v)) 101))) := by
        have key := upS (fun f k => DX11_neededMark_L76 (gX11_now T) (iI j) (iI e) (iI s) (fun v4_22 => some (Sum.inr v4_22)) (fun _ => some (Sum.inr (iI (-1)))) f (iI k)) (fun z => some (Sum.inr (iI z))) (fun v => decide (s ≤ scW M j e v)) 101 ?_ ?_ ?_ fu (by unfold fu; omega)
        · exact key
        · intro f k hk hp
          show DX11_neededMark_L76 _ _ _ _ _ _ _ _ = _
          have sb := scW_b hMI' (e := e) (j := j) (v := k) (by omega) (by omega) (by omega)
          rw [DX11_neededMark_L76, show gX11n_now (gX11_now T) = gX11_now T from rfl]
          simp only [iI_lit, iI_add]
          rw [if_lt (by omega) (by omega) (by omega) (by omega), if_neg (by omega), C_scoreWith hC' hMI' (by omega) (by omega) (by omega) (by omega) (by omega) (by omega)]
          simp only [Option.bind_some]
          rw [if_lt (by omega) (by omega) (by omega) (by omega), if_pos (by have := of_decide_eq_false hp; omega)]
          rfl
        · intro f k hk hp
          show DX11_neededMark_L76 _ _ _ _ _ _ _ _ = _
          have sb := scW_b hMI' (e := e) (j := j) (v := k) (by omega) (by omega) (by omega)
          rw [DX11_neededMark_L76, show gX11n_now (gX11_now T) = gX11_now T from rfl]
          simp only [iI_lit, iI_add]
          rw [if_lt (by omega) (by omega) (by omega) (by omega), if_neg (by omega), C_scoreWith hC' hMI' (by omega) (by omega) (by omega) (by omega) (by omega) (by omega)]
          simp only [Option.bind_some]
          rw [if_lt (by omega) (by omega) (by omega) (by omega), if_neg (by have := of_decide_eq_true hp; omega)]
        · intro f
          show DX11_neededMark_L76 _ _ _ _ _ _ _ _ = _
          rw [DX11_neededMark_L76]
          simp only [iI_lit]
          rw [if_lt (by omega) (by omega) (by omega) (by omega), if_pos (by omega)]
      rw [loop]
    · rw [if_neg q1, if_neg q1]
  · rw [if_neg q, if_neg q]
theorem E_needed (h : RR T M) {j e s : Int} (hj : 0 ≤ j) (hj' : j < M 0) (he : 0 ≤ e) (he' : e < M 6) (hs : 0 ≤ s) (hs' : s ≤ 100000) (h3 : M 3 = 1) (hp : hpZ M e = true) (hb : isBarredZ M j e = false) : DL_neededMark T (iI j) (iI e) (iI s) = some (iI (fst (fun v => decide (s ≤ scW M j e v)) 101)) := by
  have h6 := h.2.2.1.2.2.2.2.2.1
  have t0 := h.2.2.1.1
  unfold DL_neededMark
  rw [F_needed h (by omega) (by omega) (by omega) (by omega) (by omega) (by omega), if_pos ⟨⟨hj, hj'⟩, he, he'⟩, if_pos ⟨hs, hs'⟩, if_pos h3, if_pos hp, if_neg (by rw [hb]; decide), wxR_v]
theorem E_needed_s (h : RR T M) {j e s : Int} (hj : 0 ≤ j) (hj' : j < M 0) (he : 0 ≤ e) (he' : e < M 6) (hs : 0 ≤ s) (hs' : s ≤ 100000) (q : ¬ (M 3 = 1 ∧ hpZ M e = true ∧ isBarredZ M j e = false)) : DL_neededMark T (iI j) (iI e) (iI s) = some (iI (-902)) := by
  have h6 := h.2.2.1.2.2.2.2.2.1
  have t0 := h.2.2.1.1
  unfold DL_neededMark
  rw [F_needed h (by omega) (by omega) (by omega) (by omega) (by omega) (by omega), if_pos ⟨⟨hj, hj'⟩, he, he'⟩, if_pos ⟨hs, hs'⟩]
  by_cases q1 : M 3 = 1
  · rw [if_pos q1]
    by_cases q2 : hpZ M e = true
    · rw [if_pos q2]
      cases q3 : isBarredZ M j e with
      | true => rw [if_pos rfl, wxR_x]; exact eg1.2.2.2.2.2.2.1
      | false => exact absurd ⟨q1, q2, q3⟩ q
    · rw [if_neg q2, wxR_x]; exact eg1.2.2.2.2.2.2.1
  · rw [if_neg q1, wxR_x]; exact eg1.2.2.2.2.2.2.1
theorem E_needed_x (h : RR T M) {j e s : Int} (hj : -2147483648 ≤ j) (hj' : j < 2147483648) (he : -2147483648 ≤ e) (he' : e < 2147483648) (hs1 : -2147483648 ≤ s) (hs2 : s < 2147483648) (q : ¬ ((0 ≤ j ∧ j < M 0) ∧ (0 ≤ e ∧ e < M 6))) : DL_neededMark T (iI j) (iI e) (iI s) = some (iI (-903)) := by
  unfold DL_neededMark
  rw [F_needed h hj hj' he he' hs1 hs2, if_neg q, wxR_x]
  exact eg1.2.2.2.2.1
end ER
