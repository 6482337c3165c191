/-! calls that are refused change nothing; marks that would do -/
section RN
variable {M N : Int → Int} {T : SX11}
theorem lits : (10 : Int32) = iI 10 ∧ (0 : Int32) = iI 0 ∧ (1 : Int32) = iI 1 ∧ (5 : Int32) = iI 5 ∧ (9 : Int32) = iI 9 ∧ (3 : Int32) = iI 3 ∧ (2 : Int32) = iI 2 ∧ (4 : Int32) = iI 4 ∧ (6 : Int32) = iI 6 ∧ (8 : Int32) = iI 8 ∧ (7 : Int32) = iI 7 ∧ (13 : Int32) = iI 13 ∧ (12 : Int32) = iI 12 ∧ (11 : Int32) = iI 11 ∧ (21 : Int32) = iI 21 ∧ (101 : Int32) = iI 101 ∧ (31 : Int32) = iI 31 ∧ (100 : Int32) = iI 100 ∧ (901 : Int32) = iI 901 ∧ (902 : Int32) = iI 902 ∧ (903 : Int32) = iI 903 := ⟨id rfl, id rfl, id rfl, id rfl, id rfl, id rfl, id rfl, id rfl, id rfl, id rfl, id rfl, id rfl, id rfl, id rfl, id rfl, id rfl, id rfl, id rfl, id rfl, id rfl, id rfl⟩
theorem refuses_ok (h : S0 T M) : DL_refuses T = some (iI 1, T) := by
  have hr := h.rr
  obtain ⟨hR, hT, hW, hIn, hTi, hk, hs, hO, hN, hru, hba, hty, hml⟩ := id h.mk.1
  obtain ⟨t0, t1, t2, t3, t4, t6, t7, t8⟩ := id hT
  have h5 := hW.1
  obtain ⟨v, hv⟩ := E_sum h
  have i0 := E_info hr (w := 0) (by omega) (by omega)
  have i3 := E_info hr (w := 3) (by omega) (by omega)
  have i5 := E_info hr (w := 5) (by omega) (by omega)
  have i6 := E_info hr (w := 6) (by omega) (by omega)
  simp only [inf M] at i0 i3 i5 i6
  have a1 := E_addWork_a h (a := 10) (b := 0) (m := 1) (by omega) (by omega) (by omega) (by omega) (by omega) (by omega) (by omega)
  have a2 := E_addWork_a h (a := 0) (b := 5) (m := 1) (by omega) (by omega) (by omega) (by omega) (by omega) (by omega) (by omega)
  have a3 := E_addWork_a h (a := 0) (b := 0) (m := 0) (by omega) (by omega) (by omega) (by omega) (by omega) (by omega) (by omega)
  have a4 := E_work_x hr (w := M 5) (i := 9) (by omega) (by omega) (by omega) (by omega) (by omega)
  have a5 : DL_bar T (iI (M 0)) (iI 0) (iI 1) = some (iI (-903), T) := E_bar_x h (j := M 0) (e := 0) true (by omega) (by omega) (by omega) (by omega) (by omega)
  have a6 : DL_bar T (iI 0) (iI (M 6)) (iI 1) = some (iI (-903), T) := E_bar_x h (j := 0) (e := M 6) true (by omega) (by omega) (by omega) (by omega) (by omega)
  have a7 := E_set_a h (w := 3) (v := 0) (by omega) (by omega) (by omega) (by omega) (by omega)
  have a8 := E_set_a h (w := 0) (v := 2) (by omega) (by omega) (by omega) (by omega) (by unfold loS; rw [if_pos rfl]; omega)
  have a9 := E_setRule_i h (r := 4) (w := 9) (v := 9) (by omega) (by omega) (by omega) (by omega) (by omega) (by omega) (by omega)
  have a10 := E_setRule_a h (r := 0) (w := 0) (v := 0) (by omega) (by omega) (by omega) (by omega) (by omega) (by unfold loR; rw [if_neg (by omega)]; omega)
  have a11 := E_rule_x hr (r := 0) (i := 6) (by omega) (by omega) (by omega) (by omega) (by omega)
  have a12 := E_setProgram_x h (e := M 6) (r := 0) (by omega) (by omega) (by omega) (by omega) (by omega)
  have a13 := E_clearProgram_x h (e := M 6) (r := 0) (by omega) (by omega) (by omega) (by omega) (by omega)
  have a14 := E_program_x hr (e := -1) (r := 0) (k := 0) (by omega) (by omega) (by omega) (by omega) (by omega)
  have a15 := E_flaw_x hr (e := 0) (r := 4) (by omega) (by omega) (by omega) (by omega) (by omega)
  have b1 := E_begin_a h (s := -1) (by omega) (by omega)
  have b2 := E_play_a h (s := 21) (by omega) (by omega) (by omega)
  have b3 := E_mark_i h (j := M 0) (e := 0) (v := 101) (by omega) (by omega) (by omega) (by omega) (by omega) (by omega) (by omega)
  have b4 := E_mark_i h (j := 0) (e := M 6) (v := 101) (by omega) (by omega) (by omega) (by omega) (by omega) (by omega) (by omega)
  have b5 := E_abstain_i h (j := -1) (e := 0) (by omega) (by omega) (by omega) (by omega) (by omega)
  have b6 := E_withdraw_i h (e := M 6) (by omega) (by omega) (by omega)
  have b7 := E_info_x hr (w := 13) (by omega) (by omega) (by omega)
  have b8 := E_entrant_x hr (e := M 6) (w := 9) (by omega) (by omega) (by omega)
  have b9 := E_marked_x hr (j := M 0) (e := 0) (v := iI 1) (by omega) (by omega) (by omega) (by omega) (by omega)
  have b10 := E_history_x hr (e := M 6) (r := 0) (by omega) (by omega) (by omega) (by omega) (by omega)
  have b11 := E_wouldBe_x h (w := -1) (by omega) (by omega) (by omega)
  have b12 := E_needed_x hr (j := M 0) (e := 0) (s := -1) (by omega) (by omega) (by omega) (by omega) (by omega) (by omega) (by omega)
  have b13 := E_type_x h (a := 31) (by omega) (by omega) (by omega)
  unfold DL_refuses
  simp only [lits, iI_neg, jn_eq, hv, i0, i3, i5, i6, Option.bind_some, a1, a2, a3, a4, a5, a6, a7, a8, a9, a10, a11, a12, a13, a14, a15, b1, b2, b3, b4, b5, b6, b7, b8, b9, b10, b11, b12, b13, ne10, if_true, if_false]
  have pl : (if iI (M 3) = iI 1 then gd (isB (iI 1)) (some (iI 1, T)) else (DL_play T (iI 0)).bind fun x36 => if x36.1 = iI (-902) then (DX11_checksum x36.2).bind fun x24 => if x24 = v then gd (isB (iI 1)) (some (iI 1, x36.2)) else gd (isB (iI 0)) (some (iI 0, x36.2)) else gd (isB (iI 0)) (some (iI 0, x36.2))) = some (iI 1, T) := by
    rw [if_eq (by omega) (by omega) (by omega) (by omega)]
    by_cases q : M 3 = 1
    · rw [if_pos q]; rfl
    · rw [if_neg q, E_play_s h (by omega) q]
      simp only [Option.bind_some, hv, if_true]
      rfl
  by_cases q0 : M 3 = 0
  · rw [if_eq (by omega) (by omega) (by omega) (by omega), if_pos q0]
    exact pl
  · have c1 := E_begin_s h (s := 1) (by omega) (by omega) q0
    have c2 := E_addEntrant_s h q0
    have c3 := E_addWork_s h (a := 0) (b := 0) (m := 1) (by omega) (by omega) (by omega) q0
    have c4 := E_setRule_s h (r := 0) (w := 5) (v := 3) (by omega) (by omega) (by unfold loR hiR; rw [if_neg (by omega), if_neg (by omega), if_neg (by omega), if_neg (by omega), if_neg (by omega)]; omega) q0
    have c5 := E_set_s h (w := 1) (v := 2) (by omega) (by unfold loS hiS; rw [if_neg (by omega), if_pos rfl, if_neg (by omega), if_pos rfl]; omega) (by omega)
    rw [if_eq (by omega) (by omega) (by omega) (by omega), if_neg q0]
    simp only [c1, c2, c3, c4, c5, i3, hv, Option.bind_some, if_true]
    exact pl
theorem meanZ_pos {em : Int → Int} {n : Nat} (h : ∀ k : Nat, k < n → em k ≤ 100) {k0 : Nat} (hk : k0 < n) (h0 : 0 ≤ em k0) : 0 ≤ meanZ em n := by
  have key : ∀ m : Nat, k0 < m → m ≤ n → 1 ≤ (mfold em m).1 := by
    intro m
    induction m with
    | zero => intro a _; omega
    | succ m ih =>
      intro a b
      have lo := (mfold_ok em m (fun k hk => h k (by omega))).1
      unfold mfold
      by_cases q : em m < 0
      · rw [if_pos q]
        refine ih ?_ (by omega)
        by_cases q2 : k0 = m
        · rw [q2] at h0; omega
        · omega
      · rw [if_neg q]
        show 1 ≤ (mfold em m).1 + 1
        omega
  have k1 := key n hk (Nat.le_refl _)
  have lo := meanZ_lo h
  obtain ⟨a1, a2, a3, a4, a5, a6, a7, a8, a9, a10, a11, a12⟩ := mfold_ok em n h
  unfold meanZ
  rw [if_neg (by omega)]
  split
  · exact Int.ediv_nonneg (by have := a12 (by omega); omega) (by omega)
  · exact Int.ediv_nonneg (by omega) (by omega)
theorem scW_0 (hI : MI M) {j e v : Int} (hj : 0 ≤ j) (hj' : j < M 0) (he : 0 ≤ e) (he' : e < 12) (hb : isBarredZ M j e = false) (hv : 0 ≤ v) (hv' : v ≤ 100) : 0 ≤ scW M j e v := by
  have t0 := hI.2.1.1
  have hk := hI.2.2.2.2.2.1
  have m := meanZ_pos (emC_hi (row := 486) (e := e) (w := j) (v := v) (fun i a b => (hk i e a b he he').1) t0.2 hv') (k0 := j.toNat) (by omega) (by
    unfold emC
    rw [show ((j.toNat : Nat) : Int) = j by omega, hb, if_neg (by decide), if_pos rfl]
    exact hv)
  unfold scW
  rw [if_neg (by omega)]
  split <;> omega
/-- a mark given, looked at, taken back -/
theorem try_mark (h : S0 T M) {j e v : Int} (hj : 0 ≤ j) (hj' : j < M 0) (he : 0 ≤ e) (he' : e < M 6) (h3 : M 3 = 1) (hp : hpZ M e = true) (hb : isBarredZ M j e = false) (hv : 0 ≤ v) (hv' : v ≤ 100) : ∃ (u w : Int) (T1 T2 : SX11), DL_mark T (iI j) (iI e) (iI v) = some (iI u, T1) ∧ (0 ≤ u ∧ u ≤ 7) ∧ DL_entrant T1 (iI e) (iI 4) = some (iI (scW M j e v)) ∧ DL_undo T1 = some (iI w, T2) ∧ (0 ≤ w ∧ w ≤ 3) ∧ S0 T2 M := by
  obtain ⟨hR, hT, hW, hIn, hTi, hk, hs, hO, hN, hru, hba, hty, hml⟩ := id h.mk.1
  obtain ⟨t0, t1, t2, t3, t4, t6, t7, t8⟩ := id hT
  have eo : opZ M = 486 := by unfold opZ; rw [if_neg (by omega)]
  have hm : mayMarkZ M j e = true := by
    unfold mayMarkZ
    rw [decide_eq_true h3, hp, hb]
    rfl
  obtain ⟨T1, e1, e2⟩ := E_mark h ⟨hj, hj'⟩ ⟨he, he'⟩ (v := v) (by rw [if_neg (by omega)]; omega) hm
  rw [eo] at e1 e2
  obtain ⟨w, T2, e3, e4, e5, e6⟩ := E_undo e2
  have c0 : 0 ≤ countingZ (updI M (486 + (12 * j + e)) v) 486 e := cn_lo _ _
  have c1 : countingZ (updI M (486 + (12 * j + e)) v) 486 e ≤ ((updI M (486 + (12 * j + e)) v) 0).toNat := cn_hi _ _
  have g0 : updI M (486 + (12 * j + e)) v 0 = M 0 := u_ne (by omega)
  have g6 : updI M (486 + (12 * j + e)) v 6 = M 6 := u_ne (by omega)
  rw [g0] at c1
  refine ⟨_, w, T1, T2, e1, ⟨c0, by omega⟩, ?_, e3, ⟨e4, e5⟩, e6⟩
  rw [E_entrant e2.st.rr he (by omega) (by omega) (by omega), (ofE _ e).2.2.2.2.1, sc_upd hT hj (by omega) he (by omega) hv hb hp]
theorem needs_ok (h : S0 T M) {j e s : Int} (hj : 0 ≤ j) (hj' : j < M 0) (he : 0 ≤ e) (he' : e < M 6) (hs0 : 0 ≤ s) (hs1 : s ≤ 100000) : ∃ T', DL_needs T (iI j) (iI e) (iI s) = some (iI 1, T') ∧ S0 T' M := by
  have hr := h.rr
  obtain ⟨hR, hT, hW, hIn, hTi, hk, hs, hO, hN, hru, hba, hty, hml⟩ := id h.mk.1
  obtain ⟨t0, t1, t2, t3, t4, t6, t7, t8⟩ := id hT
  by_cases q : M 3 = 1 ∧ hpZ M e = true ∧ isBarredZ M j e = false
  · obtain ⟨q3, qp, qb⟩ := q
    have n1 := E_needed hr hj hj' he he' hs0 hs1 q3 qp qb
    have n0 := E_needed hr hj hj' he he' (s := 0) (by omega) (by omega) q3 qp qb
    have z0 : fst (fun v => decide ((0 : Int) ≤ scW M j e v)) 101 = 0 := fst_ext (j := 0) (decide_eq_true (scW_0 h.mk.1 hj hj' he (by omega) qb (by omega) (by omega))) (fun k hk => absurd hk (by omega)) 101 (by omega)
    rw [z0] at n0
    have sb := fun v => scW_b h.mk.1 (j := j) (e := e) (v := v) he (show e < 12 by omega)
    obtain ⟨z, hz⟩ : ∃ z, z = fst (fun v => decide (s ≤ scW M j e v)) 101 := ⟨_, rfl⟩
    have zl : -1 ≤ z := by rw [hz]; exact fst_lo _ _
    have zh : z < 101 := by rw [hz]; exact fst_hi _ 101
    have zn : z = -1 → scW M j e 100 < s := fun q => by
      have this : decide (s ≤ scW M j e 100) = false := (fst_none (p := fun v => decide (s ≤ scW M j e v)) 101).mp (by rw [← hz]; exact q) 100 (by omega)
      have := of_decide_eq_false this
      omega
    have zy : z ≠ -1 → s ≤ scW M j e z := fun q => by
      have := fst_at (p := fun v => decide (s ≤ scW M j e v)) 101 (by rw [← hz]; exact q)
      rw [← hz] at this
      exact of_decide_eq_true this
    have zp : ∀ k : Int, 0 ≤ k → k < z → scW M j e k < s := fun k a b => by
      by_cases q2 : s ≤ scW M j e k
      · exfalso
        -- the first one is not behind k
        have hm : ∃ m : Nat, m ≤ k.toNat ∧ decide (s ≤ scW M j e m) = true ∧ ∀ i : Nat, i < m → decide (s ≤ scW M j e i) = false := by
          have : ∀ n : Nat, (∀ i : Nat, i < n → decide (s ≤ scW M j e i) = false) ∨ ∃ m : Nat, m < n ∧ decide (s ≤ scW M j e m) = true ∧ ∀ i : Nat, i < m → decide (s ≤ scW M j e i) = false := by
            intro n
            induction n with
            | zero => left; intro i hi; omega
            | succ n ih =>
              rcases ih with ih | ⟨m, m1, m2, m3⟩
              · by_cases qn : decide (s ≤ scW M j e n) = true
                · exact Or.inr ⟨n, by omega, qn, ih⟩
                · left
                  intro i hi
                  by_cases qi : i = n
                  · rw [qi]; exact Bool.eq_false_iff.mpr qn
                  · exact ih i (by omega)
              · exact Or.inr ⟨m, by omega, m2, m3⟩
          rcases this (k.toNat + 1) with h9 | ⟨m, m1, m2, m3⟩
          · have := h9 k.toNat (by omega)
            rw [show ((k.toNat : Nat) : Int) = k by omega, decide_eq_true q2] at this
            cases this
          · exact ⟨m, by omega, m2, m3⟩
        obtain ⟨m, m1, m2, m3⟩ := hm
        have := fst_ext (p := fun v => decide (s ≤ scW M j e v)) m2 m3 101 (by omega)
        omega
      · omega
    rw [← hz] at n1
    clear hz
    -- the mark itself, or none
    have p4 : ∀ T1 : SX11, S0 T1 M → ∃ T2, (if iI z < iI 0 then (DL_mark T1 (iI j) (iI e) (iI 100)).bind fun x12 => if x12.1 < iI 0 then some (iI 0, x12.2) else (DL_entrant x12.2 (iI e) (iI 4)).bind fun x19 => if iI s ≤ x19 then some (iI 0, x12.2) else (DL_undo x12.2).bind fun x21 => if x21.1 < iI 0 then some (iI 0, x21.2) else some (iI 1, x21.2) else (DL_mark T1 (iI j) (iI e) (iI z)).bind fun x28 => if x28.1 < iI 0 then some (iI 0, x28.2) else (DL_entrant x28.2 (iI e) (iI 4)).bind fun x30 => if x30 < iI s then some (iI 0, x28.2) else (DL_undo x28.2).bind fun x32 => if x32.1 < iI 0 then some (iI 0, x32.2) else some (iI 1, x32.2)) = some (iI 1, T2) ∧ S0 T2 M := by
      intro T1 p3
      rw [if_lt (by omega) (by omega) (by omega) (by omega)]
      by_cases qz : z < 0
      · obtain ⟨u, w, T3, T2, m1, m2, m3, m4, m5, m6⟩ := try_mark p3 hj hj' he he' q3 qp qb (v := 100) (by omega) (by omega)
        have b := sb 100 (by omega)
        have lt := zn (by omega)
        refine ⟨T2, ?_, m6⟩
        rw [if_pos qz, m1]
        simp only [Option.bind_some]
        rw [if_lt (by omega) (by omega) (by omega) (by omega), if_neg (by omega), m3]
        simp only [Option.bind_some]
        rw [if_le (by omega) (by omega) (by omega) (by omega), if_neg (by omega), m4]
        simp only [Option.bind_some]
        rw [if_lt (by omega) (by omega) (by omega) (by omega), if_neg (by omega)]
      · obtain ⟨u, w, T3, T2, m1, m2, m3, m4, m5, m6⟩ := try_mark p3 hj hj' he he' q3 qp qb (v := z) (by omega) (by omega)
        have b := sb z (by omega)
        have ge := zy (by omega)
        refine ⟨T2, ?_, m6⟩
        rw [if_neg qz, m1]
        simp only [Option.bind_some]
        rw [if_lt (by omega) (by omega) (by omega) (by omega), if_neg (by omega), m3]
        simp only [Option.bind_some]
        rw [if_lt (by omega) (by omega) (by omega) (by omega), if_neg (by omega), m4]
        simp only [Option.bind_some]
        rw [if_lt (by omega) (by omega) (by omega) (by omega), if_neg (by omega)]
    have g0 : ∀ x : SX11, gd (isB (iI 0)) (some (iI 0, x)) = some (iI 0, x) := fun _ => rfl
    have g1 : ∀ x : SX11, gd (isB (iI 1)) (some (iI 1, x)) = some (iI 1, x) := fun _ => rfl
    by_cases qz : z ≤ 0
    · obtain ⟨T2, p5, p6⟩ := p4 T h
      refine ⟨T2, ?_, p6⟩
      unfold DL_needs
      simp only [lits, iI_neg, jn_eq, n1, n0, Option.bind_some, iI_sub, if_true, g0, g1, ne10, if_false]
      rw [if_le (by omega) (by omega) (by omega) (by omega), if_pos zl, if_le (by omega) (by omega) (by omega) (by omega), if_pos qz]
      exact p5
    · obtain ⟨u, w, T1, T3, m1, m2, m3, m4, m5, m6⟩ := try_mark h hj hj' he he' q3 qp qb (v := z - 1) (by omega) (by omega)
      have b := sb (z - 1) (by omega)
      have lt := zp (z - 1) (by omega) (by omega)
      obtain ⟨T2, p5, p6⟩ := p4 T3 m6
      refine ⟨T2, ?_, p6⟩
      unfold DL_needs
      simp only [lits, iI_neg, jn_eq, n1, n0, Option.bind_some, iI_sub, if_true, g0, g1, ne10, if_false, m1]
      rw [if_le (by omega) (by omega) (by omega) (by omega), if_pos zl, if_le (by omega) (by omega) (by omega) (by omega), if_neg qz, if_lt (a := u) (by omega) (by omega) (by omega) (by omega), if_neg (by omega), m3]
      simp only [Option.bind_some]
      rw [if_le (by omega) (by omega) (by omega) (by omega), if_neg (by omega), m4]
      simp only [Option.bind_some]
      rw [if_lt (a := w) (by omega) (by omega) (by omega) (by omega), if_neg (by omega)]
      exact p5
  · have n1 := E_needed_s hr hj hj' he he' hs0 hs1 q
    have n0 := E_needed_s hr hj hj' he he' (s := 0) (by omega) (by omega) q
    have i3 := E_info hr (w := 3) (by omega) (by omega)
    have e2 := E_entrant hr he he' (w := 2) (by omega) (by omega)
    rw [show infoZ M 3 = M 3 from rfl] at i3
    rw [(ofE M e).2.2.1] at e2
    refine ⟨T, ?_, h⟩
    unfold DL_needs
    simp only [lits, iI_neg, jn_eq, n1, n0, i3, e2, Option.bind_some, if_true]
    rw [if_le (by omega) (by omega) (by omega) (by omega), if_neg (by omega), if_eq (by omega) (by omega) (by omega) (by omega)]
    by_cases q3 : M 3 = 1
    · rw [if_pos q3]
      cases hh : hpZ M e with
      | false => rfl
      | true =>
        have sl := hs e he (by omega) hh
        have mm : ¬ mayMarkZ M j e = true := by
          intro h9
          exact q ⟨q3, hh, (may_st h9).2⟩
        rw [if_pos rfl, if_lt (by omega) (by omega) (by omega) (by omega), if_neg (by omega), E_mark_s h ⟨hj, hj'⟩ ⟨he, he'⟩ (by rw [if_neg (by omega)]; omega) mm]
        simp only [Option.bind_some, if_true]
        rfl
    · rw [if_neg q3]
      rfl
end RN
