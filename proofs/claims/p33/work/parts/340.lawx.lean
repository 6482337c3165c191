section LX
variable {M N V : Int → Int} {T : SX11} {c : Int32 → Int32}
theorem law_main {E J : Int} (hE : 1 ≤ E ∧ E ≤ 10) (hJ : 1 ≤ J ∧ J ≤ 7) (k118 k120 k122 k124 k126 k129 k131 : SX11 → Option Int32) (hP : ∀ T' N, S0 T' N → LK (k131 T')) : ∀ (d f : Nat) (T : SX11) (M : Int → Int) (i : Int), 40 - i = d → 0 ≤ i → d < f → S0 T M → yI M → M 0 = J → M 6 = E → LK (DL_law_L721 c (iI E) (iI J) k118 k120 k122 k124 k126 k129 k131 f (iI i) T) := by
  have hP0 : 0 ≤ E * J := Int.mul_nonneg (by omega) (by omega)
  have hP1 : E * J ≤ 10 * 7 := Int.mul_le_mul hE.2 hJ.2 (by omega) (by omega)
  intro d
  induction d with
  | zero =>
    intro f T M i hd h0 hf h hy hj he
    obtain ⟨g, rfl⟩ : ∃ g, f = g + 1 := ⟨f - 1, by omega⟩
    rw [DL_law_L721]
    simp only [lit9]
    rw [if_le (by omega) (by omega) (by omega) (by omega), if_pos (by omega)]
    exact hP T M h
  | succ d ih =>
    intro f T M i hd h0 hf h hy hj0 he6
    obtain ⟨g, rfl⟩ : ∃ g, f = g + 1 := ⟨f - 1, by omega⟩
    obtain ⟨hR, hT, hW, hIn, hTi, hk, hs', hO, hN, hru, hba, hty, hml⟩ := id h.mk.1
    obtain ⟨t0, t1, t2, t3, t4, t6, t7, t8⟩ := id hT
    have ib := countInZ_b hIn hT
    rw [DL_law_L721]
    simp only [lits, lit9]
    rw [if_le (by omega) (by omega) (by omega) (by omega), if_neg (by omega)]
    rw [iI_div (a := i) (b := 4) (by omega) (by omega) (by omega) (by omega), iI_div (a := i) (b := 9) (by omega) (by omega) (by omega) (by omega)]
    simp only [iI_mul, iI_sub, iI_neg, iI_add]
    rw [gd_nn (by omega) (by omega), gd_nn (by omega) (by omega)]
    generalize c (iI (21 + i)) = a
    generalize c (iI (70 + i)) = b
    rw [lw_at (a >>> (iI 4 &&& iI 31)) hE.1 (by omega), lw_at (a >>> (iI 8 &&& iI 31)) hJ.1 (by omega)]
    have b1 := lw_b (a >>> (iI 4 &&& iI 31)) hE.1
    have b2 := lw_b (a >>> (iI 8 &&& iI 31)) hJ.1
    have b3 := lw_b a (n := 9) (by omega)
    have b4 := lw_b b (n := 100001) (by omega)
    have b5 := lw_b b (n := 3) (by omega)
    have b6 := lw_b b (n := 101) (by omega)
    have b7 := lw_b (b >>> (iI 3 &&& iI 31)) (n := 21) (by omega)
    generalize lw (a >>> (iI 4 &&& iI 31)) E = e at *
    generalize lw (a >>> (iI 8 &&& iI 31)) J = j at *
    have i3 := E_info h.rr (w := 3) (by omega) (by omega)
    have i9 := E_info h.rr (w := 9) (by omega) (by omega)
    have i8 := E_info h.rr (w := 8) (by omega) (by omega)
    have i7 := E_info h.rr (w := 7) (by omega) (by omega)
    simp only [inf M] at i3 i9 i8 i7
    simp only [lws, Option.bind_some, i3]
    generalize lw a 9 = op at *
    generalize lw b 100001 = v1 at *
    generalize lw b 3 = v2 at *
    generalize lw b 101 = v3 at *
    generalize lw (b >>> (iI 3 &&& iI 31)) 21 = v4 at *
    refine LKjn (fun j152 h152 => ?_)
    have after : ∀ (T' : SX11) (N : Int → Int), S0 T' N → yI N → N 0 = J → N 6 = E → LK (j152 T') := by
      intro T' N s1 s2 s3 s4
      obtain ⟨T2, n1, n2⟩ := needs_ok s1 (j := j) (e := e) (s := v1) (by omega) (by omega) (by omega) (by omega) (by omega) (by omega)
      rw [h152]
      simp only [sound_ok s1.rr s2, n1, Option.bind_some, ne10, if_false]
      refine LKjn (fun j160 h160 => ?_)
      have nxt : ∀ (T3 : SX11) (N3 : Int → Int), S0 T3 N3 → yI N3 → N3 0 = J → N3 6 = E → LK (j160 T3) := by
        intro T3 N3 m1 m2 m3 m4
        rw [h160]
        simp only [sound_ok m1.rr m2, flaws_ok m1.rr m2, Option.bind_some, ne10, if_false]
        refine LKjn (fun j164 h164 => ?_)
        have e164 : LK (j164 T3) := by
          rw [h164]
          exact ih g T3 N3 (i + 1) (by omega) (by omega) (by omega) m1 m2 m3 m4
        rw [if_eq (by omega) (by omega) (by omega) (by omega)]
        by_cases q : i - i / 9 * 9 = 8
        · rw [if_pos q]; exact e164
        · rw [if_neg q]; exact e164
      rw [if_eq (by omega) (by omega) (by omega) (by omega)]
      by_cases q : i - i / 4 * 4 = 3
      · rw [if_pos q]
        obtain ⟨T3, N3, c1, c2, c3, c4, c5⟩ := closes_ok n2 s2
        simp only [c1, Option.bind_some, ne10, if_false]
        exact nxt T3 N3 c2 c3 (by omega) (by omega)
      · rw [if_neg q]
        exact nxt T2 N n2 s2 s3 s4
    clear h152
    refine LKjn (fun j170 h170 => ?_)
    have e170 : LK (j170 T) := by
      rw [h170]
      have marks : LK (DL_law_L1161 c (iI E) (iI J) (iI i) b (iI e) (iI j) (iI (M 3)) k126 j152 71 (iI 0) T) := law_marks (iI i) b (iI e) (iI j) (s := M 3) (by omega) hJ rfl (by omega) k126 j152 after (E * J).toNat 71 T M 0 (by omega) (by omega) (by omega) h hy hj0 he6 rfl
      have sel : ∀ (β : Bool), (v2 = 0 ↔ β = true) → ∀ k : Int32 → Option Int32, LK (k (bI β)) → LK (if iI v2 = iI 0 then k (iI 1) else k (iI 0)) := by
        intro β hβ k hk
        rw [if_eq (by omega) (by omega) (by omega) (by omega)]
        cases β with
        | true => rw [if_pos (hβ.mpr rfl)]; exact hk
        | false => rw [if_neg (fun h9 => by have := hβ.mp h9; cases this)]; exact hk
      have hβ : v2 = 0 ↔ decide (v2 = 0) = true := decide_eq_true_iff.symm
      generalize decide (v2 = 0) = β at hβ
      dsimp only
      rw [if_eq (by omega) (by omega) (by omega) (by omega)]
      by_cases q3 : op = 3
      · rw [if_pos q3]
        refine LKjn (fun j241 h241 => sel β hβ j241 ?_)
        obtain ⟨T1, N1, c1, c2, c3, c4, c5, c6⟩ := bar_ok h hy (j := j) (e := e) β (by omega) (by omega)
        obtain ⟨T2, N2, d1, d2, d3, d4, d5, d6⟩ := bar_ok c2 c3 (j := j) (e := e) β (by omega) (by omega)
        rw [c6] at d1
        rw [h241]
        simp only [c1, Option.bind_some]
        refine LKjn (fun j247 h247 => sel β hβ j247 ?_)
        rw [h247]
        simp only [d1, Option.bind_some]
        rw [if_neg (show ¬ bI (isBarredZ M j e) < iI 0 by cases isBarredZ M j e <;> decide)]
        refine LKjn (fun j253 h253 => sel β hβ j253 ?_)
        rw [h253]
        simp only [if_true]
        refine LKjn (fun j255 h255 => ?_)
        have fin : LK (j255 T2) := by
          rw [h255]
          exact after T2 N2 d2 d3 (by omega) (by omega)
        by_cases qb : bI β = iI 1
        · have mm : ¬ mayMarkZ N2 j e = true := by
            intro h9
            have := (may_st h9).2
            rw [d6] at this
            rw [this] at qb
            exact absurd qb (by decide)
          rw [if_pos qb, E_mark_s d2 (j := j) (e := e) (v := 0) (by omega) (by omega) ⟨by omega, by split <;> omega⟩ mm]
          simp only [Option.bind_some, if_true]
          exact fin
        · rw [if_neg qb]
          exact fin
      · rw [if_neg q3, if_eq (by omega) (by omega) (by omega) (by omega)]
        by_cases q4 : op = 4
        · rw [if_pos q4]
          obtain ⟨T1, c1, c2⟩ := E_set h (w := 2) (v := v3) (by omega) (by unfold loS hiS; rw [if_neg (by omega), if_neg (by omega), if_neg (by omega), if_neg (by omega)]; omega) (Or.inl rfl)
          have st := c2.st
          have u2 := E_info st.rr (w := 2) (by omega) (by omega)
          rw [(inf _).2.2.1, updI_self] at u2
          simp only [c1, Option.bind_some]
          rw [if_lt (by omega) (by omega) (by omega) (by omega), if_neg (by omega)]
          simp only [u2, Option.bind_some, if_true]
          exact after T1 _ st (y_fr h hy (by omega)) (by rw [updI_ne (by omega), hj0]) (by rw [updI_ne (by omega), he6])
        · rw [if_neg q4]
          refine LKjn (fun j172 h172 => ?_)
          have e172 : LK (j172 T) := by
            rw [h172]
            exact marks
          rw [if_eq (by omega) (by omega) (by omega) (by omega)]
          by_cases q5 : op = 5
          · rw [if_pos q5, if_eq (by omega) (by omega) (by omega) (by omega)]
            by_cases qv : v2 = 0
            · rw [if_pos qv, i7]
              have g0 := E_entrant h.rr (e := e) (w := 0) (by omega) (by omega) (by omega) (by omega)
              rw [(ofE M e).1] at g0
              simp only [Option.bind_some, g0]
              by_cases qw : mwZ M e
              · obtain ⟨T1, N1, c1, c2, c3, c4, c5, c6, c7⟩ := wd_ok h hy (by omega) (by omega) qw
                have u0 := E_entrant c2.rr (e := e) (w := 0) (by omega) (by omega) (by omega) (by omega)
                have u1 := E_entrant c2.rr (e := e) (w := 1) (by omega) (by omega) (by omega) (by omega)
                rw [(ofE N1 e).1, c6] at u0
                rw [(ofE N1 e).2.1, c7] at u1
                simp only [c1, Option.bind_some]
                refine LKjn (fun j221 h221 => ?_)
                rw [if_eq (by omega) (by omega) (by omega) (by omega), if_neg (by omega), iI_sub, if_pos rfl, qw.1, if_pos rfl]
                simp only [u0, u1, Option.bind_some, if_true]
                rw [h221]
                refine LKjn (fun j223 h223 => ?_)
                rw [if_eq (by omega) (by omega) (by omega) (by omega), if_neg (by omega), h223]
                exact after T1 N1 c2 c3 (by omega) (by omega)
              · rw [E_withdraw_s h (e := e) (by omega) qw]
                simp only [Option.bind_some, if_true]
                refine LKjn (fun j221 h221 => ?_)
                rw [h221]
                refine LKjn (fun j223 h223 => ?_)
                simp only [i7, Option.bind_some, if_true]
                rw [h223]
                exact after T M h hy hj0 he6
            · rw [if_neg qv]; exact e172
          · rw [if_neg q5]; exact e172
    clear h170
    rw [if_le (by omega) (by omega) (by omega) (by omega)]
    by_cases qo : 3 ≤ op
    · rw [if_pos qo]; exact e170
    · rw [if_neg qo, if_eq (by omega) (by omega) (by omega) (by omega)]
      by_cases q1 : M 3 = 1
      · rw [if_pos q1, i9, i8]
        simp only [Option.bind_some]
        rw [if_le (by omega) (by omega) (by omega) (by omega)]
        by_cases q8 : M 7 ≤ M 8
        · rw [if_pos q8]; exact e170
        · have sg := E_stage h.rr (k := M 8) (by omega) (by omega)
          rw [if_pos (by omega)] at sg
          rw [if_neg q8]
          simp only [sg, Option.bind_some]
          refine LKjn (fun j270 h270 => ?_)
          have pl : ∀ s : Int, 0 ≤ s → s ≤ 20 → LK (j270 (iI s) T) := by
            intro s s0 s1
            obtain ⟨T1, N1, c1, c2, c3, c4, c5, c6, α, β, c7, c8, c9, c10, c11⟩ := play_ok h hy q1 (by omega) ⟨s0, s1⟩
            have u0 := E_info c2.rr (w := 0) (by omega) (by omega)
            rw [(inf N1).1] at u0
            rw [h270]
            simp only [c1, Option.bind_some, if_true, c6, c7]
            refine LKjn (fun j278 h278 => ?_)
            have fin : LK (j278 T1) := by
              rw [h278]
              exact after T1 N1 c2 c3 (by omega) (by omega)
            rw [if_eq (by split <;> omega) (by split <;> omega) (by omega) (by omega)]
            by_cases qα : α = true
            · rw [if_pos qα, if_neg (by omega), u0]
              simp only [Option.bind_some]
              rw [if_le (by omega) (by omega) (by omega) (by omega), if_neg (by omega), c8]
              simp only [Option.bind_some]
              rw [if_eq (by omega) (by omega) (by omega) (by omega), if_neg (c11 qα)]
              exact fin
            · rw [if_neg qα, if_pos rfl]
              exact fin
          clear h270
          rw [if_eq (by omega) (by omega) (by omega) (by omega)]
          by_cases qv : v2 = 0
          · rw [if_pos qv]
            exact pl v4 (by omega) (by omega)
          · rw [if_neg qv]
            exact pl 0 (by omega) (by omega)
      · rw [if_neg q1]; exact e170
end LX
