/-! the law's turns: marks, plays, bars, withdrawals -/
section LM
variable {M N V : Int → Int} {T : SX11} {L cc : Int} {c : Int32 → Int32}
theorem cntZ_b (M : Int → Int) (row e : Int) (h : M 0 ≤ 7) : 0 ≤ countingZ M row e ∧ countingZ M row e ≤ 7 := by
  have h1 := cn_lo (fun j => countsZ M row j e) (M 0).toNat
  have h2 := cn_hi (fun j => countsZ M row j e) (M 0).toNat
  unfold countingZ
  omega
theorem law_marks (c7 x c10 c11 : Int32) {E J s P : Int} (hE : E ≤ 12) (hJ : 1 ≤ J ∧ J ≤ 7) (hPE : E * J = P) (hPb : P ≤ 84) (k181 k183 : SX11 → Option Int32) (hP : ∀ T' N, S0 T' N → yI N → N 0 = J → N 6 = E → LK (k183 T')) : ∀ (d f : Nat) (T : SX11) (M : Int → Int) (i : Int), P - i = d → 0 ≤ i → d < f → S0 T M → yI M → M 0 = J → M 6 = E → M 3 = s → LK (DL_law_L1161 c (iI E) (iI J) c7 x c10 c11 (iI s) k181 k183 f (iI i) T) := by
  intro d
  induction d with
  | zero =>
    intro f T M i hd h0 hf h hy hj he hs
    obtain ⟨g, rfl⟩ : ∃ g, f = g + 1 := ⟨f - 1, by omega⟩
    rw [DL_law_L1161]
    simp only [iI_mul, hPE]
    rw [if_le (by omega) (by omega) (by omega) (by omega), if_pos (by omega)]
    exact hP T M h hy hj he
  | succ d ih =>
    intro f T M i hd h0 hf h hy hj he hs
    obtain ⟨g, rfl⟩ : ∃ g, f = g + 1 := ⟨f - 1, by omega⟩
    have t3 := h.mk.1.2.1.2.2.2.1
    rw [DL_law_L1161]
    simp only [lits, iI_mul, hPE]
    rw [if_le (by omega) (by omega) (by omega) (by omega), if_neg (by omega)]
    rw [iI_div (by omega) (by omega) (by omega) (by omega)]
    simp only [iI_mul, iI_sub, iI_neg, iI_add]
    have d1 : 0 ≤ i / J := Int.ediv_nonneg h0 (by omega)
    have d2 : i / J < E := Int.ediv_lt_of_lt_mul (by omega) (by omega)
    have d3 : i - i / J * J = i % J := by rw [Int.emod_def, Int.mul_comm]
    have d4 : 0 ≤ i % J := Int.emod_nonneg _ (by omega)
    have d5 : i % J < J := Int.emod_lt_of_pos _ (by omega)
    rw [d3]
    generalize i / J = e at *
    generalize i % J = j at *
    generalize x + iI i = y1
    generalize (x + iI (7 * i)) >>> (iI 2 &&& iI 31) = y2
    generalize x >>> (iI 9 &&& iI 31) = y3
    refine LKjn (fun j188 h188 => ?_)
    have key : ∀ lim : Int, 1 ≤ lim → lim ≤ 101 → (s = 2 → lim ≤ 11) → LK (j188 (iI lim) T) := by
      intro lim l1 l2 l3
      rw [h188]
      simp only [lw_at y2 l1 (show lim < 2147483648 by omega)]
      have b := lw_b y2 l1
      generalize lw y2 lim = v at *
      simp only [Option.bind_some, lws]
      have b1 := lw_b y1 (n := 11) (by omega)
      refine LKjn (fun j195 h195 => ?_)
      have fin : ∀ (T' : SX11) (N : Int → Int) (u : Int), S0 T' N → yI N → N 0 = J → N 6 = E → N 3 = s → -902 ≤ u → u ≤ 7 → (u = -902 ∨ u = countingZ N (opZ N) e) → LK (j195 (iI u) T') := by
        intro T' N u s1 s2 s3 s4 s5 s6 s7 s8
        have nxt := ih g T' N (i + 1) (by omega) (by omega) (by omega) s1 s2 s3 s4 s5
        rw [h195]
        refine LKjn (fun j197 h197 => ?_)
        rw [if_eq (by omega) (by omega) (by omega) (by omega)]
        by_cases q : u = -902
        · rw [if_pos q, h197]
          exact nxt
        · rw [if_neg q, gz_iI (by omega) (by omega) (by omega), E_entrant s1.rr d1 (by omega) (by omega) (by omega)]
          simp only [Option.bind_some]
          rw [(ofE N e).2.2.2.1]
          have cb := cntZ_b N (opZ N) e (by omega)
          have e3 : countingZ N (if N 3 = 2 then 570 else 486) e = u := by
            rcases s8 with q1 | q1
            · exact absurd q1 q
            · exact q1.symm
          rw [e3, if_pos rfl, h197]
          exact nxt
      have cb := fun w : Int => cntZ_b (updI M (opZ M + (12 * j + e)) w) (opZ M) e (by rw [updI_ne (by rcases opZ_b M with q | q <;> omega)]; omega)
      have ob := opZ_b M
      have eo : ∀ w : Int, opZ (updI M (opZ M + (12 * j + e)) w) = opZ M := fun w => by
        rw [opZ, updI_ne (by rcases opZ_b M with q | q <;> omega)]
        rfl
      have fr : ∀ w k : Int, k < 486 → updI M (opZ M + (12 * j + e)) w k = M k := fun w k hk => updI_ne (by rcases ob with q | q <;> omega)
      rw [if_eq (by omega) (by omega) (by omega) (by omega), gz_iI (by omega) (by omega) (by omega), gz_iI (by omega) (by omega) (by omega), gz_iI (by omega) (by omega) (by omega), gz_iI (by omega) (by omega) (by omega)]
      by_cases qm : mayMarkZ M j e = true
      · obtain ⟨T1, m1, m2⟩ := E_mark h (j := j) (e := e) (v := v) (by omega) (by omega) ⟨b.1, by split <;> omega⟩ qm
        obtain ⟨T2, a1, a2⟩ := E_abstain h (j := j) (e := e) (by omega) (by omega) qm
        simp only [m1, a1, Option.bind_some]
        by_cases q : lw y1 11 = 0
        · rw [if_pos q]
          have := cb (-2)
          exact fin T2 _ _ a2.st (y_mark h.mk hy d4 (by omega) d1 (by omega) (fun _ => by omega)) (by rw [fr _ 0 (by omega), hj]) (by rw [fr _ 6 (by omega), he]) (by rw [fr _ 3 (by omega), hs]) (by omega) (by omega) (Or.inr (by rw [eo]))
        · rw [if_neg q]
          have := cb v
          exact fin T1 _ _ m2.st (y_mark h.mk hy d4 (by omega) d1 (by omega) (fun _ => by omega)) (by rw [fr _ 0 (by omega), hj]) (by rw [fr _ 6 (by omega), he]) (by rw [fr _ 3 (by omega), hs]) (by omega) (by omega) (Or.inr (by rw [eo]))
      · have m1 := E_mark_s h (j := j) (e := e) (v := v) (by omega) (by omega) ⟨b.1, by split <;> omega⟩ qm
        have a1 := E_abstain_s h (j := j) (e := e) (by omega) (by omega) qm
        simp only [m1, a1, Option.bind_some]
        have f := fin T M (-902) h hy hj he hs (by omega) (by omega) (Or.inl rfl)
        by_cases q : lw y1 11 = 0
        · rw [if_pos q]; exact f
        · rw [if_neg q]; exact f
    clear h188
    rw [if_eq (by omega) (by omega) (by omega) (by omega)]
    by_cases q : s = 2
    · rw [if_pos q]
      exact key 4 (by omega) (by omega) (by omega)
    · rw [if_neg q]
      simp only [lws, Option.bind_some]
      have b3 := lw_b y3 (n := 2) (by omega)
      rw [if_eq (by omega) (by omega) (by omega) (by omega)]
      by_cases q2 : lw y3 2 = 0
      · rw [if_pos q2]
        exact key 4 (by omega) (by omega) (by omega)
      · rw [if_neg q2]
        exact key 101 (by omega) (by omega) (by omega)
end LM
