/-! what holds of entrants, stage order, marks in every state -/
section SO
variable {M : Int → Int} {T : SX11}
/-- the set of those among the first j of the stage order -/
def mskI (M : Int → Int) (j : Nat) (s : Int32) : Prop := ∀ i : Nat, i < 12 → (bt s i = true ↔ ∃ k : Int, 0 ≤ k ∧ k < j ∧ M (462 + k) = i)
theorem sound_L39 (h : RR T M) (hy : yI M) (k16 : Unit → Option Int32) (k17 : Int32 → Option Int32) : ∃ s, DL_sound_L39 T (iI (M 3)) (iI (M 6)) (iI (M 0)) (iI (M 7)) (iI 0) (iI 0) k16 k17 13 (iI 0) (iI 0) = k17 s ∧ mskI M (M 7).toNat s := by
  obtain ⟨hR, hT, hW, hIn, hTi, hk, hs, hO, hN, hru, hba, hty, hml⟩ := id h.2
  obtain ⟨t0, t1, t2, t3, t4, t6, t7, t8⟩ := id hT
  have t12 : M 7 ≤ 12 := by omega
  refine upE (fun f j s => DL_sound_L39 T (iI (M 3)) (iI (M 6)) (iI (M 0)) (iI (M 7)) (iI 0) (iI 0) k16 k17 f s (iI j)) k17 (mskI M) (M 7).toNat ?_ ?_ 13 (iI 0) (by omega) ?_
  · intro f j s hj hI
    obtain ⟨p, hp⟩ : ∃ p : Int, p = M (462 + (j : Int)) := ⟨_, rfl⟩
    have p0 := hO.1 j (by omega) (by omega)
    rw [← hp] at p0
    have e1 : ofEntrantZ M p 1 = j := by
      rw [(ofE M p).2.1, hp]
      exact plc_ord hO (by omega) (by omega)
    have pl : plcZ M p = j := by rw [← (ofE M p).2.1, e1]
    have hb : ¬ bt s p.toNat = true := by
      rw [hI p.toNat (by omega)]
      rintro ⟨k, a, b, d⟩
      refine hO.2 k j a (by omega) (by omega) ?_
      rw [d, ← hp]
      omega
    refine ⟨s ||| (iI 1 <<< (iI p &&& iI 31)), ?_, ?_⟩
    · show DL_sound_L39 _ _ _ _ _ _ _ _ _ _ _ _ = DL_sound_L39 _ _ _ _ _ _ _ _ _ _ _ _
      rw [DL_sound_L39]
      simp only [iI_lit, iI_neg, jn_eq]
      rw [if_le (by omega) (by omega) (by omega) (by omega), if_neg (by omega), E_stage h (by omega) (by omega), if_pos (by omega), ← hp]
      simp only [Option.bind_some, bit_at p0.1 (show p < 12 by omega), iI_add]
      rw [if_lt (by omega) (by omega) (by omega) (by omega), if_neg (by omega), if_le (by omega) (by omega) (by omega) (by omega), if_neg (by omega), if_neg hb]
      simp only [E_entrant h p0.1 p0.2 (show (0 : Int) ≤ 1 by omega) (by omega), E_entrant h p0.1 p0.2 (show (0 : Int) ≤ 2 by omega) (by omega), E_entrant h p0.1 p0.2 (show (0 : Int) ≤ 0 by omega) (by omega), E_entrant h p0.1 p0.2 (show (0 : Int) ≤ 4 by omega) (by omega), E_info h (show (0 : Int) ≤ 9 by omega) (by omega), Option.bind_some, e1, (inf M).2.2.2.2.2.2.2.2.2.1, if_true, if_false, ne10, ne01]
      rw [(ofE M p).2.2.1, (ofE M p).1, (ofE M p).2.2.2.2.1]
      by_cases q8 : (j : Int) < M 8
      · have hp8 : hpZ M p = true := hp_plc.mpr ⟨by omega, by omega⟩
        have sl := hs p p0.1 (by omega) hp8
        rw [hp8, if_pos rfl]
        simp (disch := omega) only [if_lt, if_le]
        rw [if_neg (show ¬ M (474 + p) < 0 by omega), if_neg (show ¬ M 8 ≤ (j : Int) by omega), if_eq (by omega) (by omega) (by omega) (by omega)]
        by_cases q3 : M 3 = 1
        · have i1 := (hy.1 q3 p p0.1 p0.2).mp (by omega)
          rw [if_pos q3, i1, if_pos rfl, if_pos q8]
          rfl
        · rw [if_neg q3]
          rfl
      · have hp8 : hpZ M p = false := by
          cases hh : hpZ M p with
          | false => rfl
          | true => have := hp_plc.mp hh; omega
        rw [hp8, show (if false = true then M (474 + p) else -1) = -1 from rfl]
        rw [if_lt (a := -1) (by omega) (by omega) (by omega) (by omega), if_pos (show (-1 : Int) < 0 by omega), if_le (by omega) (by omega) (by omega) (by omega), if_pos (show M 8 ≤ (j : Int) by omega), if_eq (by omega) (by omega) (by omega) (by omega)]
        by_cases q3 : M 3 = 1
        · have i1 := (hy.1 q3 p p0.1 p0.2).mp (by omega)
          have sc : scoreZ M p = -1 := by unfold scoreZ; rw [if_pos (Or.inr hp8)]
          rw [if_pos q3, i1, if_pos rfl, if_lt (by omega) (by omega) (by omega) (by omega), if_neg q8, sc, if_pos rfl]
          rfl
        · rw [if_neg q3]
          rfl
    · intro i hi
      rw [bit_or p0.1 (by omega) hi, Bool.or_eq_true, decide_eq_true_iff, hI i hi]
      constructor
      · rintro (⟨k, a, b, d⟩ | d)
        · exact ⟨k, a, by omega, d⟩
        · exact ⟨j, by omega, by omega, by rw [← hp]; exact d.symm⟩
      · rintro ⟨k, a, b, d⟩
        by_cases q : k = j
        · right; rw [hp, ← q]; exact d.symm
        · exact Or.inl ⟨k, a, by omega, d⟩
  · intro f s hI
    show DL_sound_L39 _ _ _ _ _ _ _ _ _ _ _ _ = _
    rw [DL_sound_L39, if_le (by omega) (by omega) (by omega) (by omega), if_pos (by omega)]
  · intro i hi
    rw [show iI 0 = (0 : Int32) from rfl, b_0]
    exact ⟨fun h => (by cases h), fun ⟨k, a, b, _⟩ => (by omega)⟩
/-- the marks of one entrant: none out of range, how many, whether one is wanting -/
theorem sound_L223 (h : RR T M) (hy : yI M) (c5 c6 c7 : Int32) {e : Int} (he : 0 ≤ e) (he' : e < M 6) (k75 : Unit → Option Int32) (k76 : Int32 → Int32 → Option Int32) : DL_sound_L223 T (iI (M 3)) (iI (M 6)) (iI (M 0)) (iI (M 7)) c5 c6 c7 (iI e) k75 k76 8 (iI 0) (iI 0) (iI 0) (iI 0) = k76 (iI (gvZ M e (M 0).toNat)) (iI (gvZ M e (M 0).toNat)) := by
  obtain ⟨hR, hT, hW, hIn, hTi, hk, hs, hO, hN, hru, hba, hty, hml⟩ := id h.2
  obtain ⟨t0, t1, t2, t3, t4, t6, t7, t8⟩ := id hT
  have key := upE (fun f j (s : Int32 × Int32 × Int32) => DL_sound_L223 T (iI (M 3)) (iI (M 6)) (iI (M 0)) (iI (M 7)) c5 c6 c7 (iI e) k75 k76 f s.1 s.2.1 s.2.2 (iI j)) (fun s => k76 s.1 s.2.1) (fun j s => s.1 = iI (gvZ M e j) ∧ s.2.1 = iI (gvZ M e j)) (M 0).toNat ?_ ?_ 8 (iI 0, iI 0, iI 0) (by omega) ⟨rfl, rfl⟩
  · obtain ⟨s', h1, h2⟩ := key
    rw [h2.1, h2.2] at h1
    exact h1
  · intro f j s hj hI
    obtain ⟨v9, v10, v11⟩ := s
    obtain ⟨i1, i2⟩ := hI
    have i1' : v9 = iI (gvZ M e j) := i1
    have i2' : v10 = iI (gvZ M e j) := i2
    clear i1 i2
    subst i1'
    subst i2'
    have b1 := hk j e (by omega) (by omega) he (by omega)
    have b2 := hml j e (by omega) (by omega) he (by omega)
    have b3 := hy.2.1 j e (by omega) (by omega) he (by omega)
    have eg : gvZ M e (j + 1) = gvZ M e j + (if 0 ≤ M (486 + (12 * (j : Int) + e)) then 1 else 0) := by
      show gvZ M e j + (if decide (0 ≤ M (486 + (12 * (j : Int) + e))) = true then 1 else 0) = _
      by_cases q : 0 ≤ M (486 + (12 * (j : Int) + e))
      · rw [if_pos q, if_pos (decide_eq_true q)]
      · rw [if_neg q, if_neg (by rw [decide_eq_false q]; decide)]
    have m0 := E_marked h (j := j) (e := e) false (by omega) (by omega) he he'
    have m1 := E_marked h (j := j) (e := e) true (by omega) (by omega) he he'
    rw [if_neg (by decide)] at m0
    rw [if_pos rfl] at m1
    have m0' : DL_marked T (iI j) (iI e) (iI 0) = some (iI (M (486 + (12 * (j : Int) + e)))) := m0
    have m1' : DL_marked T (iI j) (iI e) (iI 1) = some (iI (M (570 + (12 * (j : Int) + e)))) := m1
    have tie : M (570 + (12 * (j : Int) + e)) = -1 ∨ (M 3 = 2 ∧ M (654 + e) = 1) := by
      by_cases q : M (654 + e) = 1
      · exact Or.inr ⟨(hty.1 e he (by omega) q).1, q⟩
      · exact Or.inl (hty.2.1 j e (by omega) (by omega) he (by omega) q)
    generalize M (486 + (12 * (j : Int) + e)) = x at *
    generalize M (570 + (12 * (j : Int) + e)) = y at *
    have key : ∀ a b w : Int32, (if iI x < iI (-2) then k75 () else if iI 100 < iI x then k75 () else (DL_marked T (iI j) (iI e) (iI 1)).bind fun x125 => if iI 10 < x125 then k75 () else (DL_marked T (iI j) (iI e) (iI 1)).bind fun x127 => if x127 = iI (-1) then DL_sound_L223 T (iI (M 3)) (iI (M 6)) (iI (M 0)) (iI (M 7)) c5 c6 c7 (iI e) k75 k76 f a b w (iI ((j : Int) + 1)) else if iI (M 3) = iI 2 then (DL_entrant T (iI e) (iI 6)).bind fun x130 => if x130 = iI 1 then DL_sound_L223 T (iI (M 3)) (iI (M 6)) (iI (M 0)) (iI (M 7)) c5 c6 c7 (iI e) k75 k76 f a b w (iI ((j : Int) + 1)) else k75 () else k75 ()) = DL_sound_L223 T (iI (M 3)) (iI (M 6)) (iI (M 0)) (iI (M 7)) c5 c6 c7 (iI e) k75 k76 f a b w (iI ((j : Int) + 1)) := by
      intro a b w
      rw [if_lt (by omega) (by omega) (by omega) (by omega), if_neg (by omega), if_lt (by omega) (by omega) (by omega) (by omega), if_neg (by omega), m1']
      simp only [Option.bind_some]
      rw [if_lt (by omega) (by omega) (by omega) (by omega), if_neg (by omega), if_eq (by omega) (by omega) (by omega) (by omega)]
      rcases tie with q | ⟨q1, q2⟩
      · rw [if_pos q]
      · by_cases q : y = -1
        · rw [if_pos q]
        · rw [if_neg q, if_eq (by omega) (by omega) (by omega) (by omega), if_pos q1, E_entrant h he he' (by omega) (by omega), (ofE M e).2.2.2.2.2.2, q2]
          simp only [Option.bind_some, if_true]
    refine ⟨(iI (gvZ M e (j + 1)), iI (gvZ M e (j + 1)), (if v11 = iI 0 then (if iI x = iI (-1) then iI 1 else iI 0) else iI 1)), ?_, rfl, rfl⟩
    show DL_sound_L223 _ _ _ _ _ _ _ _ _ _ _ _ _ _ _ _ = DL_sound_L223 _ _ _ _ _ _ _ _ _ _ _ _ _ _ _ _
    rw [DL_sound_L223, eg]
    simp only [iI_lit, iI_neg, jn_eq]
    rw [if_le (by omega) (by omega) (by omega) (by omega), if_neg (by omega), m0']
    simp only [Option.bind_some, iI_add]
    by_cases q0 : 0 ≤ x
    · rw [if_pos q0]
      simp only [if_lt (show -2147483648 ≤ x by omega) (show x < 2147483648 by omega) (show (-2147483648 : Int) ≤ 0 by omega) (show (0 : Int) < 2147483648 by omega), if_neg (show ¬ x < 0 by omega), key]
      have ne : ¬ iI x = iI (-1) := by rw [iI_eq (by omega) (by omega) (by omega) (by omega)]; omega
      by_cases qv : v11 = iI 0
      · rw [if_pos qv, if_neg ne, if_pos qv, if_neg ne]
        rfl
      · rw [if_neg qv, if_neg qv]
        rfl
    · rw [if_neg q0]
      simp only [if_lt (show -2147483648 ≤ x by omega) (show x < 2147483648 by omega) (show (-2147483648 : Int) ≤ 0 by omega) (show (0 : Int) < 2147483648 by omega), if_pos (show x < 0 by omega), key]
      by_cases qv : v11 = iI 0
      · rw [if_pos qv, if_pos qv]
        by_cases qx : iI x = iI (-1)
        · rw [if_pos qx, if_pos qx]
          rfl
        · rw [if_neg qx, if_neg qx]
          rfl
      · rw [if_neg qv, if_neg qv]
        rfl
  · intro f s hI
    show DL_sound_L223 _ _ _ _ _ _ _ _ _ _ _ _ _ _ _ _ = _
    rw [DL_sound_L223, if_le (by omega) (by omega) (by omega) (by omega), if_pos (by omega)]
/-- how many are in, or tied, among the first n -/
theorem sound_L180 (h : RR T M) (hy : yI M) {s : Int32} (hm : mskI M (M 7).toNat s) (k27 k28 : Unit → Option Int32) (k29 : Int32 → Int32 → Option Int32) : DL_sound_L180 T (iI (M 3)) (iI (M 6)) (iI (M 0)) (iI (M 7)) s k27 k28 k29 13 (iI 0) (iI 0) (iI 0) = k29 (iI (countInZ M)) (iI (tiedZ M)) := by
  obtain ⟨hR, hT, hW, hIn, hTi, hk, hs, hO, hN, hru, hba, hty, hml⟩ := id h.2
  obtain ⟨t0, t1, t2, t3, t4, t6, t7, t8⟩ := id hT
  have t12 : M 7 ≤ 12 := by omega
  have key := upL (fun f j => DL_sound_L180 T (iI (M 3)) (iI (M 6)) (iI (M 0)) (iI (M 7)) s k27 k28 k29 f (iI (sm (fun e => M (126 + e)) j)) (iI (sm (fun e => M (654 + e)) j)) (iI j)) (k29 (iI (countInZ M)) (iI (tiedZ M))) (M 6).toNat ?_ ?_ 13 (by omega)
  · exact key
  · intro f j hj
    obtain ⟨e, he9⟩ : ∃ e : Int, e = (j : Int) := ⟨_, rfl⟩
    have he : 0 ≤ e := by omega
    have he' : e < M 6 := by omega
    show DL_sound_L180 _ _ _ _ _ _ _ _ _ _ _ _ _ = DL_sound_L180 _ _ _ _ _ _ _ _ _ _ _ _ _
    rw [DL_sound_L180, show sm (fun e => M (126 + e)) (j + 1) = sm (fun e => M (126 + e)) j + M (126 + e) by rw [he9]; rfl, show sm (fun e => M (654 + e)) (j + 1) = sm (fun e => M (654 + e)) j + M (654 + e) by rw [he9]; rfl, show ((j + 1 : Nat) : Int) = e + 1 by omega, ← he9]
    generalize sm (fun e => M (126 + e)) j = a1
    generalize sm (fun e => M (654 + e)) j = a2
    have E0 := E_entrant h he he' (show (0 : Int) ≤ 0 by omega) (by omega)
    have E1 := E_entrant h he he' (show (0 : Int) ≤ 1 by omega) (by omega)
    have E2 := E_entrant h he he' (show (0 : Int) ≤ 2 by omega) (by omega)
    have E3 := E_entrant h he he' (show (0 : Int) ≤ 3 by omega) (by omega)
    have E4 := E_entrant h he he' (show (0 : Int) ≤ 4 by omega) (by omega)
    have E5 := E_entrant h he he' (show (0 : Int) ≤ 5 by omega) (by omega)
    have E6 := E_entrant h he he' (show (0 : Int) ≤ 6 by omega) (by omega)
    rw [(ofE M e).1] at E0
    rw [(ofE M e).2.1] at E1
    rw [(ofE M e).2.2.1] at E2
    rw [(ofE M e).2.2.2.1] at E3
    rw [(ofE M e).2.2.2.2.1] at E4
    rw [(ofE M e).2.2.2.2.2.1] at E5
    rw [(ofE M e).2.2.2.2.2.2] at E6
    have i0 := hIn e he (by omega)
    have i6 := hTi e he (by omega)
    have sc := scoreZ_100 h.2 he (show e < 12 by omega)
    have pb := plcZ_b M e t12
    have hbit := hm e.toNat (by omega)
    have hbp : bt s e.toNat = true ↔ plcZ M e ≠ -1 := by
      rw [hbit, plc_iff]
      constructor
      · rintro ⟨k, a, b, d⟩; exact ⟨k, a, by omega, by omega⟩
      · rintro ⟨k, a, b, d⟩; exact ⟨k, a, by omega, by omega⟩
    have gv0 : 0 ≤ gvZ M e (M 0).toNat := cn_lo _ _
    have gv1 : gvZ M e (M 0).toNat ≤ (M 0).toNat := cn_hi _ _
    have cg := cnt_gv (M := M) e
    have c0 : 0 ≤ countingZ M (if M 3 = 2 then 570 else 486) e := cn_lo _ _
    have c1 : countingZ M (if M 3 = 2 then 570 else 486) e ≤ (M 0).toNat := cn_hi _ _
    simp only [iI_lit, iI_neg, jn_eq, E0, E6, Option.bind_some, iI_add]
    rw [if_le (by omega) (by omega) (by omega) (by omega), if_neg (by omega), sound_L223 h hy _ _ _ he he']
    simp only [E1, E2, E3, E4, E5, Option.bind_some, bit_at he (show e < 12 by omega), iI_mul, if_true, if_false, ne10, ne01]
    -- who is no player shows nothing
    have np : plcZ M e = -1 → hpZ M e = false ∧ scoreZ M e = -1 ∧ isCompleteZ M e = false ∧ gvZ M e (M 0).toNat = 0 ∧ M (654 + e) = 0 := by
      intro q
      have hp : hpZ M e = false := by
        cases hh : hpZ M e with
        | false => rfl
        | true => have := hp_plc.mp hh; omega
      refine ⟨hp, by unfold scoreZ; rw [if_pos (Or.inr hp)], by unfold isCompleteZ; rw [hp]; rfl, ?_, ?_⟩
      · refine cn_zero _ fun k hk9 => ?_
        rw [hN k e (by omega) (by omega) he (by omega) hp]
        decide
      · rcases i6 with q6 | q6
        · exact q6
        · exact absurd q (hty.1 e he (by omega) q6).2
    have cpl : isCompleteZ M e = true → M 0 ≤ 2 * gvZ M e (M 0).toNat := by
      intro q
      unfold isCompleteZ isMarkedZ at q
      rw [Bool.and_eq_true, Bool.and_eq_true, decide_eq_true_iff] at q
      omega
    have tie1 : M (654 + e) = 1 → M 3 = 2 ∧ M (126 + e) = 1 := fun q => ⟨(hty.1 e he (by omega) q).1, hy.2.2.1 e he (by omega) q⟩
    have sl : 0 ≤ scoreZ M e → hpZ M e = true ∧ 0 ≤ M (474 + e) ∧ M (474 + e) ≤ 20 := fun q => ⟨score_hp q, hs e he (by omega) (score_hp q)⟩
    have y1 : M 3 = 1 → (plcZ M e ≠ -1 ↔ M (126 + e) = 1) := fun q => hy.1 q e he he'
    have cq : M 3 ≠ 2 → countingZ M (if M 3 = 2 then 570 else 486) e ≤ gvZ M e (M 0).toNat := fun q => by rw [if_neg q]; exact cg
    have hp2 : (if hpZ M e = true then M (474 + e) else -1) = -1 ∨ (hpZ M e = true ∧ 0 ≤ M (474 + e) ∧ M (474 + e) ≤ 20) := by
      cases hh : hpZ M e with
      | false => left; rfl
      | true => right; exact ⟨rfl, hs e he (by omega) hh⟩
    generalize countingZ M (if M 3 = 2 then 570 else 486) e = cz at *
    generalize gvZ M e (M 0).toNat = gv at *
    generalize scoreZ M e = sz at *
    generalize M (126 + e) = in9 at *
    generalize M (654 + e) = ti9 at *
    have fin : ∀ D : Option Int32, (if iI sz < iI 0 then D else if iI 0 ≤ iI (if hpZ M e = true then M (474 + e) else -1) then D else k28 ()) = D := by
      intro D
      rw [if_lt (by omega) (by omega) (by omega) (by omega)]
      by_cases q : sz < 0
      · rw [if_pos q]
      · rw [if_neg q]
        obtain ⟨u1, u2, u3⟩ := sl (by omega)
        rw [u1, if_pos rfl, if_le (by omega) (by omega) (by omega) (by omega), if_pos u2]
    simp only [fin]
    by_cases qp : plcZ M e = -1
    · have nb : ¬ bt s e.toNat = true := fun q => hbp.mp q qp
      obtain ⟨n1, n2, n3, n4, n5⟩ := np qp
      simp only [if_neg nb, n1, n2, n3, n4, n5, qp]
      have z3 : ∀ D : Option Int32, (if iI (M 3) = iI 1 then if iI in9 = iI 1 then k28 () else D else D) = D := by
        intro D
        rw [if_eq (by omega) (by omega) (by omega) (by omega)]
        by_cases q3 : M 3 = 1
        · have := y1 q3
          rw [if_pos q3, if_eq (by omega) (by omega) (by omega) (by omega), if_neg (by omega)]
        · rw [if_neg q3]
      simp only [z3]
      simp (disch := omega) only [if_lt, if_le, if_eq, if_pos, if_neg, Bool.false_eq_true, reduceIte, ite_self]
    · have nb : bt s e.toNat = true := hbp.mpr qp
      simp only [if_pos nb]
      have z3 : ∀ D : Option Int32, (if iI (M 3) = iI 1 then if iI in9 = iI 1 then D else k28 () else D) = D := by
        intro D
        rw [if_eq (by omega) (by omega) (by omega) (by omega)]
        by_cases q3 : M 3 = 1
        · have := y1 q3
          rw [if_pos q3, if_eq (by omega) (by omega) (by omega) (by omega), if_pos (by omega)]
        · rw [if_neg q3]
      simp only [z3]
      have z6 : ∀ D : Option Int32, (if iI ti9 = iI 1 then if iI (M 3) = iI 2 then if iI in9 = iI 1 then D else k28 () else k28 () else D) = D := by
        intro D
        rw [if_eq (by omega) (by omega) (by omega) (by omega)]
        by_cases q3 : ti9 = 1
        · have := tie1 q3
          rw [if_pos q3, if_eq (by omega) (by omega) (by omega) (by omega), if_pos (by omega), if_eq (by omega) (by omega) (by omega) (by omega), if_pos (by omega)]
        · rw [if_neg q3]
      simp only [z6]
      have z5 : ∀ D : Option Int32, (if iI (if isCompleteZ M e = true then 1 else 0) = iI 1 then if iI (2 * gv) < iI (M 0) then k28 () else D else D) = D := by
        intro D
        cases q5 : isCompleteZ M e with
        | false => rfl
        | true =>
          have := cpl q5
          rw [if_pos rfl, if_pos rfl, if_lt (by omega) (by omega) (by omega) (by omega), if_neg (by omega)]
      simp only [z5]
      rw [if_lt (by omega) (by omega) (by omega) (by omega), if_neg (by omega), if_lt (by omega) (by omega) (by omega) (by omega), if_neg (by omega), if_eq (by omega) (by omega) (by omega) (by omega)]
      by_cases q3 : M 3 = 2
      · rw [if_pos q3]
      · have := cq q3
        rw [if_neg q3, if_lt (by omega) (by omega) (by omega) (by omega), if_neg (by omega)]
  · intro f
    show DL_sound_L180 _ _ _ _ _ _ _ _ _ _ _ _ _ = _
    rw [DL_sound_L180, if_le (by omega) (by omega) (by omega) (by omega), if_pos (by omega)]
    rfl
theorem sound_ok (h : RR T M) (hy : yI M) : DL_sound T = some (iI 1) := by
  obtain ⟨hR, hT, hW, hIn, hTi, hk, hs, hO, hN, hru, hba, hty, hml⟩ := id h.2
  obtain ⟨t0, t1, t2, t3, t4, t6, t7, t8⟩ := id hT
  have tb := tiedZ_b hTi hT
  have cb := countInZ_b hIn hT
  have I := fun w a b => E_info h (w := w) a b
  have i0 := I 0 (by omega) (by omega)
  have i3 := I 3 (by omega) (by omega)
  have i4 := I 4 (by omega) (by omega)
  have i6 := I 6 (by omega) (by omega)
  have i7 := I 7 (by omega) (by omega)
  have i8 := I 8 (by omega) (by omega)
  have i10 := I 10 (by omega) (by omega)
  have i11 := I 11 (by omega) (by omega)
  have i12 := I 12 (by omega) (by omega)
  simp only [inf M] at i0 i3 i4 i6 i7 i8 i10 i11 i12
  have st : DX11_stage (gX11_now T) (iI (M 7)) = some (iI (-1)) := by rw [E_stage h (by omega) (by omega), if_neg (by omega)]
  unfold DL_sound
  simp only [iI_lit, iI_neg, jn_eq, i0, i3, i6, i8, Option.bind_some]
  obtain ⟨s, e1, e2⟩ := sound_L39 h hy (fun _ => some (iI 0)) (fun (v6_19 : Int32) => DL_sound_L180 T (iI (M 3)) (iI (M 6)) (iI (M 0)) (iI (M 7)) v6_19 (fun _ => some (iI 0)) (fun _ => some (iI 0)) (fun (v5_32 : Int32) (v7_33 : Int32) => (DL_info T (iI 7)).bind fun x34 => if v5_32 = x34 then (DL_info T (iI 10)).bind fun x40 => if v7_33 = x40 then (DX11_stage (gX11_now T) (iI (M 7))).bind fun x42 => if x42 = iI (-1) then if iI (M 3) = iI 2 then (DL_info T (iI 11)).bind fun x52 => if v7_33 ≤ x52 then gd (isB (iI 0)) (some (iI 0)) else (DL_info T (iI 11)).bind fun x54 => if x54 ≤ iI 0 then gd (isB (iI 0)) (some (iI 0)) else (DL_info T (iI 12)).bind fun x56 => if x56 ≤ iI 0 then gd (isB (iI 0)) (some (iI 0)) else (DL_info T (iI 12)).bind fun x58 => if iI 4 ≤ x58 then gd (isB (iI 0)) (some (iI 0)) else if iI 0 < iI (M 3) then gd (isB (iI 1)) (some (iI 1)) else if iI (M 7) = iI 0 then (DL_info T (iI 4)).bind fun x46 => if x46 = iI 0 then gd (isB (iI 1)) (some (iI 1)) else gd (isB (iI 0)) (some (iI 0)) else gd (isB (iI 0)) (some (iI 0)) else if v7_33 = iI 0 then (DL_info T (iI 11)).bind fun x48 => if x48 = iI 0 then (DL_info T (iI 12)).bind fun x50 => if x50 = iI 0 then if iI 0 < iI (M 3) then gd (isB (iI 1)) (some (iI 1)) else if iI (M 7) = iI 0 then (DL_info T (iI 4)).bind fun x46 => if x46 = iI 0 then gd (isB (iI 1)) (some (iI 1)) else gd (isB (iI 0)) (some (iI 0)) else gd (isB (iI 0)) (some (iI 0)) else gd (isB (iI 0)) (some (iI 0)) else gd (isB (iI 0)) (some (iI 0)) else gd (isB (iI 0)) (some (iI 0)) else gd (isB (iI 0)) (some (iI 0)) else gd (isB (iI 0)) (some (iI 0)) else gd (isB (iI 0)) (some (iI 0))) 13 (iI 0) (iI 0) (iI 0))
  refine (show _ = _ from e1).trans ?_
  rw [sound_L180 h hy e2]
  simp only [i7, i10, i11, i12, i4, st, Option.bind_some, if_true]
  rw [if_eq (by omega) (by omega) (by omega) (by omega)]
  have last : (if iI 0 < iI (M 3) then gd (isB (iI 1)) (some (iI 1)) else if iI (M 7) = iI 0 then if iI (M 4) = iI 0 then gd (isB (iI 1)) (some (iI 1)) else gd (isB (iI 0)) (some (iI 0)) else gd (isB (iI 0)) (some (iI 0))) = some (iI 1) := by
    rw [if_lt (by omega) (by omega) (by omega) (by omega)]
    by_cases q : 0 < M 3
    · rw [if_pos q]; rfl
    · rw [if_neg q]
      have e7 := hty.2.2.2.2.2.2.1 (by omega)
      have e4 := hy.2.2.2.2.1 (by omega)
      rw [e7, e4, if_pos rfl, if_pos rfl]
      rfl
  rw [last]
  by_cases q : M 3 = 2
  · have q1 := hy.2.2.2.1 q
    have q2 := hty.2.2.2.1 q
    have q3 := hty.2.2.2.2.2.1
    have q9 := hty.2.2.2.2.1
    rw [if_pos q, if_le (by omega) (by omega) (by omega) (by omega), if_neg (by omega), if_le (by omega) (by omega) (by omega) (by omega), if_neg (by omega), if_le (by omega) (by omega) (by omega) (by omega), if_neg (by omega), if_le (by omega) (by omega) (by omega) (by omega), if_neg (by omega)]
  · have q2 := hty.2.2.1 q
    have e10 : tiedZ M = 0 := by
      refine sm_al _ fun k hk9 => ?_
      rcases hTi k (by omega) (by omega) with q6 | q6
      · exact q6
      · exact absurd (hty.1 k (by omega) (by omega) q6).1 q
    rw [if_neg q, e10, q2.1, q2.2, if_pos rfl, if_pos rfl, if_pos rfl]
end SO
