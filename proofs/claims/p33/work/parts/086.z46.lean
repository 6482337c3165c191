section KY
variable {M N B V : Int → Int} {S : SX12} {C : SX0} {s : Int → Int} {p : Int} {last : Bool}
theorem cn_rm {q : Int → Bool} {a : Nat} : ∀ m : Nat, a < m → cn q m = cn (fun e => q e && decide (e ≠ (a : Int))) m + if q a = true then 1 else 0 := by
  intro m
  induction m with
  | zero => intro h; omega
  | succ m ih =>
    intro ha
    rw [cn, cn]
    by_cases h : a = m
    · have e1 : cn (fun e => q e && decide (e ≠ (a : Int))) m = cn q m := cn_congr m fun k hk => by
        show (q k && decide ((k : Int) ≠ (a : Int))) = q k
        rw [decide_eq_true (show (k : Int) ≠ (a : Int) by omega), Bool.and_true]
      rw [e1, ← h, decide_eq_false (fun h9 => h9 rfl), Bool.and_false, if_neg (show ¬ false = true by decide), Int.add_zero]
    · rw [ih (by omega), decide_eq_true (show (m : Int) ≠ (a : Int) by omega), Bool.and_true]
      omega
theorem cn_zero {q : Int → Bool} : ∀ n : Nat, (∀ k : Nat, k < n → q k = false) → cn q n = 0 := by
  intro n
  induction n with
  | zero => intro _; rfl
  | succ n ih => intro h; rw [cn, ih fun k hk => h k (by omega), h n (by omega)]; rfl
theorem cn_perm {m : Nat} {f : Int → Int} : ∀ (n : Nat) (q : Int → Bool), (∀ k : Nat, k < n → 0 ≤ f k ∧ f k < m) → (∀ i k : Nat, i < k → k < n → f i ≠ f k) → (∀ e : Nat, e < m → q e = true → ∃ k : Nat, k < n ∧ f k = e) → cn (fun k => q (f k)) n = cn q m := by
  intro n
  induction n with
  | zero =>
    intro q _ _ h
    refine (cn_zero m fun k hk => ?_).symm
    cases h9 : q k with
    | false => rfl
    | true => obtain ⟨i, hi, _⟩ := h k hk h9; omega
  | succ n ih =>
    intro q h1 h2 h3
    have b := h1 n (by omega)
    obtain ⟨a, ha⟩ : ∃ a : Nat, f n = a := ⟨(f n).toNat, by omega⟩
    have i := ih (fun e => q e && decide (e ≠ (a : Int))) (fun k hk => h1 k (by omega)) (fun i k hi hk => h2 i k hi (by omega)) (fun e he h9 => by
      have h9 : (q e && decide ((e : Int) ≠ (a : Int))) = true := h9
      rw [Bool.and_eq_true, decide_eq_true_eq] at h9
      obtain ⟨k, k1, k2⟩ := h3 e he h9.1
      refine ⟨k, ?_, k2⟩
      by_cases h8 : k = n
      · rw [h8, ha] at k2; omega
      · omega)
    rw [cn, ha, cn_rm (q := q) (a := a) m (by omega), ← i]
    congr 1
    refine cn_congr n fun k hk => ?_
    show q (f k) = (q (f k) && decide (f k ≠ (a : Int)))
    rw [decide_eq_true (show f k ≠ (a : Int) by rw [← ha]; exact h2 k n hk (by omega)), Bool.and_true]
theorem tc_all (hT : stI M) (hO : ordI M) {ft : Int → Int} (h : ∀ e : Nat, e < 12 → ft e = 1 → plcZ M e ≠ -1) : tcZ M ft (M 7).toNat = cn (fun e => decide (ft e = 1)) 12 := by
  obtain ⟨t0, t1, t2, t3, t4, t6, t7, t8⟩ := hT
  refine cn_perm (m := 12) (f := fun k => M (462 + k)) (M 7).toNat (fun e => decide (ft e = 1)) (fun k hk => by have := hO.1 k (by omega) (by omega); show 0 ≤ M (462 + k) ∧ M (462 + k) < ((12 : Nat) : Int); omega) (fun i k hi hk => hO.2 i k (by omega) (by omega) (by omega)) (fun e he h9 => ?_)
  have h1 := h e he (of_decide_eq_true h9)
  have pb := plcZ_b M e (by omega)
  exact ⟨(plcZ M e).toNat, by have := pb.2.2 h1; omega, by show M (462 + ((plcZ M e).toNat : Int)) = e; rw [Int.toNat_of_nonneg (by omega)]; exact plc_at h1⟩
theorem tie_ab (hp : 1 ≤ p) (hs : sbI s) (h : tieZ s p = true) : abZ s p < p ∧ 1 ≤ lvZ s p := by
  have hs' : ∀ e : Nat, e < 12 → -1 ≤ s e := fun e he => (hs e he).1
  have ht := of_decide_eq_true h
  by_cases q : cF s 0 ≤ p
  · exfalso
    have l : lnZ s p = -1 := if_pos q
    have a := ab_eq (p := p) hs' (by omega)
    rw [l] at a
    have v : lvZ s p = 0 := cn_zero 12 fun k hk => by
      show (decide (s k ≠ -1) && decide (s k = lnZ s p)) = false
      rw [l]
      by_cases q1 : s k = -1
      · rw [decide_eq_false (show ¬ s k ≠ -1 from fun h => h q1)]; rfl
      · rw [decide_eq_false q1, Bool.and_false]
    have a2 : abZ s p = cF s 0 := a
    omega
  · obtain ⟨l1, l2, l3⟩ := ln_ok hp hs' (show p < cF s 0 by omega)
    have ab : abZ s p < p := by
      by_cases q1 : 0 < abZ s p
      · obtain ⟨k, k1, k2⟩ := cn_ex q1
        obtain ⟨m, m1, m2, m3⟩ := mn_ex (s := s) (f := fun e => decide (s e ≠ -1) && decide (lnZ s p < s e)) 12 ⟨k, k1, k2⟩
        have m2 : (decide (s m ≠ -1) && decide (lnZ s p < s m)) = true := m2
        rw [Bool.and_eq_true, decide_eq_true_eq, decide_eq_true_eq] at m2
        have h4 := l3 m m1 m2.2
        have h5 : abZ s p ≤ cF s (s m) := cn_mono 12 fun j hj h9 => decide_eq_true (m3 j hj h9)
        omega
      · omega
    exact ⟨ab, by omega⟩
theorem ft_b (s : Int → Int) (p e : Int) : -1 ≤ ftZ s p e ∧ ftZ s p e ≤ 2 := by
  unfold ftZ
  repeat' split
  all_goals omega
theorem ft_n {e : Int} (h : ftZ s p e ≠ -1) : s e ≠ -1 := fun h9 => h (if_pos h9)
theorem tied_ft (hp : 1 ≤ p) (hs : sbI s) {e : Int} (he : 0 ≤ e) (he' : e < 12) : (tieZ s p && (decide (s e ≠ -1) && decide (s e = lnZ s p))) = decide (ftZ s p e = 1) := by
  obtain ⟨n, rfl⟩ : ∃ n : Nat, e = n := ⟨e.toNat, by omega⟩
  by_cases q : s n = -1
  · rw [decide_eq_false (show ¬ s n ≠ -1 from fun h => h q), Bool.false_and, Bool.and_false, decide_eq_false (fun h => ft_n (s := s) (p := p) (e := n) (by omega) q)]
  · have := (ft_cut hp (fun e he => (hs e he).1) (e := n) (by omega) q).1
    rw [decide_eq_true q, Bool.true_and]
    by_cases q1 : ftZ s p n = 1
    · obtain ⟨a, b⟩ := this.mp q1
      rw [a, decide_eq_true b, decide_eq_true q1]; rfl
    · rw [decide_eq_false q1]
      cases q2 : tieZ s p with
      | false => rfl
      | true => rw [Bool.true_and]; exact decide_eq_false fun h => q1 (this.mpr ⟨q2, h⟩)
theorem out_ft (hp : 1 ≤ p) (hs : sbI s) {e : Int} (he : 0 ≤ e) (he' : e < 12) : (decide (s e ≠ -1) && decide (s e < lnZ s p)) = decide (ftZ s p e = 2) := by
  obtain ⟨n, rfl⟩ : ∃ n : Nat, e = n := ⟨e.toNat, by omega⟩
  by_cases q : s n = -1
  · rw [decide_eq_false (show ¬ s n ≠ -1 from fun h => h q), Bool.false_and, decide_eq_false (fun h => ft_n (s := s) (p := p) (e := n) (by omega) q)]
  · have := (ft_cut hp (fun e he => (hs e he).1) (e := n) (by omega) q).2.1
    rw [decide_eq_true q, Bool.true_and]
    exact decide_eq_decide.mpr this.symm
/-- the entrants, each of whom is in as i says -/
def enI (E : SX2) (n : Int) (i : Int → Int) : Prop := gX2_count E = iI n ∧ ∀ e : Int, 0 ≤ e → e < 12 → gX2_in E e.toNat = iI (i e)
theorem en_put {E : SX2} {n : Int} {i : Int → Int} (h : enI E n i) (hn : n ≤ 12) {e : Int} (he : 0 ≤ e) (he' : e < n) : ∃ E', DX2_putOut E (iI e) = some E' ∧ enI E' n (fun d => if d = e then 0 else i d) := by
  have hc : cE E (fun k => if k = 6 then n else i (k - 126)) := by
    refine ⟨by show gX2_count E = iI (if (6 : Int) = 6 then n else i (6 - 126)); rw [if_pos rfl]; exact h.1, fun d a b => ?_⟩
    show gX2_in E d.toNat = iI (if 126 + d = 6 then n else i (126 + d - 126))
    rw [if_neg (by omega), show 126 + d - 126 = d by omega]
    exact h.2 d a b
  refine ⟨_, C_putOut hc (by show (if (6 : Int) = 6 then n else i (6 - 126)) ≤ 12; rw [if_pos rfl]; exact hn) he (by show e < (if (6 : Int) = 6 then n else i (6 - 126)); rw [if_pos rfl]; exact he'), h.1, fun d a b => ?_⟩
  show upd (gX2_in E) e.toNat (iI 0) d.toNat = iI (if d = e then 0 else i d)
  unfold upd
  by_cases q : d = e
  · rw [if_pos (by omega), if_pos q]
  · rw [if_neg (by omega), if_neg q]
    exact h.2 d a b
theorem en_eq {E : SX2} {n : Int} {i j : Int → Int} (h : enI E n i) (hij : ∀ e : Int, 0 ≤ e → e < 12 → i e = j e) : enI E n j := ⟨h.1, fun e a b => by rw [← hij e a b]; exact h.2 e a b⟩
theorem C_putB (h6 : 0 ≤ M 6) (h6' : M 6 ≤ 12) {i : Int → Int} (hE : enI (gX0_entrants C) (M 6) i) (hK : kut (gX0_cut C) s p) (hp : 1 ≤ p) (hs : sbI s) : ∃ E', DX0_putOutThoseBelow C = some (uX0_entrants C E') ∧ enI E' (M 6) (fun e => if e < M 6 ∧ ftZ s p e = 2 then 0 else i e) := by
  unfold DX0_putOutThoseBelow
  simp only [iI_lit]
  have := upE (fun f j (E : SX2) => DX0_putOutThoseBelow_L2 (fun S4 => some S4) f (iI j) (uX0_entrants C E)) (fun E => some (uX0_entrants C E)) (fun j E => enI E (M 6) (fun e => if e < j ∧ ftZ s p e = 2 then 0 else i e)) (M 6).toNat ?_ ?_ fu (gX0_entrants C) (by unfold fu; omega) ?_
  · obtain ⟨E', e1, e2⟩ := this
    rw [Int.toNat_of_nonneg h6] at e2
    exact ⟨E', e1, e2⟩
  · intro f j E hj hE2
    show ∃ s', DX0_putOutThoseBelow_L2 _ _ _ _ = _ ∧ _
    have hO := C_isOut hK hs (e := j) (by omega) (by omega)
    rw [out_ft hp hs (by omega) (by omega)] at hO
    obtain ⟨E2, p1, p2⟩ := en_put hE2 h6' (e := j) (by omega) (by omega)
    rw [DX0_putOutThoseBelow_L2]
    simp only [iI_lit, jn_eq, lt_eq, iI_add]
    rw [show gX0_entrants (uX0_entrants C E) = E from rfl, show gX0_cut (uX0_entrants C E) = gX0_cut C from rfl, hE2.1, if_le (by omega) (by omega) (by omega) (by omega), if_neg (by omega), hO]
    simp only [Option.bind_some, if_bz, decide_eq_true_eq]
    rw [p1, show ((j + 1 : Nat) : Int) = (j : Int) + 1 by omega]
    by_cases q : ftZ s p j = 2
    · refine ⟨E2, by rw [if_pos q]; rfl, en_eq p2 fun e a b => ?_⟩
      show (if e = (j : Int) then 0 else if e < (j : Int) ∧ ftZ s p e = 2 then 0 else i e) = if e < (j : Int) + 1 ∧ ftZ s p e = 2 then 0 else i e
      by_cases q1 : e = j
      · rw [if_pos q1, if_pos ⟨by omega, by rw [q1]; exact q⟩]
      · rw [if_neg q1]
        by_cases q2 : e < j ∧ ftZ s p e = 2
        · rw [if_pos q2, if_pos ⟨by omega, q2.2⟩]
        · rw [if_neg q2, if_neg (fun h => q2 ⟨by omega, h.2⟩)]
    · refine ⟨E, by rw [if_neg q], en_eq hE2 fun e a b => ?_⟩
      by_cases q1 : e = j
      · rw [if_neg (by omega), if_neg (fun h => q (by rw [← q1]; exact h.2))]
      · by_cases q2 : e < j ∧ ftZ s p e = 2
        · rw [if_pos q2, if_pos ⟨by omega, q2.2⟩]
        · rw [if_neg q2, if_neg (fun h => q2 ⟨by omega, h.2⟩)]
  · intro f E hE2
    show DX0_putOutThoseBelow_L2 _ _ _ _ = _
    rw [DX0_putOutThoseBelow_L2, show gX0_entrants (uX0_entrants C E) = E from rfl, hE2.1, if_le (by omega) (by omega) (by omega) (by omega), if_pos (by omega)]
  · exact en_eq hE fun e a b => (if_neg (by omega)).symm
theorem C_brk (hT : stI M) (hO : ordI M) (hS : cS (gX0_stage C) M) {i : Int → Int} (hE : enI (gX0_entrants C) (M 6) i) (hK : kut (gX0_cut C) s p) (hp : 1 ≤ p) (hp' : p ≤ 12) (hs : sbI s) : ∃ E', DX0_breakTieByStageOrder C = some (uX0_entrants C E') ∧ enI E' (M 6) (fun e => if plcZ M e ≠ -1 ∧ ftZ s p e = 1 ∧ p - abZ s p - tcZ M (ftZ s p) (plcZ M e).toNat ≤ 0 then 0 else i e) := by
  have hT' := hT
  obtain ⟨t0, t1, t2, t3, t4, t6, t7, t8⟩ := hT
  have t12 : M 7 ≤ 12 := by omega
  have ab := ab_b s p
  unfold DX0_breakTieByStageOrder
  rw [C_left hK]
  simp only [Option.bind_some, iI_lit]
  have := upE (fun f j (E : SX2) => DX0_breakTieByStageOrder_L10 (fun S6 => some S6) f (iI (p - abZ s p - tcZ M (ftZ s p) j)) (iI j) (uX0_entrants C E)) (fun E => some (uX0_entrants C E)) (fun j E => enI E (M 6) (fun e => if (0 ≤ plcZ M e ∧ plcZ M e < j) ∧ ftZ s p e = 1 ∧ p - abZ s p - tcZ M (ftZ s p) (plcZ M e).toNat ≤ 0 then 0 else i e)) (M 7).toNat ?_ ?_ fu (gX0_entrants C) (by unfold fu; omega) ?_
  · obtain ⟨E', e1, e2⟩ := this
    rw [show p - abZ s p - tcZ M (ftZ s p) 0 = p - abZ s p by rw [show tcZ M (ftZ s p) 0 = 0 from rfl]; omega] at e1
    refine ⟨E', e1, en_eq e2 fun e a b => ?_⟩
    have pb := plcZ_b M e t12
    by_cases q : plcZ M e = -1
    · rw [if_neg (fun h => by omega), if_neg (fun h => h.1 q)]
    · have := pb.2.2 q
      by_cases q1 : ftZ s p e = 1 ∧ p - abZ s p - tcZ M (ftZ s p) (plcZ M e).toNat ≤ 0
      · rw [if_pos ⟨by omega, q1⟩, if_pos ⟨q, q1⟩]
      · rw [if_neg (fun h => q1 h.2), if_neg (fun h => q1 h.2)]
  · intro f j E hj hE2
    show ∃ s', DX0_breakTieByStageOrder_L10 _ _ _ _ _ = _ ∧ _
    have jb : (0 : Int) ≤ j ∧ (j : Int) < M 7 := by omega
    have o := hO.1 j jb.1 jb.2
    have op := plc_ord hO jb.1 jb.2
    have tb := tc_b M (ftZ s p) j
    have hTi := C_isTied hK hs (by omega) (by omega) (e := M (462 + j)) o.1 (by omega)
    rw [tied_ft hp hs o.1 (by omega)] at hTi
    have tcs : tcZ M (ftZ s p) (j + 1) = tcZ M (ftZ s p) j + if ftZ s p (M (462 + j)) = 1 then 1 else 0 := by
      show cn _ (j + 1) = _
      rw [cn]
      show tcZ M (ftZ s p) j + (if decide (ftZ s p (M (462 + j)) = 1) = true then 1 else 0) = _
      by_cases q : ftZ s p (M (462 + j)) = 1
      · rw [if_pos q, if_pos (decide_eq_true q)]
      · rw [if_neg q, if_neg (by rw [decide_eq_false q]; decide)]
    obtain ⟨E2, p1, p2⟩ := en_put hE2 (by omega) (e := M (462 + j)) o.1 o.2
    rw [DX0_breakTieByStageOrder_L10]
    simp only [iI_lit, iI_neg, jn_eq, lt_eq, iI_add]
    rw [show gX0_stage (uX0_entrants C E) = gX0_stage C from rfl, hS.1, if_le (by omega) (by omega) (by omega) (by omega), if_neg (by omega), C_playerAt hS hT' (by omega) (by omega), if_pos (show 0 ≤ (j : Int) ∧ (j : Int) < M 7 from jb)]
    simp only [Option.bind_some]
    rw [show gX0_cut (uX0_entrants C E) = gX0_cut C from rfl, hTi]
    simp only [Option.bind_some, if_bz, decide_eq_true_eq]
    rw [show gX0_entrants (uX0_entrants C E) = E from rfl, p1, show ((j + 1 : Nat) : Int) = (j : Int) + 1 by omega, if_le (by omega) (by omega) (by omega) (by omega)]
    have key : ∀ e : Int, 0 ≤ e → e < 12 → e ≠ M (462 + j) → ((0 ≤ plcZ M e ∧ plcZ M e < (j : Int) + 1) ↔ (0 ≤ plcZ M e ∧ plcZ M e < (j : Int))) := fun e a b h => by
      have : plcZ M e ≠ j := fun h9 => h (by rw [← plc_at (M := M) (e := e) (by omega), h9])
      omega
    by_cases q : ftZ s p (M (462 + j)) = 1
    · rw [if_pos q] at tcs
      rw [if_pos q, show p - abZ s p - tcZ M (ftZ s p) j + -1 = p - abZ s p - tcZ M (ftZ s p) (j + 1) by omega]
      by_cases q3 : 0 ≤ p - abZ s p - tcZ M (ftZ s p) (j + 1)
      · refine ⟨E, by rw [if_pos q3], en_eq hE2 fun e a b => ?_⟩
        by_cases q1 : e = M (462 + j)
        · rw [q1, op, if_neg (fun h => by omega), if_neg (fun h => by have := h.2.2; rw [show ((j : Int)).toNat = j by omega] at this; omega)]
        · have k9 := key e a b q1
          by_cases q2 : (0 ≤ plcZ M e ∧ plcZ M e < (j : Int)) ∧ ftZ s p e = 1 ∧ p - abZ s p - tcZ M (ftZ s p) (plcZ M e).toNat ≤ 0
          · rw [if_pos q2, if_pos ⟨k9.mpr q2.1, q2.2⟩]
          · rw [if_neg q2, if_neg (fun h => q2 ⟨k9.mp h.1, h.2⟩)]
      · refine ⟨E2, by rw [if_neg q3]; rfl, en_eq p2 fun e a b => ?_⟩
        show (if e = M (462 + j) then 0 else if (0 ≤ plcZ M e ∧ plcZ M e < (j : Int)) ∧ ftZ s p e = 1 ∧ p - abZ s p - tcZ M (ftZ s p) (plcZ M e).toNat ≤ 0 then 0 else i e) = if (0 ≤ plcZ M e ∧ plcZ M e < (j : Int) + 1) ∧ ftZ s p e = 1 ∧ p - abZ s p - tcZ M (ftZ s p) (plcZ M e).toNat ≤ 0 then 0 else i e
        by_cases q1 : e = M (462 + j)
        · rw [if_pos q1, q1, op, if_pos ⟨by omega, q, by rw [show ((j : Int)).toNat = j by omega]; omega⟩]
        · have k9 := key e a b q1
          rw [if_neg q1]
          by_cases q2 : (0 ≤ plcZ M e ∧ plcZ M e < (j : Int)) ∧ ftZ s p e = 1 ∧ p - abZ s p - tcZ M (ftZ s p) (plcZ M e).toNat ≤ 0
          · rw [if_pos q2, if_pos ⟨k9.mpr q2.1, q2.2⟩]
          · rw [if_neg q2, if_neg (fun h => q2 ⟨k9.mp h.1, h.2⟩)]
    · rw [if_neg q] at tcs
      rw [if_neg q, show tcZ M (ftZ s p) (j + 1) = tcZ M (ftZ s p) j by omega]
      refine ⟨E, rfl, en_eq hE2 fun e a b => ?_⟩
      by_cases q1 : e = M (462 + j)
      · rw [q1, if_neg (fun h => q h.2.1), if_neg (fun h => q h.2.1)]
      · have k9 := key e a b q1
        by_cases q2 : (0 ≤ plcZ M e ∧ plcZ M e < (j : Int)) ∧ ftZ s p e = 1 ∧ p - abZ s p - tcZ M (ftZ s p) (plcZ M e).toNat ≤ 0
        · rw [if_pos q2, if_pos ⟨k9.mpr q2.1, q2.2⟩]
        · rw [if_neg q2, if_neg (fun h => q2 ⟨k9.mp h.1, h.2⟩)]
  · intro f E hE2
    show DX0_breakTieByStageOrder_L10 _ _ _ _ _ = _
    rw [DX0_breakTieByStageOrder_L10, show gX0_stage (uX0_entrants C E) = gX0_stage C from rfl, hS.1, if_le (by omega) (by omega) (by omega) (by omega), if_pos (by omega)]
  · exact en_eq hE fun e a b => (if_neg (fun h => by omega)).symm
theorem C_end9 (Ti : SX9) : DX9_end Ti = some (iI 0, iI 0, (fun _ => iI 0), (fun q : Nat => if q < 7 then (fun _ => iI (-1)) else gX9_sheet Ti q)) := by
  unfold DX9_end
  simp only [lt_eq, iI_lit]
  rw [show ∀ a b c, gX9_sheet (uX9_tied (uX9_places (uX9_number Ti a) b) c) = gX9_sheet Ti from fun _ _ _ => rfl, C_wipe]
  rfl
theorem C_next9 {K : SX1} (Ti : SX9) {n : Int} (hn : gX9_number Ti = iI n) (hK : kut K s p) (hp : 1 ≤ p) (hp' : p ≤ 12) (hs : sbI s) : ∃ t : Nat → Int32, DX9_startNext Ti K = some (iI (n + 1), iI (p - abZ s p), t, (fun q : Nat => if q < 7 then (fun _ => iI (-1)) else gX9_sheet Ti q)) ∧ ∀ e : Int, 0 ≤ e → e < 12 → t e.toNat = iI (if ftZ s p e = 1 then 1 else 0) := by
  unfold DX9_startNext
  simp only [lt_eq, iI_lit]
  rw [hn, C_left hK, iI_add]
  simp only [Option.bind_some]
  have := upE (fun f j (t : Nat → Int32) => DX9_startNext_L20 K (fun S10 => (DX6_wipe (gX9_sheet S10)).bind fun x11 => some (uX9_sheet S10 x11)) f (iI j) ((iI (n + 1), iI (p - abZ s p), t, gX9_sheet Ti) : SX9)) (fun t => some ((iI (n + 1), iI (p - abZ s p), t, (fun q : Nat => if q < 7 then (fun _ => iI (-1)) else gX9_sheet Ti q)) : SX9)) (fun j t => ∀ e : Int, 0 ≤ e → e < j → t e.toNat = iI (if ftZ s p e = 1 then 1 else 0)) 12 ?_ ?_ fu (gX9_tied Ti) (by unfold fu; omega) (fun e a b => by omega)
  · obtain ⟨t, e1, e2⟩ := this
    exact ⟨t, e1, fun e a b => e2 e a (by omega)⟩
  · intro f j t hj ht
    have hTi := C_isTied hK hs (by omega) (by omega) (e := j) (by omega) (by omega)
    rw [tied_ft hp hs (by omega) (by omega)] at hTi
    refine ⟨upd t j (iI (if ftZ s p j = 1 then 1 else 0)), ?_, fun e a b => ?_⟩
    · show DX9_startNext_L20 _ _ _ _ _ = _
      rw [DX9_startNext_L20]
      simp only [lt_eq, jn_eq, iI_lit, iI_add]
      rw [if_le (by omega) (by omega) (by omega) (by omega), if_neg (by omega), hTi]
      simp only [Option.bind_some, if_bz, decide_eq_true_eq]
      rw [gd_iI (by omega) (by omega) (by omega), gd_iI (by omega) (by omega) (by omega), iI_nat (by omega) (by omega), show ((j : Int)).toNat = j by omega, show ((j + 1 : Nat) : Int) = (j : Int) + 1 by omega]
      by_cases q : ftZ s p j = 1
      · rw [if_pos q, if_pos q]; rfl
      · rw [if_neg q, if_neg q]; rfl
    · show upd t j (iI (if ftZ s p j = 1 then 1 else 0)) e.toNat = _
      unfold upd
      by_cases q : e = j
      · rw [if_pos (by omega), q]
      · rw [if_neg (by omega)]
        exact ht e a (by omega)
  · intro f t ht
    show DX9_startNext_L20 _ _ _ _ _ = _
    rw [DX9_startNext_L20]
    simp only [iI_lit]
    rw [if_le (by omega) (by omega) (by omega) (by omega), if_pos (by omega), show gX9_sheet ((iI (n + 1), iI (p - abZ s p), t, gX9_sheet Ti) : SX9) = gX9_sheet Ti from rfl, C_wipe]
    rfl
end KY
