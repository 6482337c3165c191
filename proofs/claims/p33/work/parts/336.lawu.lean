/-! the law's programs -/
section LU
variable {M N V : Int → Int} {T : SX11} {L cc : Int} {c : Int32 → Int32}
theorem fin_ok (h : AS T M V cc L) {F : Nat} (hF : 1 ≤ F ∧ F ≤ 4) {a e r : Int} (ha : 0 ≤ a) (ha' : a ≤ 9) (he : 0 ≤ e) (he' : e < M 6) (hr : 0 ≤ r) (hr' : r ≤ 3) (tell : ∀ X : SX8, samX (gX11_text T) X → ∃ X' : SX8, DX8_faultAmong X (iI (M 5)) = some (iI (-1), X') ∧ gX8_found X' = iI F ∧ gX8_numbers X' 0 = iI a) : ∃ T3, DX11_fault T = some (iI (-1), T3) ∧ ∃ T' N, DL_setProgram T3 (iI e) (iI r) = some (iI F, T') ∧ S0 T' N ∧ workAtZ N e r 0 = a ∧ ∀ k : Int, ¬ (138 ≤ k ∧ k < 378) → N k = M k := by
  have h6 := h.mk.1.2.1.2.2.2.2.2.1
  obtain ⟨X1, e1, e2, e3⟩ := tell _ ⟨rfl, rfl⟩
  obtain ⟨f1, f2, f3⟩ := F_fault h e1
  refine ⟨_, f1, ?_⟩
  obtain ⟨X2, g1, g2, g3⟩ := tell X1 f3
  obtain ⟨F', nn, ss, p1, p2, p3, T', p4, p5⟩ := F_setProgram f2 (e := e) (r := r) (by omega) (by omega) (by omega) (by omega) ⟨⟨he, he'⟩, hr, hr'⟩ g1
  have eF : F' = F := by
    have := p2.1.symm.trans g2
    rw [iI_eq (by omega) (by omega) (by omega) (by omega)] at this
    omega
  subst eF
  have en : nn 0 = a := by
    have q := p2.2 0 (by omega)
    have := q.1.symm.trans g3
    rw [iI_eq (by omega) (by omega) (by omega) (by omega)] at this
    exact this
  refine ⟨T', _, ?_, ⟨_, _, _, p5⟩, ?_, fun k hk => ?_⟩
  · unfold DL_setProgram
    rw [p4, wW_v]
  · unfold workAtZ
    have s1 : spZ M (cellZ e r) F' nn F' (cellZ e r) = F' := if_pos rfl
    have s2 : spZ M (cellZ e r) F' nn F' (cellZ e r + 1 + 0) = nn 0 := by
      unfold spZ
      rw [if_neg (by omega), if_pos (by omega), show (cellZ e r + 1 + 0 - (cellZ e r + 1)).toNat = 0 by omega]
    rw [s1, s2, if_pos (by omega)]
    exact en
  · unfold spZ
    have : 138 ≤ cellZ e r ∧ cellZ e r ≤ 373 := by unfold cellZ; omega
    rw [if_neg (by omega), if_neg (by omega)]
theorem ty_v {a v : Int} {T' : SX11} (h : DX11_type T (iI a) = some (Sum.inr (iI v, T'))) : DL_type T (iI a) = some (iI v, T') := by
  unfold DL_type
  rw [h, wW_v]
theorem say_ok (h : S0 T M) {a b e r : Int} (ha : 0 ≤ a) (ha' : a ≤ 9) (haw : a < M 5) (hb : 0 ≤ b) (hb' : b ≤ 9) (hbw : b < M 5) (he : 0 ≤ e) (he' : e < M 6) (hr : 0 ≤ r) (hr' : r ≤ 3) :
    ∃ x T1 T2, DX11_clearText T = some (x, T1) ∧ DL_type T1 (iI (48 + a)) = some (iI 1, T2) ∧
    (a = b → ∃ T3, DX11_fault T2 = some (iI (-1), T3) ∧ ∃ T' N, DL_setProgram T3 (iI e) (iI r) = some (iI 1, T') ∧ S0 T' N ∧ workAtZ N e r 0 = a ∧ ∀ k : Int, ¬ (138 ≤ k ∧ k < 378) → N k = M k) ∧
    (a ≠ b → ∃ T4 T5, DL_type T2 (iI 44) = some (iI 2, T4) ∧ DL_type T4 (iI (48 + b)) = some (iI 3, T5) ∧ ∃ T3, DX11_fault T5 = some (iI (-1), T3) ∧ ∃ T' N, DL_setProgram T3 (iI e) (iI r) = some (iI 2, T') ∧ S0 T' N ∧ workAtZ N e r 0 = a ∧ ∀ k : Int, ¬ (138 ≤ k ∧ k < 378) → N k = M k) := by
  have h5 := h.mk.1.2.2.1.1
  obtain ⟨V, cc, L, hA⟩ := h
  obtain ⟨T1, c1, c2, c3⟩ := F_clear hA
  obtain ⟨T2, d1, d2, d3⟩ := F_type c2 c3 (a := 48 + a) (by omega) (by omega) (by omega)
  obtain ⟨S, -⟩ := id hA
  refine ⟨_, T1, T2, c1, ty_v d1, fun q => ?_, fun q => ?_⟩
  · refine fin_ok d2 (F := 1) (by omega) ha ha' he he' hr hr' fun X hX => ?_
    refine text_1 S ?_ ?_ ha ha' haw h5.2
    · rw [hX.1]; exact d3.1
    · rw [hX.2]; exact d3.2 0 (by omega) (by omega)
  · obtain ⟨T4, f1, f2, f3⟩ := F_type d2 d3 (a := 44) (by omega) (by omega) (by omega)
    obtain ⟨T5, g1, g2, g3⟩ := F_type f2 f3 (a := 48 + b) (by omega) (by omega) (by omega)
    refine ⟨T4, T5, ty_v f1, ty_v g1, ?_⟩
    refine fin_ok g2 (F := 2) (by omega) ha ha' he he' hr hr' fun X hX => ?_
    refine text_3 S ?_ ?_ ?_ ?_ ha ha' haw hb hb' hbw q h5.2
    · rw [hX.1]; exact g3.1
    · rw [hX.2]; exact g3.2 0 (by omega) (by omega)
    · rw [hX.2]; exact g3.2 1 (by omega) (by omega)
    · rw [hX.2]; exact g3.2 2 (by omega) (by omega)
theorem PQ_fr {W E : Int} (hq : PQ M W E) (hE : E ≤ 12) (fr : ∀ k : Int, ¬ (138 ≤ k ∧ k < 378) → N k = M k) : PQ N W E := by
  obtain ⟨q3, q4, q5, q6, q7, q8⟩ := hq
  refine ⟨by rw [fr 3 (by omega), q3], by rw [fr 4 (by omega), q4], by rw [fr 5 (by omega), q5], by rw [fr 6 (by omega), q6], fun e h1 h2 => ?_, fun r h1 h2 => ?_⟩
  · rw [fr _ (by omega)]
    exact q7 e h1 h2
  · rw [fr (ruleZ r 4) (by unfold ruleZ; omega)]
    exact q8 r h1 h2
theorem law_tell (c2 c4 c5 : Int32) {W E a0 e : Int} (hW : 1 ≤ W) (hW' : W ≤ 10) (hE : E ≤ 12) (he : 0 ≤ e) (he' : e < E) (k328 k330 : SX11 → Option Int32) (hP : ∀ T' N, S0 T' N → PQ N W E → N 0 = a0 → LK (k330 T')) : ∀ (d f : Nat) (T : SX11) (M : Int → Int) (r : Int), 3 - r = d → 0 ≤ r → d < f → S0 T M → PQ M W E → M 0 = a0 → LK (DL_law_L266 c c2 (iI W) c4 c5 (iI e) k328 k330 f (iI r) T) := by
  intro d
  induction d with
  | zero =>
    intro f T M r hd h0 hf h hq ha
    obtain ⟨g, rfl⟩ : ∃ g, f = g + 1 := ⟨f - 1, by omega⟩
    rw [DL_law_L266]
    simp only [lits]
    rw [if_le (by omega) (by omega) (by omega) (by omega), if_pos (by omega)]
    exact hP T M h hq ha
  | succ d ih =>
    intro f T M r hd h0 hf h hq ha
    obtain ⟨g, rfl⟩ : ∃ g, f = g + 1 := ⟨f - 1, by omega⟩
    rw [DL_law_L266]
    simp only [lits, lit9]
    rw [if_le (by omega) (by omega) (by omega) (by omega), if_neg (by omega)]
    simp only [iI_mul, iI_add]
    rw [iI_div (by omega) (by omega) (by omega) (by omega)]
    simp only [iI_mul, iI_sub, iI_add]
    rw [gd_nn (by omega) (by omega)]
    generalize c (iI (5 + (e + 3 * r - (e + 3 * r) / 8 * 8))) >>> (iI e &&& iI 31) = s
    rw [lw_at s hW (by omega), lw_at (s >>> (iI 4 &&& iI 31)) hW (by omega)]
    have b1 := lw_b s hW
    have b2 := lw_b (s >>> (iI 4 &&& iI 31)) hW
    generalize lw s W = A at *
    generalize lw (s >>> (iI 4 &&& iI 31)) W = B at *
    obtain ⟨q3, q4, q5, q6, q7, q8⟩ := id hq
    obtain ⟨x, T1, T2, c1, d1, k1, k2⟩ := say_ok h (a := A) (b := B) (e := e) (r := r) (by omega) (by omega) (by omega) (by omega) (by omega) (by omega) he (by omega) h0 (by omega)
    simp only [Option.bind_some, c1, d1, iI_add]
    refine LKjn (fun j347 h347 => LKjn (fun j357 _ => ?_))
    rw [if_le (by omega) (by omega) (by omega) (by omega), if_neg (by omega)]
    refine LKjn (fun j359 h359 => ?_)
    rw [if_eq (by omega) (by omega) (by omega) (by omega)]
    have fin : ∀ {T3 T' : SX11} {N : Int → Int} {F : Int} {S : SX11}, DX11_fault S = some (iI (-1), T3) → DL_setProgram T3 (iI e) (iI r) = some (iI F, T') → F = (if A = B then 1 else 2) → S0 T' N → workAtZ N e r 0 = A → (∀ k : Int, ¬ (138 ≤ k ∧ k < 378) → N k = M k) → LK (j347 (iI 1) S) := by
      intro T3 T' N F S m1 m2 m3 m4 m5 m6
      have hq' := PQ_fr hq hE m6
      have pr := E_program m4.rr (e := e) (r := r) (k := 0) he (by have := hq'.2.2.2.1; omega) h0 (by omega) (by omega) (by omega)
      rw [m5] at pr
      rw [h347]
      simp only [ne10, if_false, m1, Option.bind_some, iI_neg, if_true, m2]
      refine LKjn (fun j353 h353 => ?_)
      rw [if_eq (by omega) (by omega) (by omega) (by omega)]
      have ee : LK (j353 (iI F)) := by
        rw [h353]
        simp only [if_true, pr, Option.bind_some]
        exact ih g T' N (r + 1) (by omega) (by omega) (by omega) m4 hq' (by rw [m6 0 (by omega), ha])
      by_cases q : A = B
      · rw [if_pos q] at m3 ⊢
        rw [← m3]; exact ee
      · rw [if_neg q] at m3 ⊢
        rw [← m3]; exact ee
    by_cases q : A = B
    · rw [if_pos q, h359]
      obtain ⟨T3, m1, T', N, m2, m4, m5, m6⟩ := k1 q
      exact fin m1 m2 (by rw [if_pos q]) m4 m5 m6
    · rw [if_neg q]
      obtain ⟨T4, T5, g1, g2, T3, m1, T', N, m2, m4, m5, m6⟩ := k2 q
      simp only [g1, Option.bind_some]
      rw [if_le (by omega) (by omega) (by omega) (by omega), if_neg (by omega)]
      simp only [g2, Option.bind_some]
      rw [if_le (by omega) (by omega) (by omega) (by omega), if_neg (by omega), h359]
      exact fin m1 m2 (by rw [if_neg q]) m4 m5 m6
theorem law_tells (c2 c5 : Int32) {W E a0 : Int} (hW : 1 ≤ W) (hW' : W ≤ 10) (hE : E ≤ 12) (k60 k62 : SX11 → Option Int32) (hP : ∀ T' N, S0 T' N → PQ N W E → N 0 = a0 → LK (k62 T')) : ∀ (d f : Nat) (T : SX11) (M : Int → Int) (e : Int), E - e = d → 0 ≤ e → d < f → S0 T M → PQ M W E → M 0 = a0 → LK (DL_law_L256 c c2 (iI W) (iI E) c5 k60 k62 f (iI e) T) := by
  intro d
  induction d with
  | zero =>
    intro f T M e hd h0 hf h hq ha
    obtain ⟨g, rfl⟩ : ∃ g, f = g + 1 := ⟨f - 1, by omega⟩
    rw [DL_law_L256, if_le (by omega) (by omega) (by omega) (by omega), if_pos (by omega)]
    exact hP T M h hq ha
  | succ d ih =>
    intro f T M e hd h0 hf h hq ha
    obtain ⟨g, rfl⟩ : ∃ g, f = g + 1 := ⟨f - 1, by omega⟩
    rw [DL_law_L256, if_le (by omega) (by omega) (by omega) (by omega), if_neg (by omega)]
    refine law_tell c2 (iI E) c5 hW hW' hE h0 (by omega) k60 _ (fun T' N h' hq' ha' => ?_) 3 4 T M 0 (by omega) (by omega) (by omega) h hq ha
    simp only [lits, iI_add]
    exact ih g T' N (e + 1) (by omega) (by omega) (by omega) h' hq' ha'
end LU
