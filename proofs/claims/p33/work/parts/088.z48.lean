section LA
variable {M N V X : Int → Int} {S : SX12} {C : SX0} {s : Int → Int} {p : Int} {T : SX11} {c : Int}
/-- what the cells are once those out are out and the class goes on -/
def goZ (X : Int → Int) (fin : Int → Bool) : Int → Int := if X 4 + 1 < X 1 then brZ (ctZ (ioZ X fin (X 7))) (X 4 + 1) else updI (ctZ (ioZ X fin (X 7))) 3 3
theorem aft_MK (hMK : MK X) {fin : Int → Bool} (h3 : N 3 = 2 ∨ N 3 = 3) (g : ∀ k : Int, ¬ (k = 3 ∨ k = 9 ∨ k = 10 ∨ (126 ≤ k ∧ k < 138) ∨ (570 ≤ k ∧ k < 666)) → N k = X k) (gi : ∀ k : Int, 126 ≤ k → k < 138 → N k = ctZ (ioZ X fin (X 7)) k) (gm : ∀ k : Int, 570 ≤ k → k < 654 → N k = -1) (gt : ∀ k : Int, 654 ≤ k → k < 666 → N k = 0 ∨ N k = 1) (g1 : ∀ e : Int, 0 ≤ e → e < 12 → N (654 + e) = 1 → N 3 = 2 ∧ plcZ X e ≠ -1) (g9 : 0 ≤ N 9 ∧ N 9 ≤ 12) (g10 : 0 ≤ N 10 ∧ N 10 ≤ 3) (ga : N 3 ≠ 2 → N 9 = 0 ∧ N 10 = 0) (gb : N 3 = 2 → 1 ≤ N 9 ∧ 1 ≤ N 10) : MK N := by
  obtain ⟨hp, gB, b9, b10, bm, bt, bi⟩ := B_pre hMK fin
  obtain ⟨hI, hx⟩ := hMK
  obtain ⟨hR, hT, hW, hIn, hTi, hk, hs, hO, hN, hru, hba, hty, hml⟩ := hI
  have hT' := hT
  obtain ⟨t0, t1, t2, t3, t4, t6, t7, t8⟩ := hT
  have t12 : X 7 ≤ 12 := by omega
  have e6 : N 6 = X 6 := g 6 (by omega)
  have grg : rg N := by
    intro k
    by_cases q : k = 3 ∨ k = 9 ∨ k = 10 ∨ (126 ≤ k ∧ k < 138) ∨ (570 ≤ k ∧ k < 666)
    · by_cases q3 : k = 3
      · rw [q3]; omega
      by_cases q9 : k = 9
      · rw [q9]; omega
      by_cases q10 : k = 10
      · rw [q10]; omega
      by_cases qi : 126 ≤ k ∧ k < 138
      · rw [gi k qi.1 qi.2]; exact hp.1 k
      by_cases qm : k < 654
      · rw [gm k (by omega) qm]; omega
      · have := gt k (by omega) (by omega)
        omega
    · rw [g k q]; exact hR k
  refine ⟨⟨grg, ?_, (wk_c (fun k hk => g k (by omega)) hW), ?_, ?_, ?_, (sl_c (fun k hk => g k (by omega)) t12 hs), (or_c (fun k hk => g k (by omega)) t12 hO), (np_c (fun k hk => g k (by omega)) t12 hN), (ru_c (fun k hk => g k (by omega)) hru), (ba_c (fun k hk => g k (by omega)) hba), ?_, ?_⟩, ?_⟩
  · refine ⟨by rw [g 0 (by omega)]; exact t0, by rw [g 1 (by omega)]; exact t1, by rw [g 2 (by omega)]; exact t2, by omega, by rw [g 4 (by omega)]; exact t4, by rw [g 6 (by omega)]; exact t6, by rw [g 6 (by omega), g 7 (by omega)]; exact t7, by rw [g 7 (by omega), g 8 (by omega)]; exact t8⟩
  · intro e a b
    have h9 := hp.2.2.2.2.2.2.1 e a b
    rw [gB 6 (by omega)] at h9
    rw [gi (126 + e) (by omega) (by omega), e6]
    exact h9
  · intro e a b
    exact gt (654 + e) (by omega) (by omega)
  · intro j e a b d f
    have := hk j e a b d f
    rw [g (486 + (12 * j + e)) (by omega), gm (570 + (12 * j + e)) (by omega) (by omega)]
    omega
  · refine ⟨fun e a b h9 => ?_, fun j e a b d f _ => gm _ (by omega) (by omega), ga, gb, g9, g10, fun h9 => by omega, by rw [g 11 (by omega)]; exact hty.2.2.2.2.2.2.2⟩
    have h8 := g1 e a b h9
    exact ⟨h8.1, by rw [plc_c (M := X) (N := N) (fun k hk => g k (by omega)) t12]; exact h8.2⟩
  · intro j e a b d f
    have := hml j e a b d f
    rw [g (486 + (12 * j + e)) (by omega), gm (570 + (12 * j + e)) (by omega) (by omega)]
    omega
  · refine ⟨fun h9 => by omega, fun e r a b d f h9 => ?_⟩
    rw [e6] at h9
    rw [g _ (by omega)]
    exact hx.2 e r a b d f h9
theorem go_ok (hMK : MK X) (hz : nz X) (fin : Int → Bool) : nz (goZ X fin) ∧ MK (goZ X fin) := by
  obtain ⟨hp, gB, b9, b10, bm, bt, bi⟩ := B_pre hMK fin
  have hn := B_nz hz fin
  have t := hMK.1.2.1
  obtain ⟨t0, t1, t2, t3, t4, t6, t7, t8⟩ := t
  unfold goZ
  by_cases q : X 4 + 1 < X 1
  · rw [if_pos q]
    exact ⟨br_nz hn (by rw [gB 6 (by omega)]; omega) _, br_MK hp (by omega) (by omega)⟩
  · rw [if_neg q]
    have v3 : updI (ctZ (ioZ X fin (X 7))) 3 3 3 = 3 := updI_self _ _ _
    refine ⟨nz_upd hn (by omega) (by omega), aft_MK hMK (fin := fin) (Or.inr v3) (fun k hk => ?_) (fun k a b => u_ne (by omega)) (fun k a b => ?_) (fun k a b => Or.inl ?_) (fun e a b h9 => ?_) ?_ ?_ (fun _ => ?_) (fun h9 => by omega)⟩
    · rw [u_ne (by omega)]; exact gB k (by omega)
    · rw [u_ne (by omega)]; exact bm k a b
    · rw [u_ne (by omega)]; exact bt k a b
    · rw [u_ne (by omega), bt (654 + e) (by omega) (by omega)] at h9; omega
    · rw [u_ne (by omega), b9]; omega
    · rw [u_ne (by omega), b10]; omega
    · rw [u_ne (by omega), u_ne (by omega)]; exact ⟨b9, b10⟩
/-- the cells where a tie round has begun -/
theorem tiN_at (hMK : MK X) (fin : Int → Bool) {n l : Int} {ft : Int → Int} (hf : ∀ e : Int, 0 ≤ e → e < 12 → ft e = 1 → e < X 6) : (∀ k : Int, ¬ (k = 3 ∨ k = 9 ∨ k = 10 ∨ (126 ≤ k ∧ k < 138) ∨ (570 ≤ k ∧ k < 666)) → tiN (ctZ (ioZ X fin (X 7))) n l ft k = X k) ∧ (∀ k : Int, 126 ≤ k → k < 138 → tiN (ctZ (ioZ X fin (X 7))) n l ft k = ctZ (ioZ X fin (X 7)) k) ∧ (∀ k : Int, 570 ≤ k → k < 654 → tiN (ctZ (ioZ X fin (X 7))) n l ft k = -1) ∧ (∀ e : Int, 0 ≤ e → e < 12 → tiN (ctZ (ioZ X fin (X 7))) n l ft (654 + e) = if ft e = 1 then 1 else 0) ∧ tiN (ctZ (ioZ X fin (X 7))) n l ft 3 = 2 ∧ tiN (ctZ (ioZ X fin (X 7))) n l ft 10 = n ∧ tiN (ctZ (ioZ X fin (X 7))) n l ft 9 = l ∧ ∀ k : Int, ¬ (0 ≤ k ∧ k < 714) → tiN (ctZ (ioZ X fin (X 7))) n l ft k = ctZ (ioZ X fin (X 7)) k := by
  obtain ⟨hp, gB, b9, b10, bm, bt, bi⟩ := B_pre hMK fin
  have t6 := hMK.1.2.1.2.2.2.2.2.1
  have e6 := gB 6 (by omega)
  generalize ctZ (ioZ X fin (X 7)) = B at *
  have gg : ∀ k : Int, ¬ (k = 3 ∨ k = 9 ∨ k = 10 ∨ (654 ≤ k ∧ k < 666)) → tiN B n l ft k = B k := fun k hk => by
    unfold tiN tfZ
    rw [if_neg (show ¬ (654 ≤ k ∧ k < 654 + B 6) by omega), u_ne (by omega), u_ne (by omega), u_ne (by omega)]
  refine ⟨fun k hk => by rw [gg k (by omega)]; exact gB k (by omega), fun k a b => gg k (by omega), fun k a b => by rw [gg k (by omega)]; exact bm k a b, fun e a b => ?_, ?_, ?_, ?_, fun k hk => gg k (by omega)⟩
  · unfold tiN tfZ
    by_cases q : e < X 6
    · rw [if_pos (show 654 ≤ 654 + e ∧ 654 + e < 654 + B 6 by omega), show 654 + e - 654 = e by omega]
    · rw [if_neg (show ¬ (654 ≤ 654 + e ∧ 654 + e < 654 + B 6) by omega), u_ne (by omega), u_ne (by omega), u_ne (by omega), bt (654 + e) (by omega) (by omega), if_neg (fun h => q (hf e a b h))]
  · unfold tiN tfZ
    rw [if_neg (show ¬ ((654 : Int) ≤ 3 ∧ 3 < 654 + B 6) by omega), u_ne (by omega), u_ne (by omega), updI_self]
  · unfold tiN tfZ
    rw [if_neg (show ¬ ((654 : Int) ≤ 10 ∧ 10 < 654 + B 6) by omega), u_ne (by omega), updI_self]
  · unfold tiN tfZ
    rw [if_neg (show ¬ ((654 : Int) ≤ 9 ∧ 9 < 654 + B 6) by omega), updI_self]
theorem ti_ok (hMK : MK X) (hz : nz X) (fin : Int → Bool) {n l : Int} {ft : Int → Int} (hf : ∀ e : Int, 0 ≤ e → e < 12 → ft e = 1 → plcZ X e ≠ -1) (h1 : 1 ≤ l) (h2 : l ≤ 12) (h3 : 1 ≤ n) (h4 : n ≤ 3) : nz (tiN (ctZ (ioZ X fin (X 7))) n l ft) ∧ MK (tiN (ctZ (ioZ X fin (X 7))) n l ft) := by
  have hn := B_nz hz fin
  obtain ⟨g, gi, gm, gt, g3, g10, g9, gz⟩ := tiN_at hMK fin (n := n) (l := l) (ft := ft) (fun e a b h => (plc_in hMK.1.2.1 hMK.1.2.2.2.2.2.2.2.1 (hf e a b h)).2)
  refine ⟨fun k hk => by rw [gz k hk]; exact hn k hk, aft_MK hMK (fin := fin) (Or.inl g3) g gi gm (fun k a b => ?_) (fun e a b h => ⟨g3, hf e a b ?_⟩) (by omega) (by omega) (fun h9 => absurd g3 h9) (fun _ => by omega)⟩
  · have h9 := gt (k - 654) (by omega) (by omega)
    rw [show 654 + (k - 654) = k by omega] at h9
    rw [h9]
    split
    · exact Or.inr rfl
    · exact Or.inl rfl
  · rw [gt e a b] at h
    by_cases q : ft e = 1
    · exact q
    · rw [if_neg q] at h; omega
/-- the class: those out are out, and it goes on -/
theorem C_go (hMK : MK X) (hC : Cp C X) {E : SX2} {fin : Int → Bool} (hE : enI E (X 6) (fun e => if (0 ≤ plcZ X e ∧ plcZ X e < X 7) ∧ fin e = true then 0 else X (126 + e))) : ∃ C', DX0_goOn (uX0_entrants C E) = some C' ∧ Cp C' (goZ X fin) := by
  obtain ⟨hp, gB, b9, b10, bm, bt, bi⟩ := B_pre hMK fin
  obtain ⟨hI, hx⟩ := hMK
  obtain ⟨hR, hT, hW, hIn, hTi, hk, hs, hO, hN, hru, hba, hty, hml⟩ := hI
  obtain ⟨t0, t1, t2, t3, t4, t6, t7, t8⟩ := hT
  have t12 : X 7 ≤ 12 := by omega
  obtain ⟨c3, c4, c1, c2, cw, ce, cr, cp, cj, cs, ch, ct, cc⟩ := hC
  have e4 := gB 4 (by omega)
  have e1 := gB 1 (by omega)
  have eg : goZ X fin = if ctZ (ioZ X fin (X 7)) 4 + 1 < ctZ (ioZ X fin (X 7)) 1 then brZ (ctZ (ioZ X fin (X 7))) (ctZ (ioZ X fin (X 7)) 4 + 1) else updI (ctZ (ioZ X fin (X 7))) 3 3 := by
    unfold goZ
    rw [e4, e1]
  rw [eg]
  generalize ctZ (ioZ X fin (X 7)) = B at *
  refine C_goOn hp (by omega) (by omega) b9 b10 bm bt (show gX0_round C = _ by rw [e4]; exact c4) (show gX0_rounds C = _ by rw [e1]; exact c1) (show gX0_penalty C = _ by rw [gB 2 (by omega)]; exact c2) (cW_c (fun k hk => gB k (by omega)) hW.1.2 cw) ⟨by rw [gB 6 (by omega)]; exact hE.1, fun e a b => ?_⟩ (cR_c (fun k hk => gB k (by omega)) cr) (cP_c (fun k hk => gB k (by omega)) hW cp) (cJ_c (fun k hk => gB k (by omega)) cj) (cS_c (fun k hk => gB k (by omega)) t12 cs) (by rw [gB 7 (by omega)]; exact t12) (cH_c (fun k hk => gB k (by omega)) ch) (cC_c (fun k hk => gB k (by omega)) cc)
  rw [bi e a b]
  exact hE.2 e a b
theorem ft_t (hp : 1 ≤ p) (hs : sbI s) {e : Int} (he : 0 ≤ e) (he' : e < 12) (h : ftZ s p e = 1) : tieZ s p = true := by
  have := tied_ft hp hs he he'
  rw [decide_eq_true h, Bool.and_eq_true] at this
  exact this.1
/-- how many are through for sure -/
def thZ (s : Int → Int) (p : Int) : Int := if tieZ s p = true then abZ s p else abZ s p + lvZ s p
theorem fin_eq (hMK : MK X) (hp : 1 ≤ p) (hs : sbI s) (hpl : ∀ e : Int, 0 ≤ e → e < 12 → s e ≠ -1 → plcZ X e ≠ -1) {e : Int} (he : 0 ≤ e) (he' : e < 12) : (e < X 6 ∧ ftZ s p e = 2) ↔ ((0 ≤ plcZ X e ∧ plcZ X e < X 7) ∧ decide (ftZ s p e = 2) = true) := by
  have t := hMK.1.2.1
  rw [decide_eq_true_eq]
  constructor
  · intro h
    have h1 := hpl e he he' (ft_n (s := s) (p := p) (e := e) (by omega))
    have pb := plcZ_b X e (by obtain ⟨t0, t1, t2, t3, t4, t6, t7, t8⟩ := t; omega)
    have := pb.2.2 h1
    exact ⟨by omega, h.2⟩
  · intro h
    exact ⟨(plc_in t hMK.1.2.2.2.2.2.2.2.1 (e := e) (by omega)).2, h.2⟩
theorem C_pB (hMK : MK X) (hC : Cp C X) (hK : kut (gX0_cut C) s p) (hp : 1 ≤ p) (hs : sbI s) (hpl : ∀ e : Int, 0 ≤ e → e < 12 → s e ≠ -1 → plcZ X e ≠ -1) : ∃ E, DX0_putOutThoseBelow C = some (uX0_entrants C E) ∧ enI E (X 6) (fun e => if (0 ≤ plcZ X e ∧ plcZ X e < X 7) ∧ decide (ftZ s p e = 2) = true then 0 else X (126 + e)) := by
  have t6 := hMK.1.2.1.2.2.2.2.2.1
  have ce := hC.2.2.2.2.2.1
  obtain ⟨E, e1, e2⟩ := C_putB t6.1 t6.2 (i := fun e => X (126 + e)) ⟨ce.1, fun e a b => ce.2 e a b⟩ hK hp hs
  refine ⟨E, e1, en_eq e2 fun e a b => ?_⟩
  have := fin_eq hMK hp hs hpl a b
  by_cases q : e < X 6 ∧ ftZ s p e = 2
  · rw [if_pos q, if_pos (this.mp q)]
  · rw [if_neg q, if_neg (fun h => q (this.mpr h))]
theorem fin_f (l : Int) : finZ X (ftZ s p) l false = fun e => decide (ftZ s p e = 2) := funext fun e => by
  unfold finZ
  rw [Bool.false_and, Bool.or_false]
/-- the class: a cut that leaves no tie -/
theorem C_aC0 (hMK : MK X) (hC : Cp C X) (hK : kut (gX0_cut C) s p) (hp : 1 ≤ p) (hp' : p ≤ 12) (hs : sbI s) (hpl : ∀ e : Int, 0 ≤ e → e < 12 → s e ≠ -1 → plcZ X e ≠ -1) (l : Int) (ht : tieZ s p = false) : ∃ E, DX0_applyCut C = some (iI 1, uX0_entrants C E) ∧ enI E (X 6) (fun e => if (0 ≤ plcZ X e ∧ plcZ X e < X 7) ∧ finZ X (ftZ s p) l false e = true then 0 else X (126 + e)) := by
  obtain ⟨E, e1, e2⟩ := C_pB hMK hC hK hp hs hpl
  refine ⟨E, ?_, by rw [fin_f]; exact e2⟩
  unfold DX0_applyCut
  rw [e1]
  simp only [Option.bind_some, iI_lit]
  rw [show gX0_cut (uX0_entrants C E) = gX0_cut C from rfl, C_leaves hK (by omega) (by omega), ht]
  rfl
/-- the class: a cut that leaves a tie -/
theorem C_aC1 (hMK : MK X) (hC : Cp C X) (hK : kut (gX0_cut C) s p) (hp : 1 ≤ p) (hp' : p ≤ 12) (hs : sbI s) (hpl : ∀ e : Int, 0 ≤ e → e < 12 → s e ≠ -1 → plcZ X e ≠ -1) (l : Int) (ht : tieZ s p = true) : ∃ C', DX0_applyCut C = some (iI 0, C') ∧ Cp C' (tiN (ctZ (ioZ X (finZ X (ftZ s p) l false) (X 7))) (X 10 + 1) (p - abZ s p) (ftZ s p)) := by
  obtain ⟨E, e1, e2⟩ := C_pB hMK hC hK hp hs hpl
  rw [fin_f]
  obtain ⟨g, gi, gm, gt, g3, g10, g9, gz⟩ := tiN_at hMK (fun e => decide (ftZ s p e = 2)) (n := X 10 + 1) (l := p - abZ s p) (ft := ftZ s p) (fun e a b h => (plc_in hMK.1.2.1 hMK.1.2.2.2.2.2.2.2.1 (hpl e a b (ft_n (s := s) (p := p) (e := e) (by omega)))).2)
  obtain ⟨hp0, gB, b9, b10, bm, bt, bi⟩ := B_pre hMK (fun e => decide (ftZ s p e = 2))
  obtain ⟨hI, hx⟩ := hMK
  obtain ⟨hR, hT, hW, hIn, hTi, hk, hs0, hO, hN, hru, hba, hty, hml⟩ := hI
  obtain ⟨t0, t1, t2, t3, t4, t6, t7, t8⟩ := hT
  have t12 : X 7 ≤ 12 := by omega
  obtain ⟨c3, c4, c1, c2, cw, ce, cr, cp, cj, cs, ch, ct, cc⟩ := hC
  obtain ⟨t, n1, n2⟩ := C_next9 (gX0_tie C) ct.1 hK hp hp' hs
  have h5 := hW.1
  refine ⟨uX0_state (uX0_tie (uX0_entrants C E) (iI (X 10 + 1), iI (p - abZ s p), t, (fun q : Nat => if q < 7 then (fun _ => iI (-1)) else gX9_sheet (gX0_tie C) q))) (iI 2), ?_, ?_⟩
  · unfold DX0_applyCut
    rw [e1]
    simp only [Option.bind_some, iI_lit]
    rw [show gX0_cut (uX0_entrants C E) = gX0_cut C from rfl, C_leaves hK (by omega) (by omega), ht, show gX0_tie (uX0_entrants C E) = gX0_tie C from rfl, n1]
    rfl
  · generalize tiN (ctZ (ioZ X (fun e => decide (ftZ s p e = 2)) (X 7))) (X 10 + 1) (p - abZ s p) (ftZ s p) = N at *
    refine ⟨?_, (by rw [g 4 (by omega)]; exact c4), (by rw [g 1 (by omega)]; exact c1), (by rw [g 2 (by omega)]; exact c2), (cW_c (fun k hk => g k (by omega)) h5.2 cw), ?_, (cR_c (fun k hk => g k (by omega)) cr), (cP_c (fun k hk => g k (by omega)) hW cp), (cJ_c (fun k hk => g k (by omega)) cj), (cS_c (fun k hk => g k (by omega)) t12 cs), (cH_c (fun k hk => g k (by omega)) ch), ?_, (cC_c (fun k hk => g k (by omega)) cc)⟩
    · rw [g3]; rfl
    · refine ⟨by rw [g 6 (by omega)]; exact e2.1, fun e a b => ?_⟩
      rw [gi (126 + e) (by omega) (by omega), bi e a b]
      exact e2.2 e a b
    · refine ⟨by rw [g10]; rfl, by rw [g9]; rfl, fun e a b => ?_, fun j e a b d f => ?_⟩
      · rw [gt e a b]; exact n2 e a b
      · rw [gm _ (by omega) (by omega)]
        show (if j.toNat < 7 then (fun _ => iI (-1)) else gX9_sheet (gX0_tie C) j.toNat) e.toNat = _
        rw [if_pos (by omega)]
/-- the class: the last tie round -/
theorem C_aC3 (hMK : MK X) (hC : Cp C X) (hK : kut (gX0_cut C) s p) (hp : 1 ≤ p) (hp' : p ≤ 12) (hs : sbI s) (hpl : ∀ e : Int, 0 ≤ e → e < 12 → s e ≠ -1 → plcZ X e ≠ -1) : ∃ E' E, DX0_putOutThoseBelow C = some (uX0_entrants C E') ∧ DX0_breakTieByStageOrder (uX0_entrants C E') = some (uX0_entrants C E) ∧ enI E (X 6) (fun e => if (0 ≤ plcZ X e ∧ plcZ X e < X 7) ∧ finZ X (ftZ s p) (p - thZ s p) true e = true then 0 else X (126 + e)) := by
  obtain ⟨E', e1, e2⟩ := C_pB hMK hC hK hp hs hpl
  have hT := hMK.1.2.1
  have hO := hMK.1.2.2.2.2.2.2.2.1
  have cs := hC.2.2.2.2.2.2.2.2.2.1
  obtain ⟨E, e3, e4⟩ := C_brk (C := uX0_entrants C E') hT hO cs e2 hK hp hp' hs
  refine ⟨E', E, e1, e3, en_eq e4 fun e a b => ?_⟩
  obtain ⟨t0, t1, t2, t3, t4, t6, t7, t8⟩ := hT
  have pb := plcZ_b X e (by omega)
  unfold finZ
  rw [Bool.true_and]
  by_cases q1 : ftZ s p e = 1
  · have h0 : thZ s p = abZ s p := if_pos (ft_t hp hs a b q1)
    have h1 := hpl e a b (ft_n (s := s) (p := p) (e := e) (by omega))
    have h2 := pb.2.2 h1
    rw [h0, decide_eq_true q1, Bool.true_and, decide_eq_false (show ¬ ftZ s p e = 2 by omega), Bool.false_or]
    by_cases q2 : p - abZ s p - tcZ X (ftZ s p) (plcZ X e).toNat ≤ 0
    · rw [if_pos ⟨h1, q1, q2⟩, if_pos ⟨by omega, decide_eq_true q2⟩]
    · rw [if_neg (fun h => q2 h.2.2), if_neg (fun h => by have := h.2; cases this), if_neg (fun h => q2 (of_decide_eq_true h.2))]
  · rw [if_neg (fun h => q1 h.2.1), decide_eq_false q1, Bool.false_and, Bool.or_false]
end LA
