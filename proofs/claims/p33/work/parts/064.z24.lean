section G1
variable {M N V : Int → Int}
/-- nothing stands outside the 714 cells -/
def nz (M : Int → Int) : Prop := ∀ k, ¬ (0 ≤ k ∧ k < 714) → M k = 0
/-- the cells of the i-th record -/
def blk (V : Int → Int) (i : Int) : Int → Int := fun k => if 0 ≤ k ∧ k < 714 then V (714 * i + k) else 0
theorem blk_nz (V : Int → Int) (i : Int) : nz (blk V i) := fun k h => if_neg h
theorem blk_put {c : Int} (hz : nz M) : blk (putV V M c) c = M := by
  funext k
  unfold blk putV
  by_cases q : 0 ≤ k ∧ k < 714
  · rw [if_pos q, if_pos (by omega), show 714 * c + k - 714 * c = k by omega]
  · rw [if_neg q, hz k q]
theorem blk_put_ne {c i : Int} (h : i < c) : blk (putV V M c) i = blk V i := by
  funext k
  unfold blk putV
  by_cases q : 0 ≤ k ∧ k < 714
  · rw [if_pos q, if_pos q, if_neg (by omega)]
  · rw [if_neg q, if_neg q]
theorem blk_drop {i : Int} (h0 : 0 ≤ i) (h : i < 3) : blk (dropV V) i = blk V (i + 1) := by
  funext k
  unfold blk dropV
  by_cases q : 0 ≤ k ∧ k < 714
  · rw [if_pos q, if_pos q, if_pos (by omega), show 714 * i + k + 714 = 714 * (i + 1) + k by omega]
  · rw [if_neg q, if_neg q]
theorem back_blk {c : Int} (hz : nz M) : backM V M c = blk V c := by
  funext k
  unfold blk backM
  by_cases q : 0 ≤ k ∧ k < 714
  · rw [if_pos q, if_pos q]
  · rw [if_neg q, if_neg q, hz k q]
theorem nz_upd {z v : Int} (h : nz M) (h0 : 0 ≤ z) (h1 : z < 714) : nz (updI M z v) := by
  intro k hk
  unfold updI
  rw [if_neg (by omega)]
  exact h k hk
/-- what holds besides MI: players in a round, and no closed score of one who isn't there -/
def xI (M : Int → Int) : Prop := (M 3 = 1 → 1 ≤ M 7) ∧ ∀ e r : Int, 0 ≤ e → e < 12 → 0 ≤ r → r < 4 → M 6 ≤ e → M (666 + 4 * e + r) = -1
def MK (M : Int → Int) : Prop := MI M ∧ xI M
def Recs (K : SX5) (V : Int → Int) (c : Int) : Prop := gX5_count K = iI c ∧ (0 ≤ c ∧ c ≤ 4) ∧ (∀ i : Nat, i < 4 → (gX5_kept K).2 i < 4) ∧ (∀ i j : Nat, i < j → j < 4 → (gX5_kept K).2 i ≠ (gX5_kept K).2 j) ∧ ∀ i : Nat, (i : Int) < c → Cp ((gX5_kept K).1 ((gX5_kept K).2 i)) (blk V i) ∧ MK (blk V i)
def keepF (T1 : SX0) (S1 : SX5) : Option (SX5) := gd (gIn (gX5_count S1) 4) (gd (decide ((((gX5_kept S1)).2 (((gX5_count S1)).toNatClampNeg)) < 4)) ((DX0_copyFrom (((gX5_kept S1)).1 (((gX5_kept S1)).2 (((gX5_count S1)).toNatClampNeg))) T1).bind fun x5 => (lt (uX5_kept S1 (updT ((gX5_kept S1)).1 (((gX5_kept S1)).2 (((gX5_count S1)).toNatClampNeg)) x5, ((gX5_kept S1)).2)) (fun S7 => lt (uX5_count S7 ((gX5_count S7) + (1 : Int32))) (fun S9 => some S9)))))
theorem gd_d {α : Type} {P : Prop} {_ : Decidable P} {x : Option α} (h : P) : gd (decide P) x = x := gd_t (decide_eq_true h)
theorem keep_F (K : SX5) (C : SX0) : DX5_keep K C = if ((gX5_count K) < (4 : Int32)) then keepF C K else (DX5_dropOldest K).bind fun x => keepF C x := id rfl
theorem C_keep1 {K : SX5} {C : SX0} {c : Int} (hK : Recs K V c) (h3 : c < 4) (hC : Cp C M) (hM : MK M) (hz : nz M) : ∃ K', keepF C K = some K' ∧ Recs K' (putV V M c) (c + 1) := by
  obtain ⟨n, B, ρ⟩ := K
  obtain ⟨k1, k2, k3, k4, k5⟩ := hK
  have k1' : n = iI c := k1
  have k3' : ∀ i : Nat, i < 4 → ρ i < 4 := k3
  have k4' : ∀ i j : Nat, i < j → j < 4 → ρ i ≠ ρ j := k4
  have k5' : ∀ i : Nat, (i : Int) < c → Cp (B (ρ i)) (blk V i) ∧ MK (blk V i) := k5
  clear k1 k3 k4 k5
  subst k1'
  refine ⟨(iI (c + 1), (updT B (ρ c.toNat) (uX0_cut C (gX0_cut (B (ρ c.toNat)))), ρ)), ?_, ?_⟩
  · show gd (gIn (iI c) 4) (gd (decide (ρ (iI c).toNatClampNeg < 4)) ((DX0_copyFrom (B (ρ (iI c).toNatClampNeg)) C).bind fun x5 => some (iI c + (1 : Int32), (updT B (ρ (iI c).toNatClampNeg) x5, ρ)))) = _
    rw [gd_iI (by omega) (by omega) (by omega), gd_d (show ρ (iI c).toNatClampNeg < 4 by rw [iI_nat (by omega) (by omega)]; exact k3' c.toNat (by omega)), iI_nat (by omega) (by omega), C_copy]
    simp only [Option.bind_some, iI_lit, iI_add]
  · refine ⟨rfl, ⟨by omega, by omega⟩, k3', k4', fun i hi => ?_⟩
    show Cp (updT B (ρ c.toNat) (uX0_cut C (gX0_cut (B (ρ c.toNat)))) (ρ i)) (blk (putV V M c) i) ∧ MK (blk (putV V M c) i)
    unfold updT
    by_cases q : (i : Int) = c
    · rw [q, blk_put hz, if_pos (show ρ i = ρ c.toNat by rw [show c.toNat = i by omega])]
      exact ⟨Cp_cut hC _, hM⟩
    · rw [blk_put_ne (by omega), if_neg (show ¬ ρ i = ρ c.toNat from k4' i c.toNat (by omega) (by omega))]
      exact k5' i (by omega)
theorem C_dropL (n : Int32) (B : Nat → SX0) (ρ : Nat → Nat) (hl : ∀ i : Nat, i < 4 → ρ i < 4) (k3 : SX5 → Option SX5) : DX5_dropOldest_L9 k3 fu (iI 1) (n, (B, ρ)) = k3 (n, (B, fun k => if k < 3 then ρ (k + 1) else ρ k)) := by
  have base : ((n, (B, ρ)) : SX5) = (n, (B, fun k => if k < 0 then ρ (k + 1) else ρ k)) := by
    rw [show (fun k : Nat => if k < 0 then ρ (k + 1) else ρ k) = ρ from funext fun k => if_neg (by omega)]
  have := upL (fun f j => DX5_dropOldest_L9 k3 f (iI ((j : Int) + 1)) (n, (B, fun k => if k < j then ρ (k + 1) else ρ k))) (k3 (n, (B, fun k => if k < 3 then ρ (k + 1) else ρ k))) 3 ?_ ?_ fu (by unfold fu; omega)
  · rw [← base] at this
    exact this
  · intro f j hj
    show DX5_dropOldest_L9 _ _ _ _ = _
    rw [DX5_dropOldest_L9]
    show (if (4 : Int32) ≤ iI ((j : Int) + 1) then k3 (n, (B, fun k => if k < j then ρ (k + 1) else ρ k)) else gd (gIn (iI ((j : Int) + 1)) 4) (gd (decide ((if (iI ((j : Int) + 1)).toNatClampNeg < j then ρ ((iI ((j : Int) + 1)).toNatClampNeg + 1) else ρ (iI ((j : Int) + 1)).toNatClampNeg) < 4)) (gd (gIn (iI ((j : Int) + 1) - (1 : Int32)) 4) (DX5_dropOldest_L9 k3 f (iI ((j : Int) + 1) + (1 : Int32)) (n, (B, updN (fun k => if k < j then ρ (k + 1) else ρ k) (iI ((j : Int) + 1) - (1 : Int32)).toNatClampNeg (if (iI ((j : Int) + 1)).toNatClampNeg < j then ρ ((iI ((j : Int) + 1)).toNatClampNeg + 1) else ρ (iI ((j : Int) + 1)).toNatClampNeg))))))) = _
    simp only [iI_lit, iI_sub, iI_add]
    rw [if_le (by omega) (by omega) (by omega) (by omega), if_neg (by omega), gd_iI (by omega) (by omega) (by omega), gd_d (show (if (iI ((j : Int) + 1)).toNatClampNeg < j then ρ ((iI ((j : Int) + 1)).toNatClampNeg + 1) else ρ (iI ((j : Int) + 1)).toNatClampNeg) < 4 by rw [iI_nat (by omega) (by omega), show ((j : Int) + 1).toNat = j + 1 by omega, if_neg (by omega)]; exact hl (j + 1) (by omega)), gd_iI (by omega) (by omega) (by omega), iI_nat (by omega) (by omega), iI_nat (by omega) (by omega), show ((j : Int) + 1).toNat = j + 1 by omega, show ((j : Int) + 1 - 1).toNat = j by omega, if_neg (show ¬ j + 1 < j by omega)]
    have e : updN (fun k => if k < j then ρ (k + 1) else ρ k) j (ρ (j + 1)) = fun k => if k < j + 1 then ρ (k + 1) else ρ k := by
      funext k
      unfold updN
      by_cases q : k = j
      · rw [if_pos q, if_pos (by omega), q]
      · rw [if_neg q]
        show (if k < j then ρ (k + 1) else ρ k) = _
        by_cases q2 : k < j
        · rw [if_pos q2, if_pos (by omega)]
        · rw [if_neg q2, if_neg (by omega)]
    rw [e]
    rfl
  · intro f
    show DX5_dropOldest_L9 _ _ _ _ = _
    rw [DX5_dropOldest_L9]
    simp only [iI_lit]
    rw [if_le (by omega) (by omega) (by omega) (by omega), if_pos (by omega)]
theorem C_drop {K : SX5} (hK : Recs K V 4) : ∃ K', DX5_dropOldest K = some K' ∧ Recs K' (dropV V) 3 := by
  obtain ⟨n, B, ρ⟩ := K
  obtain ⟨k1, k2, k3, k4, k5⟩ := hK
  have k1' : n = iI 4 := k1
  have k3' : ∀ i : Nat, i < 4 → ρ i < 4 := k3
  have k4' : ∀ i j : Nat, i < j → j < 4 → ρ i ≠ ρ j := k4
  have k5' : ∀ i : Nat, (i : Int) < 4 → Cp (B (ρ i)) (blk V i) ∧ MK (blk V i) := k5
  clear k1 k3 k4 k5
  subst k1'
  have e' : ∀ i : Nat, updN (fun k => if k < 3 then ρ (k + 1) else ρ k) 3 (ρ 0) i = if i = 3 then ρ 0 else if i < 3 then ρ (i + 1) else ρ i := fun _ => rfl
  refine ⟨(iI 3, (B, updN (fun k => if k < 3 then ρ (k + 1) else ρ k) 3 (ρ 0))), ?_, rfl, ⟨by omega, by omega⟩, ?_, ?_, ?_⟩
  · show gd (decide (ρ 0 < 4)) (DX5_dropOldest_L9 (fun (S5 : SX5) => some ((gX5_count S5) - (1 : Int32), (S5.2.1, updN S5.2.2 3 (ρ 0)))) fu (iI 1) (iI 4, (B, ρ))) = _
    rw [gd_d (k3' 0 (by omega)), C_dropL _ _ _ k3']
    show some (iI 4 - (1 : Int32), (B, updN (fun k => if k < 3 then ρ (k + 1) else ρ k) 3 (ρ 0))) = _
    rw [show iI 4 - (1 : Int32) = iI 3 from by rw [show (1 : Int32) = iI 1 from rfl, iI_sub]; rfl]
  · intro i hi
    show updN (fun k => if k < 3 then ρ (k + 1) else ρ k) 3 (ρ 0) i < 4
    rw [e']
    by_cases q : i = 3
    · rw [if_pos q]; exact k3' 0 (by omega)
    · rw [if_neg q, if_pos (by omega)]; exact k3' (i + 1) (by omega)
  · intro i j hij hj
    show updN (fun k => if k < 3 then ρ (k + 1) else ρ k) 3 (ρ 0) i ≠ updN (fun k => if k < 3 then ρ (k + 1) else ρ k) 3 (ρ 0) j
    rw [e', e']
    rw [if_neg (show ¬ i = 3 by omega), if_pos (show i < 3 by omega)]
    by_cases q : j = 3
    · rw [if_pos q]; exact fun h => k4' 0 (i + 1) (by omega) (by omega) h.symm
    · rw [if_neg q, if_pos (by omega)]; exact k4' (i + 1) (j + 1) (by omega) (by omega)
  · intro i hi
    show Cp (B (updN (fun k => if k < 3 then ρ (k + 1) else ρ k) 3 (ρ 0) i)) (blk (dropV V) i) ∧ MK (blk (dropV V) i)
    rw [blk_drop (by omega) hi, e']
    rw [if_neg (show ¬ i = 3 by omega), if_pos (show i < 3 by omega)]
    exact k5' (i + 1) (by omega)
theorem C_keep {K : SX5} {C : SX0} {c : Int} (hK : Recs K V c) (hC : Cp C M) (hM : MK M) (hz : nz M) : ∃ K', DX5_keep K C = some K' ∧ Recs K' (keepV V M c) (keepC c) := by
  have hc := hK.2.1
  rw [keep_F, hK.1, show (4 : Int32) = iI 4 from rfl, if_lt (by omega) (by omega) (by omega) (by omega)]
  unfold keepV keepC
  by_cases q : c = 4
  · rw [if_neg (by omega), if_pos q, if_pos q]
    rw [q] at hK
    obtain ⟨K1, h1, h2⟩ := C_drop hK
    rw [h1]
    exact C_keep1 h2 (by omega) hC hM hz
  · rw [if_pos (by omega), if_neg q, if_neg q]
    exact C_keep1 hK (by omega) hC hM hz
theorem C_restore {K : SX5} {C : SX0} {c : Int} (hK : Recs K V c) (h1 : 1 ≤ c) : ∃ K' C', DX5_restore K C = some (iI (c - 1), (K', C')) ∧ Recs K' V (c - 1) ∧ Cp C' (blk V (c - 1)) ∧ MK (blk V (c - 1)) := by
  obtain ⟨n, B, ρ⟩ := K
  obtain ⟨k1, k2, k3, k4, k5⟩ := hK
  have k1' : n = iI c := k1
  have k3' : ∀ i : Nat, i < 4 → ρ i < 4 := k3
  have k4' : ∀ i j : Nat, i < j → j < 4 → ρ i ≠ ρ j := k4
  have k5' : ∀ i : Nat, (i : Int) < c → Cp (B (ρ i)) (blk V i) ∧ MK (blk V i) := k5
  clear k1 k3 k4 k5
  subst k1'
  have hl := k5' (c - 1).toNat (by omega)
  rw [Int.toNat_of_nonneg (by omega)] at hl
  refine ⟨(iI (c - 1), (B, ρ)), uX0_cut (B (ρ (c - 1).toNat)) (gX0_cut C), ?_, ⟨rfl, ⟨by omega, by omega⟩, k3', k4', fun i hi => k5' i (by omega)⟩, Cp_cut hl.1 _, hl.2⟩
  show (if iI c ≤ (0 : Int32) then some (iI c, ((iI c, (B, ρ)), C)) else gd (gIn (iI c - (1 : Int32)) 4) (gd (decide (ρ (iI c - (1 : Int32)).toNatClampNeg < 4)) ((DX0_copyFrom C (B (ρ (iI c - (1 : Int32)).toNatClampNeg))).bind fun x7 => some (iI c - (1 : Int32), ((iI c - (1 : Int32), (B, ρ)), x7))))) = _
  simp only [iI_lit, iI_sub]
  rw [if_le (by omega) (by omega) (by omega) (by omega), if_neg (by omega), gd_iI (by omega) (by omega) (by omega), gd_d (show ρ (iI (c - 1)).toNatClampNeg < 4 by rw [iI_nat (by omega) (by omega)]; exact k3' (c - 1).toNat (by omega)), iI_nat (by omega) (by omega), C_copy]
  rfl
/-- the text that both hold -/
def TxC (X : SX8) (S : SX12) : Prop := ∃ (L : Int) (Tx : Int → Int), gX8_length X = iI L ∧ gX12_textLength S = iI L ∧ (0 ≤ L ∧ L ≤ 40) ∧ ∀ k : Int, 0 ≤ k → k < L → gX8_codes X k.toNat = iI (Tx k) ∧ gX12_text S k.toNat = iI (Tx k) ∧ 32 ≤ Tx k ∧ Tx k ≤ 126
/-- class and reference say the same -/
def Gc (T : SX11) (S : SX12) (M V : Int → Int) (c : Int) : Prop := gX12_m S = mI M ∧ gX12_saved S = mI V ∧ gX12_savedCount S = iI c ∧ nz M ∧ MK M ∧ Cp (gX11_now T) M ∧ Recs (gX11_records T) V c ∧ TxC (gX11_text T) S
def GG (T : SX11) (S : SX12) : Prop := ∃ M V c, Gc T S M V c
/-- the reference once it has kept -/
def kS (S : SX12) (M V : Int → Int) (c : Int) (v : Int32) : SX12 := uX12_savedCount (uX12_saved (uX12_code S v) (mI (keepV V M c))) (iI (keepC c))
theorem R_kS {T : SX11} {S : SX12} {c : Int} (h : Gc T S M V c) (v : Int32) : DX12_keep (uX12_code S v) = some (kS S M V c v) := by
  obtain ⟨hm, hv, hc, hz, hM, hC, hK, hX⟩ := h
  exact R_keep (S := uX12_code S v) hm hv hc hK.2.1.1 hK.2.1.2
theorem kS_m {S : SX12} {c : Int} {v : Int32} : gX12_m (kS S M V c v) = gX12_m S := id rfl
theorem kS_code {S : SX12} {c : Int} {v : Int32} : gX12_code (kS S M V c v) = v := id rfl
theorem um_m {S : SX12} {x : Nat → Int32} : gX12_m (uX12_m S x) = x := id rfl
theorem um_um {S : SX12} {x y : Nat → Int32} : uX12_m (uX12_m S x) y = uX12_m S y := id rfl
theorem um_code {S : SX12} {x : Nat → Int32} : gX12_code (uX12_m S x) = gX12_code S := id rfl
theorem uc_code {S : SX12} {v : Int32} : gX12_code (uX12_code S v) = v := id rfl
theorem uc_m {S : SX12} {v : Int32} : gX12_m (uX12_code S v) = gX12_m S := id rfl
theorem ur_now {T : SX11} {K : SX5} : gX11_now (uX11_records T K) = gX11_now T := id rfl
theorem un_now {T : SX11} {C : SX0} : gX11_now (uX11_now T C) = C := id rfl
theorem un_un {T : SX11} {C D : SX0} : uX11_now (uX11_now T C) D = uX11_now T D := id rfl
theorem G_code {T : SX11} {S : SX12} {c : Int} (h : Gc T S M V c) (v : Int32) : Gc T (uX12_code S v) M V c := h
theorem G_new {T : SX11} {S : SX12} {c : Int} (h : Gc T S M V c) {K' : SX5} (hK : Recs K' (keepV V M c) (keepC c)) {C' : SX0} (hz : nz N) (hM : MK N) (hC : Cp C' N) (v : Int32) : Gc (uX11_now (uX11_records T K') C') (uX12_m (kS S M V c v) (mI N)) N (keepV V M c) (keepC c) := by
  obtain ⟨hm, hv, hc, hz9, hM9, hC9, hK9, hX⟩ := h
  exact ⟨id rfl, id rfl, id rfl, hz, hM, hC, hK, hX⟩
/-- both throw, or both answer, alike -/
def Ans (xs : List Nat) (T : SX11) (r1 : Option (Nat ⊕ (Int32 × SX11))) (r2 : Option (Int32 × SX12)) : Prop :=
  (∃ v T' S', r1 = some (Sum.inr (v, T')) ∧ r2 = some (v, S') ∧ gX12_code S' = iI 0 ∧ GG T' S') ∨
  (∃ (n : Nat) (i : Nat) (v : Int32) (S' : SX12), r1 = some (Sum.inl n) ∧ r2 = some (v, S') ∧ xs[i]? = some n ∧ gX12_code S' = iI ((i : Int) + 1) ∧ GG T S')
/-- the same, of a call that changes nothing in the class -/
def AnsR (xs : List Nat) (T : SX11) (r1 : Option (Nat ⊕ Int32)) (r2 : Option (Int32 × SX12)) : Prop :=
  (∃ v S', r1 = some (Sum.inr v) ∧ r2 = some (v, S') ∧ gX12_code S' = iI 0 ∧ GG T S') ∨
  (∃ (n : Nat) (i : Nat) (v : Int32) (S' : SX12), r1 = some (Sum.inl n) ∧ r2 = some (v, S') ∧ xs[i]? = some n ∧ gX12_code S' = iI ((i : Int) + 1) ∧ GG T S')
theorem ans_x {T : SX11} {S : SX12} {c : Int} (h : Gc T S M V c) {xs : List Nat} {r1 : Option (Nat ⊕ (Int32 × SX11))} {r2 : Option (Int32 × SX12)} {v : Int32} (i n : Nat) (hx : xs[i]? = some n) (h1 : r1 = some (Sum.inl n)) (h2 : r2 = some (v, uX12_code S (iI ((i : Int) + 1)))) : Ans xs T r1 r2 :=
  Or.inr ⟨n, i, v, _, h1, h2, hx, id rfl, M, V, c, G_code h _⟩
theorem ansR_x {T : SX11} {S : SX12} {c : Int} (h : Gc T S M V c) {xs : List Nat} {r1 : Option (Nat ⊕ Int32)} {r2 : Option (Int32 × SX12)} {v : Int32} (i n : Nat) (hx : xs[i]? = some n) (h1 : r1 = some (Sum.inl n)) (h2 : r2 = some (v, uX12_code S (iI ((i : Int) + 1)))) : AnsR xs T r1 r2 :=
  Or.inr ⟨n, i, v, _, h1, h2, hx, id rfl, M, V, c, G_code h _⟩
theorem ansR_v {T : SX11} {S : SX12} {c : Int} (h : Gc T S M V c) {xs : List Nat} {r1 : Option (Nat ⊕ Int32)} {r2 : Option (Int32 × SX12)} (v : Int32) (h1 : r1 = some (Sum.inr v)) (h2 : r2 = some (v, uX12_code S (iI 0))) : AnsR xs T r1 r2 :=
  Or.inl ⟨v, _, h1, h2, id rfl, M, V, c, G_code h _⟩
theorem ans_v {T : SX11} {S : SX12} {c : Int} (h : Gc T S M V c) {xs : List Nat} {r1 : Option (Nat ⊕ (Int32 × SX11))} {r2 : Option (Int32 × SX12)} (v : Int32) {K' : SX5} (hK : Recs K' (keepV V M c) (keepC c)) {C' : SX0} (hz : nz N) (hM : MK N) (hC : Cp C' N) (h1 : r1 = some (Sum.inr (v, uX11_now (uX11_records T K') C'))) (h2 : r2 = some (v, uX12_m (kS S M V c (iI 0)) (mI N))) : Ans xs T r1 r2 :=
  Or.inl ⟨v, _, _, h1, h2, id rfl, N, _, _, G_new h hK hz hM hC _⟩
theorem tx_d {p : Prop} {_ : Decidable p} {n : Nat} {β : Type} {k : Unit → Option (Nat ⊕ β)} : tx (some (if decide p = true then Sum.inr () else Sum.inl n)) k = if p then k () else some (Sum.inl n) := by
  by_cases q : p
  · rw [if_pos q, decide_eq_true q]; rfl
  · rw [if_neg q, decide_eq_false q]; rfl
theorem tx_p {p : Prop} {_ : Decidable p} {n : Nat} {β : Type} {k : Unit → Option (Nat ⊕ β)} : tx (some (if p then Sum.inr () else Sum.inl n)) k = if p then k () else some (Sum.inl n) := by
  by_cases q : p
  · rw [if_pos q, if_pos q]; rfl
  · rw [if_neg q, if_neg q]; rfl
theorem reqA0 : DX11_requireArgument (iI 0) = some (Sum.inl 2) := id rfl
theorem reqA1 : DX11_requireArgument (iI 1) = some (Sum.inr ()) := id rfl
theorem reqS0 : DX11_requireState (iI 0) = some (Sum.inl 3) := id rfl
theorem reqS1 : DX11_requireState (iI 1) = some (Sum.inr ()) := id rfl
theorem mI_updN {n : Nat} (z v : Int) (h : z = n) : upd (mI M) n (iI v) = mI (updI M z v) := by
  rw [h]
  funext k
  unfold upd mI updI
  by_cases q : k = n
  · rw [if_pos q, if_pos (by omega)]
  · rw [if_neg q, if_neg (by omega)]
end G1
