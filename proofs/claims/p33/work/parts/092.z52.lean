section LE
variable {M N V X : Int → Int} {S : SX12} {C : SX0} {T : SX11} {c : Int}
theorem C_ent (hC : Cp C M) (hI : MI M) {e : Int} (he : 0 ≤ e) (he' : e < 12) (h : Int64) : ((DX11_mixEntrant C h (iI e)).bind fun x31 => (DX11_mixPrograms C x31 (iI e)).bind fun x33 => DX11_mixSheets C x33 (iI e)) = some (aF M e h) := by
  have hC' := hC
  have hI' := hI
  obtain ⟨hR, hT, hW, hIn, hTi, hk, hs, hO, hN, hru, hba, hty, hml⟩ := hI
  have t0 := hT.1
  obtain ⟨c3, c4, c1, c2, cw, ce, cr, cp, cj, cs, ch, ct, cc⟩ := hC
  have a1 : ∀ h : Int64, DX11_mixEntrant C h (iI e) = some (eF M e h) := fun h => by
    unfold DX11_mixEntrant
    simp only [iI_lit]
    refine upF (fun f j h => DX11_mixEntrant_L6 C (iI e) (fun v => some v) f h (iI j)) (fun h => some h) (fun k => hmx (ofEntrantZ M e k)) 8 ?_ ?_ fu h (by unfold fu; omega)
    · intro f j h hj
      show DX11_mixEntrant_L6 _ _ _ _ _ _ = _
      rw [DX11_mixEntrant_L6, show gX11n_now C = C from rfl, C_tellOfEntrant hC' hI' he he' (by omega) (by omega)]
      simp only [Option.bind_some, iI_lit, iI_add, C_mix]
      rw [if_le (by omega) (by omega) (by omega) (by omega), if_neg (by omega), show ((j + 1 : Nat) : Int) = (j : Int) + 1 by omega]
    · intro f h
      show DX11_mixEntrant_L6 _ _ _ _ _ _ = _
      rw [DX11_mixEntrant_L6]
      simp only [iI_lit]
      rw [if_le (by omega) (by omega) (by omega) (by omega), if_pos (by omega)]
  have a3 : ∀ (r : Int) (k3 : Int64 → Option Int64) (h : Int64), 0 ≤ r → r < 4 → DX11_mixPrograms_L68 C (iI e) (iI r) k3 fu h (iI 0) = k3 (fo (fun k => hmx (workAtZ M e r k)) h 4) := fun r k3 h hr hr' => by
    refine upF (fun f j h => DX11_mixPrograms_L68 C (iI e) (iI r) k3 f h (iI j)) k3 (fun k => hmx (workAtZ M e r k)) 4 ?_ ?_ fu h (by unfold fu; omega)
    · intro f j h hj
      show DX11_mixPrograms_L68 _ _ _ _ _ _ _ = _
      rw [DX11_mixPrograms_L68, show gX11n_now C = C from rfl, C_workAt cp hW he he' hr hr' (by omega) (by omega)]
      simp only [Option.bind_some, iI_lit, iI_add, C_mix]
      rw [if_le (by omega) (by omega) (by omega) (by omega), if_neg (by omega), show ((j + 1 : Nat) : Int) = (j : Int) + 1 by omega]
    · intro f h
      show DX11_mixPrograms_L68 _ _ _ _ _ _ _ = _
      rw [DX11_mixPrograms_L68]
      simp only [iI_lit]
      rw [if_le (by omega) (by omega) (by omega) (by omega), if_pos (by omega)]
  have a2 : ∀ h : Int64, DX11_mixPrograms C h (iI e) = some (pF M e h) := fun h => by
    unfold DX11_mixPrograms
    simp only [iI_lit]
    refine upF (fun f j h => DX11_mixPrograms_L6 C (iI e) (fun v => some v) f h (iI j)) (fun h => some h) (fun r x => fo (fun k => hmx (workAtZ M e r k)) (hmx (M (666 + 4 * e + r)) (hmx (flawZ M e r) x)) 4) 4 ?_ ?_ fu h (by unfold fu; omega)
    · intro f j h hj
      show DX11_mixPrograms_L6 _ _ _ _ _ _ = _
      rw [DX11_mixPrograms_L6, show gX11n_now C = C from rfl, C_flawOf cp hR hW cw cr he he' (by omega) (by omega)]
      simp only [Option.bind_some, iI_lit, iI_add, C_mix]
      rw [if_le (by omega) (by omega) (by omega) (by omega), if_neg (by omega), gd_iI (by omega) (by omega) (by omega), gd_iI (by omega) (by omega) (by omega), iI_nat (a := (j : Int)) (by omega) (by omega), iI_nat (a := e) (by omega) (by omega), cc j e (by omega) (by omega) he he', C_mix]
      simp only [Option.bind_some]
      rw [a3 j _ _ (by omega) (by omega), show ((j + 1 : Nat) : Int) = (j : Int) + 1 by omega]
    · intro f h
      show DX11_mixPrograms_L6 _ _ _ _ _ _ = _
      rw [DX11_mixPrograms_L6]
      simp only [iI_lit]
      rw [if_le (by omega) (by omega) (by omega) (by omega), if_pos (by omega)]
  have a4 : ∀ h : Int64, DX11_mixSheets C h (iI e) = some (sF M e h) := fun h => by
    unfold DX11_mixSheets
    simp only [iI_lit]
    refine upF (fun f j h => DX11_mixSheets_L6 C (iI e) (fun v => some v) f h (iI j)) (fun h => some h) (fun j x => hmx (M (570 + (12 * (j : Int) + e))) (hmx (M (486 + (12 * (j : Int) + e))) (hmx (M (378 + (12 * (j : Int) + e))) x))) (M 0).toNat ?_ ?_ fu h (by unfold fu; omega)
    · intro f j h hj
      show DX11_mixSheets_L6 _ _ _ _ _ _ = _
      rw [DX11_mixSheets_L6, show gX11n_now C = C from rfl, cj.1, C_isBarred cj hR (by omega) (by omega) he he', C_at ch (by omega) (by omega) he he', C_at ct.2.2.2 (by omega) (by omega) he he']
      simp only [Option.bind_some, jn_eq, iI_lit, iI_add, C_mix]
      rw [if_le (by omega) (by omega) (by omega) (by omega), if_neg (by omega), show ((j + 1 : Nat) : Int) = (j : Int) + 1 by omega]
      have hb := hba j e (by omega) (by omega) he he'
      unfold isBarredZ
      by_cases q : M (378 + (12 * (j : Int) + e)) = 1
      · rw [decide_eq_true q, if_neg (show ¬ bI true = iI 0 by decide), q]
      · rw [decide_eq_false q, if_pos (show bI false = iI 0 from rfl), show M (378 + (12 * (j : Int) + e)) = 0 by omega]
    · intro f h
      show DX11_mixSheets_L6 _ _ _ _ _ _ = _
      rw [DX11_mixSheets_L6, show gX11n_now C = C from rfl, cj.1, if_le (by omega) (by omega) (by omega) (by omega), if_pos (by omega)]
  rw [a1]
  simp only [Option.bind_some]
  rw [a2]
  simp only [Option.bind_some]
  rw [a4]
  rfl
theorem C_sum (hC : Cp (gX11_now T) M) (hI : MI M) {L : Int} (hl : gX8_length (gX11_text T) = iI L) (hc : gX5_count (gX11_records T) = iI c) : DX11_checksum T = some (sumZ M L c) := by
  have hC' := hC
  have hI' := hI
  obtain ⟨hR, hT, hW, hIn, hTi, hk, hs, hO, hN, hru, hba, hty, hml⟩ := hI
  have hT' := hT
  obtain ⟨t0, t1, t2, t3, t4, t6, t7, t8⟩ := hT
  have h5 := hW.1
  obtain ⟨c3, c4, c1, c2, cw, ce, cr, cp, cj, cs, ch, ct, cc⟩ := hC
  obtain ⟨C, hU⟩ : ∃ C : SX0, C = gX11_now T := ⟨_, rfl⟩
  rw [← hU] at c3 c4 c1 c2 cw ce cr cp cj cs ch ct cc hC'
  have a1 : ∀ (k3 : Int64 → Option Int64) (h : Int64), DX11_checksum_L6 T k3 fu h (iI 0) = k3 (fo (fun k => hmx (infoZ M k)) h 13) := fun k3 h => by
    refine upF (fun f j h => DX11_checksum_L6 T k3 f h (iI j)) k3 (fun k => hmx (infoZ M k)) 13 ?_ ?_ fu h (by unfold fu; omega)
    · intro f j h hj
      show DX11_checksum_L6 _ _ _ _ _ = _
      rw [DX11_checksum_L6, ← hU, C_tell hC' hI' (by omega) (by omega)]
      simp only [Option.bind_some, iI_lit, iI_add, C_mix]
      rw [if_le (by omega) (by omega) (by omega) (by omega), if_neg (by omega), show ((j + 1 : Nat) : Int) = (j : Int) + 1 by omega]
    · intro f h
      show DX11_checksum_L6 _ _ _ _ _ = _
      rw [DX11_checksum_L6]
      simp only [iI_lit]
      rw [if_le (by omega) (by omega) (by omega) (by omega), if_pos (by omega)]
  have w1 : ∀ (w : Int) (k3 : Int64 → Option Int64) (h : Int64), 0 ≤ w → w < M 5 → DX11_mixWorks_L23 C (iI w) k3 fu h (iI 0) = k3 (fo (fun k => hmx (M (12 + 3 * w + k))) h 3) := fun w k3 h hw hw' => by
    refine upF (fun f j h => DX11_mixWorks_L23 C (iI w) k3 f h (iI j)) k3 (fun k => hmx (M (12 + 3 * w + k))) 3 ?_ ?_ fu h (by unfold fu; omega)
    · intro f j h hj
      show DX11_mixWorks_L23 _ _ _ _ _ _ = _
      rw [DX11_mixWorks_L23, show gX11n_now C = C from rfl, C_fact cw h5.1 h5.2 hw hw' (by omega) (by omega)]
      simp only [Option.bind_some, iI_lit, iI_add, C_mix]
      rw [if_le (by omega) (by omega) (by omega) (by omega), if_neg (by omega), show ((j + 1 : Nat) : Int) = (j : Int) + 1 by omega]
    · intro f h
      show DX11_mixWorks_L23 _ _ _ _ _ _ = _
      rw [DX11_mixWorks_L23]
      simp only [iI_lit]
      rw [if_le (by omega) (by omega) (by omega) (by omega), if_pos (by omega)]
  have a2 : ∀ h : Int64, DX11_mixWorks C h = some (fo (fun k => hmx (M (12 + (k : Int)))) h (3 * (M 5).toNat)) := fun h => by
    rw [fo_mul]
    unfold DX11_mixWorks
    simp only [iI_lit]
    refine upF (fun f j h => DX11_mixWorks_L5 C (fun v => some v) f h (iI j)) (fun h => some h) (fun i x => fo (fun j y => hmx (M (12 + ((3 * i + j : Nat) : Int))) y) x 3) (M 5).toNat ?_ ?_ fu h (by unfold fu; omega)
    · intro f j h hj
      show DX11_mixWorks_L5 _ _ _ _ _ = _
      rw [DX11_mixWorks_L5, show gX11n_now C = C from rfl, cw.1]
      simp only [iI_lit, iI_add]
      rw [if_le (by omega) (by omega) (by omega) (by omega), if_neg (by omega), w1 j _ _ (by omega) (by omega), show ((j + 1 : Nat) : Int) = (j : Int) + 1 by omega]
      refine congrArg (fun y => DX11_mixWorks_L5 C (fun v => some v) f y (iI ((j : Int) + 1))) ?_
      exact fo_congr h 3 fun k hk x => by rw [show 12 + 3 * (j : Int) + (k : Int) = 12 + ((3 * j + k : Nat) : Int) by omega]
    · intro f h
      show DX11_mixWorks_L5 _ _ _ _ _ = _
      rw [DX11_mixWorks_L5, show gX11n_now C = C from rfl, cw.1, if_le (by omega) (by omega) (by omega) (by omega), if_pos (by omega)]
  have r1 : ∀ (r : Int) (k3 : Int64 → Option Int64) (h : Int64), 0 ≤ r → r < 4 → DX11_mixRules_L14 C (iI r) k3 fu h (iI 0) = k3 (fo (fun k => hmx (M (ruleZ r k))) h 6) := fun r k3 h hr hr' => by
    refine upF (fun f j h => DX11_mixRules_L14 C (iI r) k3 f h (iI j)) k3 (fun k => hmx (M (ruleZ r k))) 6 ?_ ?_ fu h (by unfold fu; omega)
    · intro f j h hj
      show DX11_mixRules_L14 _ _ _ _ _ _ = _
      rw [DX11_mixRules_L14, show gX11n_now C = C from rfl]
      simp only [iI_lit, iI_add]
      rw [if_le (by omega) (by omega) (by omega) (by omega), if_neg (by omega), gd_iI (by omega) (by omega) (by omega), gd_iI (by omega) (by omega) (by omega), iI_nat (a := (j : Int)) (by omega) (by omega), iI_nat (a := r) (by omega) (by omega), cr r j hr hr' (by omega) (by omega), C_mix, show ((j + 1 : Nat) : Int) = (j : Int) + 1 by omega]
      rfl
    · intro f h
      show DX11_mixRules_L14 _ _ _ _ _ _ = _
      rw [DX11_mixRules_L14]
      simp only [iI_lit]
      rw [if_le (by omega) (by omega) (by omega) (by omega), if_pos (by omega)]
  have a3 : ∀ h : Int64, DX11_mixRules C h = some (fo (fun k => hmx (M (102 + (k : Int)))) h 24) := fun h => by
    rw [show 24 = 6 * 4 from rfl, fo_mul]
    unfold DX11_mixRules
    simp only [iI_lit]
    refine upF (fun f j h => DX11_mixRules_L5 C (fun v => some v) f h (iI j)) (fun h => some h) (fun i x => fo (fun j y => hmx (M (102 + ((6 * i + j : Nat) : Int))) y) x 6) 4 ?_ ?_ fu h (by unfold fu; omega)
    · intro f j h hj
      show DX11_mixRules_L5 _ _ _ _ _ = _
      rw [DX11_mixRules_L5]
      simp only [iI_lit, iI_add]
      rw [if_le (by omega) (by omega) (by omega) (by omega), if_neg (by omega), r1 j _ _ (by omega) (by omega), show ((j + 1 : Nat) : Int) = (j : Int) + 1 by omega]
      refine congrArg (fun y => DX11_mixRules_L5 C (fun v => some v) f y (iI ((j : Int) + 1))) ?_
      exact fo_congr h 6 fun k hk x => by rw [show ruleZ j k = 102 + ((6 * j + k : Nat) : Int) by unfold ruleZ; omega]
    · intro f h
      show DX11_mixRules_L5 _ _ _ _ _ = _
      rw [DX11_mixRules_L5]
      simp only [iI_lit]
      rw [if_le (by omega) (by omega) (by omega) (by omega), if_pos (by omega)]
  have a4 : ∀ (k3 : Int64 → Option Int64) (h : Int64), DX11_checksum_L45 T k3 fu h (iI 0) = k3 (fo (fun e => aF M e) h (M 6).toNat) := fun k3 h => by
    refine upF (fun f j h => DX11_checksum_L45 T k3 f h (iI j)) k3 (fun e => aF M e) (M 6).toNat ?_ ?_ fu h (by unfold fu; omega)
    · intro f j h hj
      show DX11_checksum_L45 _ _ _ _ _ = _
      have he := C_ent hC' hI' (e := j) (by omega) (by omega) h
      obtain ⟨x, h1, he⟩ := Option.bind_eq_some_iff.mp he
      obtain ⟨y, h2, h3⟩ := Option.bind_eq_some_iff.mp he
      rw [DX11_checksum_L45, ← hU, ce.1, h1]
      simp only [Option.bind_some, iI_lit, iI_add]
      rw [h2]
      simp only [Option.bind_some]
      rw [h3]
      simp only [Option.bind_some]
      rw [if_le (by omega) (by omega) (by omega) (by omega), if_neg (by omega), show ((j + 1 : Nat) : Int) = (j : Int) + 1 by omega]
    · intro f h
      show DX11_checksum_L45 _ _ _ _ _ = _
      rw [DX11_checksum_L45, ← hU, ce.1, if_le (by omega) (by omega) (by omega) (by omega), if_pos (by omega)]
  have a5 : ∀ (k3 : Int64 → Option Int64) (h : Int64), DX11_checksum_L88 T k3 fu h (iI 0) = k3 (fo (fun k => hmx (M (462 + (k : Int)))) h (M 7).toNat) := fun k3 h => by
    refine upF (fun f j h => DX11_checksum_L88 T k3 f h (iI j)) k3 (fun k => hmx (M (462 + (k : Int)))) (M 7).toNat ?_ ?_ fu h (by unfold fu; omega)
    · intro f j h hj
      show DX11_checksum_L88 _ _ _ _ _ = _
      rw [DX11_checksum_L88, ← hU, cs.1, C_playerAt cs hT' (by omega) (by omega), if_pos (show 0 ≤ (j : Int) ∧ (j : Int) < M 7 by omega)]
      simp only [Option.bind_some, iI_lit, iI_add, C_mix]
      rw [if_le (by omega) (by omega) (by omega) (by omega), if_neg (by omega), show ((j + 1 : Nat) : Int) = (j : Int) + 1 by omega]
    · intro f h
      show DX11_checksum_L88 _ _ _ _ _ = _
      rw [DX11_checksum_L88, ← hU, cs.1, if_le (by omega) (by omega) (by omega) (by omega), if_pos (by omega)]
  obtain ⟨h, hh⟩ : ∃ h : Int64, h = 43009 := ⟨_, rfl⟩
  have st := C_strangest hC' hI'
  have tail : ∀ h : Int64, ((DX11_strangestJuror C).bind fun x14 => (DX11_mix h x14).bind fun x16 => (DX11_mix x16 (gX8_length (gX11_text T))).bind fun x18 => (DX11_mix x18 (gX5_count (gX11_records T))).bind fun x20 => some x20) = some (hmx c (hmx L (hmx (strangestZ M) h))) := fun h => by
    generalize strangestZ M = v at *
    rw [st, Option.bind_some, C_mix, Option.bind_some, hl, C_mix, Option.bind_some, hc, C_mix, Option.bind_some]
  unfold DX11_checksum sumZ
  simp only [iI_lit]
  rw [← hh, a1, ← hU, a2, Option.bind_some, a3, Option.bind_some, a4, a5, tail]
/-- the checksums are alike -/
theorem K_checksum (h : GG T S) : ∃ v S', DX11_checksum T = some v ∧ DX12_checksum S = some (v, S') ∧ GG T S' := by
  obtain ⟨M, V, c, h⟩ := h
  obtain ⟨gm, gv, gc, hz, hMK, hC, hK, hX⟩ := h
  obtain ⟨L, Tx, x1, x2, x3, x4⟩ := hX
  exact ⟨_, _, C_sum hC hMK.1 x1 hK.1, R_sum gm hMK.1 x2 gc, M, V, c, gm, gv, gc, hz, hMK, hC, hK, L, Tx, x1, x2, x3, x4⟩
end LE
