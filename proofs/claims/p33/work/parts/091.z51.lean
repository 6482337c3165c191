section LD
variable {M N V X : Int → Int} {S : SX12} {C : SX0} {T : SX11} {c : Int}
/-- one number into the sum; many -/
def hmx (v : Int) (h : Int64) : Int64 := (31 : Int64) * h + (iI v).toInt64
def fo (F : Nat → Int64 → Int64) (h : Int64) : Nat → Int64
  | 0 => h
  | n + 1 => F n (fo F h n)
theorem upF {β : Type} (G : Nat → Nat → Int64 → Option β) (K : Int64 → Option β) (F : Nat → Int64 → Int64) (n : Nat) (hs : ∀ f j h, j < n → G (f + 1) j h = G f (j + 1) (F j h)) (he : ∀ f h, G (f + 1) n h = K h) : ∀ f h, n < f → G f 0 h = K (fo F h n) := by
  intro f h hf
  obtain ⟨h', e1, e2⟩ := upE G K (fun j x => x = fo F h j) n (fun f j s hj hs' => ⟨_, hs f j s hj, by rw [hs']; rfl⟩) (fun f s _ => he f s) f h hf rfl
  rw [e1, e2]
theorem fo_congr {F G : Nat → Int64 → Int64} (h : Int64) : ∀ n : Nat, (∀ k : Nat, k < n → ∀ x, F k x = G k x) → fo F h n = fo G h n := by
  intro n
  induction n with
  | zero => intro _; rfl
  | succ n ih => intro hh; rw [fo, fo, ih fun k hk => hh k (by omega), hh n (by omega)]
theorem fo_mul {F : Nat → Int64 → Int64} (h : Int64) (m : Nat) : ∀ n : Nat, fo F h (m * n) = fo (fun i x => fo (fun j y => F (m * i + j) y) x m) h n := by
  have add : ∀ (a b : Nat), fo F h (a + b) = fo (fun j y => F (a + j) y) (fo F h a) b := by
    intro a b
    induction b with
    | zero => rfl
    | succ b ih => rw [← Nat.add_assoc, fo, fo, ih]
  intro n
  induction n with
  | zero => rfl
  | succ n ih => rw [Nat.mul_succ, add, fo, ih]
theorem R_mix (S : SX12) (h : Int64) (v : Int) : DX12_mix (uX12_hash S h) (iI v).toInt64 = some (uX12_hash S (hmx v h)) := id rfl
theorem C_mix (h : Int64) (v : Int) : DX11_mix h (iI v) = some (hmx v h) := id rfl
theorem uh_l {h : Int64} : gX12_textLength (uX12_hash S h) = gX12_textLength S := id rfl
theorem uh_c {h : Int64} : gX12_savedCount (uX12_hash S h) = gX12_savedCount S := id rfl
theorem uh_h {h : Int64} : gX12_hash (uX12_hash S h) = h := id rfl
theorem uh_m {h : Int64} : gX12_m (uX12_hash S h) = gX12_m S := id rfl
/-- what of an entrant goes into the sum -/
def eF (M : Int → Int) (e : Int) (h : Int64) : Int64 := fo (fun k => hmx (ofEntrantZ M e k)) h 8
def pF (M : Int → Int) (e : Int) (h : Int64) : Int64 := fo (fun r x => fo (fun k => hmx (workAtZ M e r k)) (hmx (M (666 + 4 * e + r)) (hmx (flawZ M e r) x)) 4) h 4
def sF (M : Int → Int) (e : Int) (h : Int64) : Int64 := fo (fun j x => hmx (M (570 + (12 * (j : Int) + e))) (hmx (M (486 + (12 * (j : Int) + e))) (hmx (M (378 + (12 * (j : Int) + e))) x))) h (M 0).toNat
def aF (M : Int → Int) (e : Int) (h : Int64) : Int64 := sF M e (pF M e (eF M e h))
def sumZ (M : Int → Int) (L c : Int) : Int64 := hmx c (hmx L (hmx (strangestZ M) (fo (fun k => hmx (M (462 + (k : Int)))) (fo (fun e => aF M e) (fo (fun k => hmx (M (102 + (k : Int)))) (fo (fun k => hmx (M (12 + (k : Int)))) (fo (fun k => hmx (infoZ M k)) 43009 13) (3 * (M 5).toNat)) 24) (M 6).toNat) (M 7).toNat)))
theorem R_ent (hm : gX12_m S = mI M) (hI : MI M) {e : Int} (he : 0 ≤ e) (he' : e < 12) (h : Int64) : DX12_mixEntrant (uX12_hash S h) (iI e) = some (uX12_hash S (aF M e h)) := by
  obtain ⟨hR, hT, hW, hIn, hTi, hk, hs, hO, hN, hru, hba, hty, hml⟩ := hI
  have t0 := hT.1
  have a1 : ∀ (k3 : SX12 → Option SX12) (h : Int64), DX12_mixEntrant_L2 (iI e) k3 fu (iI 0) (uX12_hash S h) = k3 (uX12_hash S (eF M e h)) := fun k3 h => by
    refine upF (fun f j h => DX12_mixEntrant_L2 (iI e) k3 f (iI j) (uX12_hash S h)) (fun h => k3 (uX12_hash S h)) (fun k => hmx (ofEntrantZ M e k)) 8 ?_ ?_ fu h (by unfold fu; omega)
    · intro f j h hj
      show DX12_mixEntrant_L2 _ _ _ _ _ = _
      rw [DX12_mixEntrant_L2, R_ofEntrant (S := uX12_hash S h) hm hR hT hk hs he he' (by omega) (by omega)]
      simp only [Option.bind_some, iI_lit, iI_add, R_mix]
      rw [if_le (by omega) (by omega) (by omega) (by omega), if_neg (by omega), show ((j + 1 : Nat) : Int) = (j : Int) + 1 by omega]
    · intro f h
      show DX12_mixEntrant_L2 _ _ _ _ _ = _
      rw [DX12_mixEntrant_L2]
      simp only [iI_lit]
      rw [if_le (by omega) (by omega) (by omega) (by omega), if_pos (by omega)]
  have a3 : ∀ (r : Int) (k3 : SX12 → Option SX12) (h : Int64), 0 ≤ r → r < 4 → DX12_mixEntrant_L64 (iI e) (iI r) k3 fu (iI 0) (uX12_hash S h) = k3 (uX12_hash S (fo (fun k => hmx (workAtZ M e r k)) h 4)) := fun r k3 h hr hr' => by
    refine upF (fun f j h => DX12_mixEntrant_L64 (iI e) (iI r) k3 f (iI j) (uX12_hash S h)) (fun h => k3 (uX12_hash S h)) (fun k => hmx (workAtZ M e r k)) 4 ?_ ?_ fu h (by unfold fu; omega)
    · intro f j h hj
      show DX12_mixEntrant_L64 _ _ _ _ _ _ = _
      rw [DX12_mixEntrant_L64, R_workAt (S := uX12_hash S h) hm hW he he' hr hr' (by omega) (by omega)]
      simp only [Option.bind_some, iI_lit, iI_add, R_mix]
      rw [if_le (by omega) (by omega) (by omega) (by omega), if_neg (by omega), show ((j + 1 : Nat) : Int) = (j : Int) + 1 by omega]
    · intro f h
      show DX12_mixEntrant_L64 _ _ _ _ _ _ = _
      rw [DX12_mixEntrant_L64]
      simp only [iI_lit]
      rw [if_le (by omega) (by omega) (by omega) (by omega), if_pos (by omega)]
  have a2 : ∀ (k3 : SX12 → Option SX12) (h : Int64), DX12_mixEntrant_L27 (iI e) k3 fu (iI 0) (uX12_hash S h) = k3 (uX12_hash S (pF M e h)) := fun k3 h => by
    refine upF (fun f j h => DX12_mixEntrant_L27 (iI e) k3 f (iI j) (uX12_hash S h)) (fun h => k3 (uX12_hash S h)) (fun r x => fo (fun k => hmx (workAtZ M e r k)) (hmx (M (666 + 4 * e + r)) (hmx (flawZ M e r) x)) 4) 4 ?_ ?_ fu h (by unfold fu; omega)
    · intro f j h hj
      show DX12_mixEntrant_L27 _ _ _ _ _ = _
      rw [DX12_mixEntrant_L27, R_flawOf (S := uX12_hash S h) hm hR hW he he' (by omega) (by omega)]
      simp only [Option.bind_some, iI_lit, iI_add, iI_mul, R_mix, uh_m, hm]
      rw [if_le (by omega) (by omega) (by omega) (by omega), if_neg (by omega), gd_iI (by omega) (by omega) (by omega), mI_at (by omega) (by omega), R_mix]
      simp only [Option.bind_some]
      rw [a3 j _ _ (by omega) (by omega), show ((j + 1 : Nat) : Int) = (j : Int) + 1 by omega]
    · intro f h
      show DX12_mixEntrant_L27 _ _ _ _ _ = _
      rw [DX12_mixEntrant_L27]
      simp only [iI_lit]
      rw [if_le (by omega) (by omega) (by omega) (by omega), if_pos (by omega)]
  have a4 : ∀ (k3 : SX12 → Option SX12) (h : Int64), DX12_mixEntrant_L95 (iI e) k3 fu (iI 0) (uX12_hash S h) = k3 (uX12_hash S (sF M e h)) := fun k3 h => by
    refine upF (fun f j h => DX12_mixEntrant_L95 (iI e) k3 f (iI j) (uX12_hash S h)) (fun h => k3 (uX12_hash S h)) (fun j x => hmx (M (570 + (12 * (j : Int) + e))) (hmx (M (486 + (12 * (j : Int) + e))) (hmx (M (378 + (12 * (j : Int) + e))) x))) (M 0).toNat ?_ ?_ fu h (by unfold fu; omega)
    · intro f j h hj
      show DX12_mixEntrant_L95 _ _ _ _ _ = _
      rw [DX12_mixEntrant_L95]
      simp only [Option.bind_some, iI_lit, iI_add, R_seat, uh_m, hm]
      rw [show mI M 0 = iI (M 0) from rfl, if_le (by omega) (by omega) (by omega) (by omega), if_neg (by omega), gd_iI (by omega) (by omega) (by omega), mI_at (by omega) (by omega), R_mix]
      simp only [Option.bind_some, uh_m, hm]
      rw [gd_iI (by omega) (by omega) (by omega), mI_at (by omega) (by omega), R_mix]
      simp only [Option.bind_some, uh_m, hm]
      rw [gd_iI (by omega) (by omega) (by omega), mI_at (by omega) (by omega), R_mix]
      simp only [Option.bind_some]
      rw [show ((j + 1 : Nat) : Int) = (j : Int) + 1 by omega]
    · intro f h
      show DX12_mixEntrant_L95 _ _ _ _ _ = _
      rw [DX12_mixEntrant_L95]
      simp only [uh_m, hm]
      rw [show mI M 0 = iI (M 0) from rfl, if_le (by omega) (by omega) (by omega) (by omega), if_pos (by omega)]
  unfold DX12_mixEntrant
  simp only [iI_lit]
  rw [a1, a2, a4]
  rfl
theorem R_s1 (hm : gX12_m S = mI M) (hI : MI M) (k3 : SX12 → Option (Int64 × SX12)) (h : Int64) : DX12_checksum_L14 k3 fu (iI 0) (uX12_hash S h) = k3 (uX12_hash S (fo (fun k => hmx (infoZ M k)) h 13)) := by
  have hI' := hI
  have hW := hI.2.2.1
  have hT' := hI.2.1
  obtain ⟨t0, t1, t2, t3, t4, t6, t7, t8⟩ := hI.2.1
  have h5 := hW.1
  refine upF (fun f j h => DX12_checksum_L14 k3 f (iI j) (uX12_hash S h)) (fun h => k3 (uX12_hash S h)) (fun k => hmx (infoZ M k)) 13 ?_ ?_ fu h (by unfold fu; omega)
  · intro f j h hj
    show DX12_checksum_L14 _ _ _ _ = _
    rw [DX12_checksum_L14, R_infoOf (S := uX12_hash S h) hm hT' (by omega) (by omega)]
    simp only [Option.bind_some, iI_lit, iI_add, R_mix]
    rw [if_le (by omega) (by omega) (by omega) (by omega), if_neg (by omega), show ((j + 1 : Nat) : Int) = (j : Int) + 1 by omega]
  · intro f h
    show DX12_checksum_L14 _ _ _ _ = _
    rw [DX12_checksum_L14]
    simp only [iI_lit]
    rw [if_le (by omega) (by omega) (by omega) (by omega), if_pos (by omega)]
theorem R_s2 (hm : gX12_m S = mI M) (hI : MI M) (k3 : SX12 → Option (Int64 × SX12)) (h : Int64) : DX12_checksum_L38 k3 fu (iI 0) (uX12_hash S h) = k3 (uX12_hash S (fo (fun k => hmx (M (12 + (k : Int)))) h (3 * (M 5).toNat))) := by
  have hI' := hI
  have hW := hI.2.2.1
  have hT' := hI.2.1
  obtain ⟨t0, t1, t2, t3, t4, t6, t7, t8⟩ := hI.2.1
  have h5 := hW.1
  refine upF (fun f j h => DX12_checksum_L38 k3 f (iI j) (uX12_hash S h)) (fun h => k3 (uX12_hash S h)) (fun k => hmx (M (12 + (k : Int)))) (3 * (M 5).toNat) ?_ ?_ fu h (by unfold fu; omega)
  · intro f j h hj
    show DX12_checksum_L38 _ _ _ _ = _
    rw [DX12_checksum_L38]
    simp only [iI_lit, iI_add, uh_m, hm]
    rw [show mI M 5 = iI (M 5) from rfl, iI_mul, if_le (by omega) (by omega) (by omega) (by omega), if_neg (by omega), gd_iI (by omega) (by omega) (by omega), mI_at (by omega) (by omega), R_mix, show ((j + 1 : Nat) : Int) = (j : Int) + 1 by omega]
    rfl
  · intro f h
    show DX12_checksum_L38 _ _ _ _ = _
    rw [DX12_checksum_L38]
    simp only [iI_lit, uh_m, hm]
    rw [show mI M 5 = iI (M 5) from rfl, iI_mul, if_le (by omega) (by omega) (by omega) (by omega), if_pos (by omega)]
theorem R_s3 (hm : gX12_m S = mI M) (hI : MI M) (k3 : SX12 → Option (Int64 × SX12)) (h : Int64) : DX12_checksum_L72 k3 fu (iI 0) (uX12_hash S h) = k3 (uX12_hash S (fo (fun k => hmx (M (102 + (k : Int)))) h 24)) := by
  have hI' := hI
  have hW := hI.2.2.1
  have hT' := hI.2.1
  obtain ⟨t0, t1, t2, t3, t4, t6, t7, t8⟩ := hI.2.1
  have h5 := hW.1
  refine upF (fun f j h => DX12_checksum_L72 k3 f (iI j) (uX12_hash S h)) (fun h => k3 (uX12_hash S h)) (fun k => hmx (M (102 + (k : Int)))) 24 ?_ ?_ fu h (by unfold fu; omega)
  · intro f j h hj
    show DX12_checksum_L72 _ _ _ _ = _
    rw [DX12_checksum_L72]
    simp only [iI_lit, iI_add, uh_m, hm]
    rw [if_le (by omega) (by omega) (by omega) (by omega), if_neg (by omega), gd_iI (by omega) (by omega) (by omega), mI_at (by omega) (by omega), R_mix, show ((j + 1 : Nat) : Int) = (j : Int) + 1 by omega]
    rfl
  · intro f h
    show DX12_checksum_L72 _ _ _ _ = _
    rw [DX12_checksum_L72]
    simp only [iI_lit]
    rw [if_le (by omega) (by omega) (by omega) (by omega), if_pos (by omega)]
theorem R_s4 (hm : gX12_m S = mI M) (hI : MI M) (k3 : SX12 → Option (Int64 × SX12)) (h : Int64) : DX12_checksum_L100 k3 fu (iI 0) (uX12_hash S h) = k3 (uX12_hash S (fo (fun e => aF M e) h (M 6).toNat)) := by
  have hI' := hI
  have hW := hI.2.2.1
  have hT' := hI.2.1
  obtain ⟨t0, t1, t2, t3, t4, t6, t7, t8⟩ := hI.2.1
  have h5 := hW.1
  refine upF (fun f j h => DX12_checksum_L100 k3 f (iI j) (uX12_hash S h)) (fun h => k3 (uX12_hash S h)) (fun e => aF M e) (M 6).toNat ?_ ?_ fu h (by unfold fu; omega)
  · intro f j h hj
    show DX12_checksum_L100 _ _ _ _ = _
    rw [DX12_checksum_L100, R_ent hm hI' (by omega) (by omega)]
    simp only [Option.bind_some, iI_lit, iI_add, uh_m, hm]
    rw [show mI M 6 = iI (M 6) from rfl, if_le (by omega) (by omega) (by omega) (by omega), if_neg (by omega), show ((j + 1 : Nat) : Int) = (j : Int) + 1 by omega]
  · intro f h
    show DX12_checksum_L100 _ _ _ _ = _
    rw [DX12_checksum_L100]
    simp only [uh_m, hm]
    rw [show mI M 6 = iI (M 6) from rfl, if_le (by omega) (by omega) (by omega) (by omega), if_pos (by omega)]
theorem R_s5 (hm : gX12_m S = mI M) (hI : MI M) (k3 : SX12 → Option (Int64 × SX12)) (h : Int64) : DX12_checksum_L124 k3 fu (iI 0) (uX12_hash S h) = k3 (uX12_hash S (fo (fun k => hmx (M (462 + (k : Int)))) h (M 7).toNat)) := by
  have hI' := hI
  have hW := hI.2.2.1
  have hT' := hI.2.1
  obtain ⟨t0, t1, t2, t3, t4, t6, t7, t8⟩ := hI.2.1
  have h5 := hW.1
  refine upF (fun f j h => DX12_checksum_L124 k3 f (iI j) (uX12_hash S h)) (fun h => k3 (uX12_hash S h)) (fun k => hmx (M (462 + (k : Int)))) (M 7).toNat ?_ ?_ fu h (by unfold fu; omega)
  · intro f j h hj
    show DX12_checksum_L124 _ _ _ _ = _
    rw [DX12_checksum_L124]
    simp only [iI_lit, iI_add, uh_m, hm]
    rw [show mI M 7 = iI (M 7) from rfl, if_le (by omega) (by omega) (by omega) (by omega), if_neg (by omega), gd_iI (by omega) (by omega) (by omega), mI_at (by omega) (by omega), R_mix, show ((j + 1 : Nat) : Int) = (j : Int) + 1 by omega]
    rfl
  · intro f h
    show DX12_checksum_L124 _ _ _ _ = _
    rw [DX12_checksum_L124]
    simp only [uh_m, hm]
    rw [show mI M 7 = iI (M 7) from rfl, if_le (by omega) (by omega) (by omega) (by omega), if_pos (by omega)]
theorem R_tail (hm : gX12_m S = mI M) (hI : MI M) {L : Int} (hl : gX12_textLength S = iI L) (hc : gX12_savedCount S = iI c) (h : Int64) : ((DX12_strangest (uX12_hash S h)).bind fun x25 => (DX12_mix (uX12_hash S h) x25.toInt64).bind fun x27 => (DX12_mix x27 (gX12_textLength x27).toInt64).bind fun x29 => (DX12_mix x29 (gX12_savedCount x29).toInt64).bind fun x31 => some (gX12_hash x31, x31)) = some (hmx c (hmx L (hmx (strangestZ M) h)), uX12_hash S (hmx c (hmx L (hmx (strangestZ M) h)))) := by
  obtain ⟨hR, hT, hW, hIn, hTi, hk, hs, hO, hN, hru, hba, hty, hml⟩ := hI
  have h1 := R_strangest (S := uX12_hash S h) hm hR hT hk hO
  generalize strangestZ M = v at *
  rw [h1, Option.bind_some, R_mix, Option.bind_some, uh_l, hl, R_mix, Option.bind_some, uh_c, hc, R_mix, Option.bind_some, uh_h]
theorem R_head (hm : gX12_m S = mI M) (hI : MI M) (h : Int64) (k : SX12 → Option (Int64 × SX12)) : DX12_checksum_L14 (fun (S8 : SX12) => DX12_checksum_L38 (fun (S12 : SX12) => DX12_checksum_L72 (fun (S16 : SX12) => DX12_checksum_L100 (fun (S20 : SX12) => DX12_checksum_L124 k fu (iI 0) S20) fu (iI 0) S16) fu (iI 0) S12) fu (iI 0) S8) fu (iI 0) (uX12_hash S h) = k (uX12_hash S (fo (fun k => hmx (M (462 + (k : Int)))) (fo (fun e => aF M e) (fo (fun k => hmx (M (102 + (k : Int)))) (fo (fun k => hmx (M (12 + (k : Int)))) (fo (fun k => hmx (infoZ M k)) h 13) (3 * (M 5).toNat)) 24) (M 6).toNat) (M 7).toNat)) := by
  rw [R_s1 hm hI, R_s2 hm hI, R_s3 hm hI, R_s4 hm hI, R_s5 hm hI]
theorem R_sum (hm : gX12_m S = mI M) (hI : MI M) {L : Int} (hl : gX12_textLength S = iI L) (hc : gX12_savedCount S = iI c) : DX12_checksum S = some (sumZ M L c, uX12_hash (uX12_code S (iI 0)) (sumZ M L c)) := by
  obtain ⟨h, hh⟩ : ∃ h : Int64, h = 43009 := ⟨_, rfl⟩
  have e := R_head (S := uX12_code S (iI 0)) hm hI h (fun S24 => (DX12_strangest S24).bind fun x25 => (DX12_mix S24 x25.toInt64).bind fun x27 => (DX12_mix x27 (gX12_textLength x27).toInt64).bind fun x29 => (DX12_mix x29 (gX12_savedCount x29).toInt64).bind fun x31 => some (gX12_hash x31, x31))
  rw [R_tail (S := uX12_code S (iI 0)) hm hI hl hc] at e
  unfold DX12_checksum sumZ
  simp only [iI_lit, lt_eq]
  rw [← hh]
  exact e
end LD
