section BU
variable {M X Y : Int → Int} {C : SX0}
theorem C_exchange {T : SX7} {i o : Int} (hi : 0 ≤ i) (hi' : i < 12) (ho : 0 ≤ o) (ho' : o < 12) : DX7_exchange T (iI i) (iI o) = some (uX7_order T (upd (upd (gX7_order T) i.toNat (gX7_order T o.toNat)) o.toNat (gX7_order T i.toNat))) := by
  unfold DX7_exchange
  simp only [iI_lit, jn_eq, lt_eq]
  rw [C_between (by omega) (by omega) (by omega) (by omega) (by omega) (by omega), C_between (by omega) (by omega) (by omega) (by omega) (by omega) (by omega)]
  simp only [Option.bind_some, if_bz, decide_eq_true_eq]
  rw [if_pos (by omega), if_pos (by omega), gd_iI (by omega) (by omega) (by omega), gd_iI (by omega) (by omega) (by omega), gd_iI (by omega) (by omega) (by omega), gd_iI (by omega) (by omega) (by omega), iI_nat (by omega) (by omega), iI_nat (by omega) (by omega)]
  rfl
theorem C_drawLots {T : SX7} (h : cS T X) (h8 : X 8 = 0) (h7 : 0 ≤ X 7) (h7' : X 7 ≤ 12) (h11 : 0 ≤ X 11) (h11' : X 11 < 2147483648) : ∃ T', DX7_drawLots T = some T' ∧ cS T' (drZ X (X 7) (X 7 - 1).toNat) := by
  unfold DX7_drawLots
  rw [h.1]
  simp only [iI_lit, iI_sub]
  have := upE (fun f j T => DX7_drawLots_L7 (fun S4 => some S4) f (iI (X 7 - 1 - j)) T) (fun T => some T) (fun j T => cS T (drZ X (X 7) j)) (X 7 - 1).toNat ?_ ?_ fu T (by unfold fu; omega) h
  · rw [show X 7 - 1 - ((0 : Nat) : Int) = X 7 - 1 by omega] at this
    exact this
  · intro f j T hj hT
    show ∃ s', DX7_drawLots_L7 _ _ _ _ = _ ∧ _
    obtain ⟨y1, y2⟩ := dr_11 (M := X) (P := X 7) h11 h11' j (by omega)
    have e7 : drZ X (X 7) j 7 = X 7 := dr_fr h7' j (by omega) 7 (by omega)
    have e8 : drZ X (X 7) j 8 = 0 := by rw [dr_fr h7' j (by omega) 8 (by omega)]; exact h8
    have hn : drZ X (X 7) (j + 1) = drS (drZ X (X 7) j) (X 7 - 1 - j) := rfl
    rw [hn]
    generalize drZ X (X 7) j = Y at *
    obtain ⟨i, hi⟩ : ∃ i : Int, i = X 7 - 1 - j := ⟨_, rfl⟩
    rw [← hi, show X 7 - 1 - ((j + 1 : Nat) : Int) = i - 1 by omega]
    have hs := ds_b Y
    have ho := do_b Y (i := i) (by omega)
    obtain ⟨s1, s2, s3, s4, s5⟩ := hT
    have ev : ((gX7_seed T * jI 1103515245 + jI 12345) - (gX7_seed T * jI 1103515245 + jI 12345) / jI 2147483648 * jI 2147483648) = jI (dsZ Y) := by
      rw [s3, show Int64.ofInt (Y 11) = jI (Y 11) from rfl]
      simp only [jI_mul, jI_add]
      rw [jI_div (by omega) (by omega) (by omega) (by omega), jI_mul, jI_sub]
      unfold dsZ
      congr 1
      omega
    have eo : (jI (dsZ Y) / jI 65536 - jI (dsZ Y) / jI 65536 / (iI (i + 1)).toInt64 * (iI (i + 1)).toInt64).toInt32 = iI (doZ Y i) := by
      rw [iI_l (by omega) (by omega), jI_div (by omega) (by omega) (by omega) (by omega), jI_div (by omega) (by omega) (by omega) (by omega), jI_mul, jI_sub, emod_f, jI_i]
      rfl
    refine ⟨uX7_order (uX7_seed T (jI (dsZ Y))) (upd (upd (gX7_order T) i.toNat (gX7_order T (doZ Y i).toNat)) (doZ Y i).toNat (gX7_order T i.toNat)), ?_, ?_⟩
    · rw [DX7_drawLots_L7]
      simp only [lt_eq, iI_lit, jI_lit, iI_neg, iI_add, ev, show ∀ v : Int64, gX7_seed (uX7_seed T v) = v from fun _ => rfl, eo]
      rw [if_lt (by omega) (by omega) (by omega) (by omega), if_neg (by omega), iI_l (by omega) (by omega), gzL_jI (by omega) (by omega) (by omega), C_exchange (by omega) (by omega) (by omega) (by omega), show i + -1 = i - 1 by omega]
      rfl
    · have hh : ∀ e : Int, hpZ (drS Y i) e = false := hp_0 (by rw [drS_fr (by omega) (by omega) (by omega)]; exact e8)
      refine ⟨?_, ?_, ?_, ?_, ?_⟩
      · rw [drS_fr (by omega) (by omega) (by omega)]; exact s1
      · rw [drS_fr (by omega) (by omega) (by omega)]; exact s2
      · rw [drS_11 (by omega)]; rfl
      · rw [drS_fr (k := 7) (by omega) (by omega) (by omega)]
        intro k k1 k2
        show upd (upd (gX7_order T) i.toNat (gX7_order T (doZ Y i).toNat)) (doZ Y i).toNat (gX7_order T i.toNat) k.toNat = _
        unfold upd drS
        by_cases q1 : k = doZ Y i
        · rw [if_pos (by omega), q1, updI_self]
          exact s4 i (by omega) (by omega)
        · rw [if_neg (by omega), updI_ne (by omega)]
          by_cases q2 : k = i
          · rw [if_pos (by omega), q2, updI_self]
            exact s4 _ (by omega) (by omega)
          · rw [if_neg (by omega), updI_ne (by omega), updI_ne (by omega)]
            exact s4 k k1 k2
      · intro e a b
        rw [hh e, if_neg (show ¬ false = true by decide)]
        have := s5 e a b
        rw [hp_0 e8, if_neg (show ¬ false = true by decide)] at this
        exact this
  · intro f T hT
    show DX7_drawLots_L7 _ _ _ _ = _
    rw [DX7_drawLots_L7]
    simp only [iI_lit]
    rw [if_lt (by omega) (by omega) (by omega) (by omega), if_pos (by omega)]
theorem C_wipe (H : SX6) : DX6_wipe H = some (fun q : Nat => if q < 7 then (fun _ => iI (-1)) else H q) := by
  unfold DX6_wipe
  simp only [iI_lit]
  have base : H = (fun q : Nat => if q < 0 then (fun _ => iI (-1)) else H q) := funext fun q => (if_neg (Nat.not_lt_zero q)).symm
  have := upL (fun f j => DX6_wipe_L2 (fun S4 => some S4) f (iI j) ((fun q : Nat => if q < j then (fun _ => iI (-1)) else H q) : SX6)) (some (fun q : Nat => if q < 7 then (fun _ => iI (-1)) else H q)) 7 ?_ ?_ fu (by unfold fu; omega)
  · rw [← base] at this
    exact this
  · intro f j hj
    show DX6_wipe_L2 _ _ _ _ = _
    rw [DX6_wipe_L2]
    simp only [lt_eq, iI_lit, iI_add, iI_neg]
    rw [if_le (by omega) (by omega) (by omega) (by omega), if_neg (by omega), gd_iI (by omega) (by omega) (by omega), iI_nat (by omega) (by omega), show ((j + 1 : Nat) : Int) = (j : Int) + 1 by omega]
    congr 1
    show upd2 (fun q : Nat => if q < j then (fun _ => iI (-1)) else H q) (j : Int).toNat (fun _ => iI (-1)) = _
    funext q
    unfold upd2
    by_cases q1 : q = (j : Int).toNat
    · rw [if_pos q1, if_pos (by omega)]
    · rw [if_neg q1]
      show (if q < j then (fun _ => iI (-1)) else H q) = _
      by_cases q2 : q < j
      · rw [if_pos q2, if_pos (by omega)]
      · rw [if_neg q2, if_neg (by omega)]
  · intro f
    show DX6_wipe_L2 _ _ _ _ = _
    rw [DX6_wipe_L2]
    simp only [iI_lit]
    rw [if_le (by omega) (by omega) (by omega) (by omega), if_pos (by omega)]
theorem C_seat {T : SX7} {e : Int} (h : cS T X) (h7 : 0 ≤ X 7) (h7' : X 7 < 12) : DX7_seat T (iI e) = some (uX7_players (uX7_order T (upd (gX7_order T) (X 7).toNat (iI e))) (iI (X 7 + 1))) := by
  unfold DX7_seat
  simp only [iI_lit, jn_eq, lt_eq]
  rw [h.1, if_le (by omega) (by omega) (by omega) (by omega), if_neg (by omega), gd_iI (by omega) (by omega) (by omega), iI_nat (by omega) (by omega), show ∀ v, gX7_players (uX7_order T v) = gX7_players T from fun _ => rfl, h.1, iI_add]
theorem C_putOut {E : SX2} {e : Int} (h : cE E X) (h6' : X 6 ≤ 12) (he : 0 ≤ e) (he' : e < X 6) : DX2_putOut E (iI e) = some (uX2_in E (upd (gX2_in E) e.toNat (iI 0))) := by
  unfold DX2_putOut
  rw [C_has2 h (by omega) h6' (by omega) (by omega)]
  simp only [iI_lit, jn_eq, lt_eq, Option.bind_some, if_bz, decide_eq_true_eq]
  rw [if_pos ⟨he, he'⟩, gd_iI (by omega) (by omega) (by omega), iI_nat (by omega) (by omega)]
theorem C_startL {r : Int} (hr : 0 ≤ r) (hr' : r < 4) (hR : rg M) (hI : inI M) (h6 : 0 ≤ M 6) (h6' : M 6 ≤ 12) (hW : wkI M) {E : SX2} {T : SX7} (cw : cW (gX0_works C) M) (cp : cP (gX0_programs C) M) (cr : cR (gX0_rules C) M) (ce : cE E (bgZ M r 0)) (cs : cS T (bgZ M r 0)) (k13 : SX0 → Option SX0) :
    ∃ E' T', DX0_startRound_L21 (iI r) k13 fu (iI 0) (uX0_stage (uX0_entrants C E) T) = k13 (uX0_stage (uX0_entrants C E') T') ∧ cE E' (bgZ M r (M 6).toNat) ∧ cS T' (bgZ M r (M 6).toNat) := by
  have := upE (fun f j (s : SX2 × SX7) => DX0_startRound_L21 (iI r) k13 f (iI j) (uX0_stage (uX0_entrants C s.1) s.2)) (fun s => k13 (uX0_stage (uX0_entrants C s.1) s.2)) (fun j s => cE s.1 (bgZ M r j) ∧ cS s.2 (bgZ M r j)) (M 6).toNat ?_ ?_ fu (E, T) (by unfold fu; omega) ⟨ce, cs⟩
  · obtain ⟨⟨E', T'⟩, h1, h2, h3⟩ := this
    exact ⟨E', T', h1, h2, h3⟩
  · intro f j s hj hs
    obtain ⟨E, T⟩ := s
    obtain ⟨ce, cs⟩ := hs
    show ∃ s', DX0_startRound_L21 _ _ _ _ (uX0_stage (uX0_entrants C E) T) = DX0_startRound_L21 _ _ _ (iI ((j + 1 : Nat) : Int)) _ ∧ _
    have ce : cE E (bgZ M r j) := ce
    have cs : cS T (bgZ M r j) := cs
    have e6 : bgZ M r j 6 = M 6 := bg_m r (by omega) (by omega)
    have ej : bgZ M r j (126 + j) = M (126 + j) := bg_m r (by omega) (by omega)
    have e8 : bgZ M r j 8 = 0 := by rw [bg_fr r j (by omega) 8 (by omega)]; exact (m0_at r 8).2.1 (by omega)
    have b7 := bg_7 (M := M) r j
    have hn : bgZ M r (j + 1) = if selZ M r j = true then updI (updI (updI (bgZ M r j) (126 + j) 1) (462 + bgZ M r j 7) j) 7 (bgZ M r j 7 + 1) else updI (bgZ M r j) (126 + j) 0 := rfl
    have hXI : inI (bgZ M r j) := by
      intro e a b
      rw [e6]
      by_cases q : e < j
      · rw [bg_in r j (by omega) e a q]
        refine ⟨by split <;> omega, fun h => by omega⟩
      · rw [bg_m r (by omega) (by omega)]
        exact hI e a b
    have hIj := hI j (by omega) (by omega)
    have fb := flawZ_b M j r
    have hin := C_isIn ce hXI (by omega) (by omega) (e := j) (by omega) (by omega)
    have hfl := C_flawOf cp hR hW cw cr (e := j) (r := r) (by omega) (by omega) hr hr'
    rw [hn]
    unfold selZ
    rw [ej] at hin
    have h1 : ∀ (E : SX2) (T : SX7), gX0_entrants (uX0_stage (uX0_entrants C E) T) = E := fun _ _ => rfl
    have h2 : ∀ (E : SX2) (T : SX7), gX0_stage (uX0_stage (uX0_entrants C E) T) = T := fun _ _ => rfl
    have h3 : ∀ (E : SX2) (T : SX7), gX0_programs (uX0_stage (uX0_entrants C E) T) = gX0_programs C := fun _ _ => rfl
    have h4 : ∀ (E : SX2) (T : SX7), gX0_rules (uX0_stage (uX0_entrants C E) T) = gX0_rules C := fun _ _ => rfl
    have h5 : ∀ (E : SX2) (T : SX7), gX0_works (uX0_stage (uX0_entrants C E) T) = gX0_works C := fun _ _ => rfl
    have h6 : ∀ (E : SX2) (T T' : SX7), uX0_stage (uX0_stage (uX0_entrants C E) T) T' = uX0_stage (uX0_entrants C E) T' := fun _ _ _ => rfl
    have h7 : ∀ (E E' : SX2) (T : SX7), uX0_entrants (uX0_stage (uX0_entrants C E) T) E' = uX0_stage (uX0_entrants C E') T := fun _ _ _ => rfl
    have hf8 : ∀ N : Int → Int, N 8 = 0 → ∀ e : Int, 0 ≤ e → e < 12 → gX7_slips T e.toNat = iI (if hpZ N e = true then N (474 + e) else -1) := fun N hN e a b => by
      have := cs.2.2.2.2 e a b
      rw [hp_0 e8] at this
      rw [hp_0 hN]
      exact this
    generalize bgZ M r j = X at *
    rw [DX0_startRound_L21]
    simp only [jn_eq, lt_eq, iI_lit, iI_add, h1, h2, h3, h4, h5, h6, h7, hin, hfl, Option.bind_some]
    rw [ce.1, e6, if_le (by omega) (by omega) (by omega) (by omega), if_neg (by omega), if_eq (by omega) (by omega) (by omega) (by omega), if_eq (by omega) (by omega) (by omega) (by omega), show ((j + 1 : Nat) : Int) = (j : Int) + 1 by omega]
    by_cases q1 : M (126 + j) = 1
    · rw [if_neg (by omega), decide_eq_true q1, Bool.true_and]
      by_cases q2 : flawZ M j r = 0
      · rw [if_pos q2, decide_eq_true q2, if_pos (show true = true from rfl), C_seat cs b7.1 (by omega)]
        refine ⟨(E, uX7_players (uX7_order T (upd (gX7_order T) (X 7).toNat (iI j))) (iI (X 7 + 1))), rfl, ?_, ?_⟩
        · refine ⟨by rw [updI_ne (by decide), updI_ne (by omega), updI_ne (by omega)]; exact ce.1, fun e a b => ?_⟩
          rw [updI_ne (by omega), updI_ne (by omega)]
          by_cases q3 : e = j
          · rw [q3, updI_self]
            have := ce.2 j (by omega) (by omega)
            rw [ej, q1] at this
            exact this
          · rw [updI_ne (by omega)]
            exact ce.2 e a b
        · refine ⟨by rw [updI_self]; rfl, ?_, ?_, ?_, ?_⟩
          · rw [updI_ne (by decide), updI_ne (by omega), updI_ne (by omega)]; exact cs.2.1
          · rw [updI_ne (by decide), updI_ne (by omega), updI_ne (by omega)]; exact cs.2.2.1
          · rw [updI_self]
            intro k a b
            show upd (gX7_order T) (X 7).toNat (iI j) k.toNat = _
            unfold upd
            rw [updI_ne (by omega)]
            by_cases q3 : k = X 7
            · rw [if_pos (by omega), q3, updI_self]
            · rw [if_neg (by omega), updI_ne (by omega), updI_ne (by omega)]
              exact cs.2.2.2.1 k a (by omega)
          · exact hf8 _ (by rw [updI_ne (by decide), updI_ne (by omega), updI_ne (by omega)]; exact e8)
      · rw [if_neg q2, decide_eq_false q2, if_neg (show ¬ false = true by decide), C_putOut ce (by omega) (by omega) (by omega)]
        refine ⟨(uX2_in E (upd (gX2_in E) (j : Int).toNat (iI 0)), T), rfl, ?_, cS_c (fun k hk => updI_ne (by omega)) (by omega) cs⟩
        refine ⟨by rw [updI_ne (by omega)]; exact ce.1, fun e a b => ?_⟩
        show upd (gX2_in E) (j : Int).toNat (iI 0) e.toNat = _
        unfold upd
        by_cases q3 : e = j
        · rw [if_pos (by omega), q3, updI_self]
        · rw [if_neg (by omega), updI_ne (by omega)]
          exact ce.2 e a b
    · have q0 : M (126 + j) = 0 := by
        rcases hIj.1 with h9 | h9
        · exact h9
        · exact absurd h9 q1
      rw [if_pos q0, decide_eq_false q1, Bool.false_and, if_neg (show ¬ false = true by decide)]
      refine ⟨(E, T), rfl, ?_, cS_c (fun k hk => updI_ne (by omega)) (by omega) cs⟩
      refine ⟨by rw [updI_ne (by omega)]; exact ce.1, fun e a b => ?_⟩
      by_cases q3 : e = j
      · rw [q3, updI_self]
        have := ce.2 j (by omega) (by omega)
        rw [ej, q0] at this
        exact this
      · rw [updI_ne (by omega)]
        exact ce.2 e a b
  · intro f s hs
    obtain ⟨E, T⟩ := s
    have ce : cE E (bgZ M r (M 6).toNat) := hs.1
    have e6 : bgZ M r (M 6).toNat 6 = M 6 := bg_m r (by omega) (by omega)
    show DX0_startRound_L21 _ _ _ _ (uX0_stage (uX0_entrants C E) T) = _
    rw [DX0_startRound_L21, show gX0_entrants (uX0_stage (uX0_entrants C E) T) = E from rfl, ce.1, e6, if_le (by omega) (by omega) (by omega) (by omega), if_pos (by omega)]
theorem C_empty (T : SX7) : DX7_empty T = some (uX7_slips (uX7_played (uX7_players T (iI 0)) (iI 0)) (fun _ => iI (-1))) := by
  unfold DX7_empty
  simp only [lt_eq]
  rfl
theorem C_startRound (hp : preI M) {r : Int} (hr : 0 ≤ r) (hr' : r < 4) (hro : gX0_rounds C = iI (M 1)) (hpe : gX0_penalty C = iI (M 2)) (cw : cW (gX0_works C) M) (ce : cE (gX0_entrants C) M) (cr : cR (gX0_rules C) M) (cp : cP (gX0_programs C) M) (cj : cJ (gX0_jury C) M) (hsd : gX7_seed (gX0_stage C) = Int64.ofInt (M 11)) (hct : cT (gX0_tie C) (m0Z M r)) (cc : cC (gX0_closedScores C) M) : ∃ C', DX0_startRound C (iI r) = some C' ∧ Cp C' (brZ M r) := by
  obtain ⟨hR, h0, h1, h2, h6, hW, hI, hru, hba, h11, hcl⟩ := hp
  have b7 := bg_7 (M := M) r (M 6).toNat
  have m0m : ∀ k : Int, (k = 6 ∨ k = 11 ∨ (126 ≤ k ∧ k < 138)) → m0Z M r k = M k := fun k hk => bg_m (n := 0) r (by omega) (by omega)
  have m08 : m0Z M r 8 = 0 := (m0_at r 8).2.1 (by omega)
  have m07 : m0Z M r 7 = 0 := (m0_at r 7).2.1 (by omega)
  unfold DX0_startRound
  simp only [lt_eq, jn_eq, iI_lit]
  rw [show gX0_stage (uX0_round C (iI r)) = gX0_stage C from rfl, C_empty]
  simp only [Option.bind_some]
  rw [C_wipe]
  simp only [Option.bind_some]
  have key := C_startL (M := M) (C := uX0_sheet (uX0_round C (iI r)) (fun q : Nat => if q < 7 then (fun _ => iI (-1)) else gX0_sheet C q)) hr hr' hR hI h6.1 h6.2 hW (E := gX0_entrants C) (T := uX7_slips (uX7_played (uX7_players (gX0_stage C) (iI 0)) (iI 0)) (fun _ => iI (-1))) cw cp cr (cE_c (fun k hk => m0m k (by omega)) ce) ⟨by show iI 0 = iI (m0Z M r 7); rw [m07], by show iI 0 = iI (m0Z M r 8); rw [m08], by show gX7_seed (gX0_stage C) = Int64.ofInt (m0Z M r 11); rw [m0m 11 (by omega)]; exact hsd, fun k a b => absurd (show k < m0Z M r 7 from b) (by omega), fun e a b => by show iI (-1) = iI (if hpZ (m0Z M r) e = true then m0Z M r (474 + e) else -1); rw [hp_0 m08, if_neg (show ¬ false = true by decide)]⟩ (fun S15 => (DX7_drawLots (gX0_stage S15)).bind fun x16 => if gX7_players (gX0_stage (uX0_stage S15 x16)) ≤ iI 0 then some (uX0_state (uX0_stage S15 x16) (iI 3)) else some (uX0_state (uX0_stage S15 x16) (iI 1)))
  obtain ⟨E', T', e1, ce', cs'⟩ := key
  have g7 : br0 M r 7 = bgZ M r (M 6).toNat 7 := updI_ne (by decide)
  have g11 : br0 M r 11 = M 11 := by unfold br0; rw [updI_ne (by decide)]; exact bg_m r (by omega) (by omega)
  have g8 : br0 M r 8 = 0 := by unfold br0; rw [updI_ne (by decide), bg_fr r _ (by omega) 8 (by omega)]; exact m08
  have r11 := hR 11
  obtain ⟨T2, e2, cs2⟩ := C_drawLots (T := T') (X := br0 M r) (cS_c (fun k hk => updI_ne (by omega)) (by omega) cs') g8 (by omega) (by omega) (by omega) (by omega)
  have cs2 : cS T2 (brZ M r) := cs2
  have p7 := br_7 h6.2 r
  have p3 := br_3 h6.2 r
  refine ⟨uX0_state (uX0_stage (uX0_entrants (uX0_sheet (uX0_round C (iI r)) (fun q : Nat => if q < 7 then (fun _ => iI (-1)) else gX0_sheet C q)) E') T2) (iI (brZ M r 3)), Eq.trans (show _ = _ from e1) ?_, rfl, ?_, ?_, ?_, ?_, ?_, ?_, ?_, ?_, cs2, ?_, ?_, ?_⟩
  · show (DX7_drawLots T').bind _ = _
    rw [e2]
    simp only [Option.bind_some]
    rw [show gX7_players (gX0_stage (uX0_stage (uX0_stage (uX0_entrants (uX0_sheet (uX0_round C (iI r)) (fun q : Nat => if q < 7 then (fun _ => iI (-1)) else gX0_sheet C q)) E') T') T2)) = iI (brZ M r 7) from cs2.1, p7, p3, if_le (by omega) (by omega) (by omega) (by omega)]
    by_cases q : bgZ M r (M 6).toNat 7 = 0
    · rw [if_pos (by omega), if_pos q]
      rfl
    · rw [if_neg (by omega), if_neg q]
      rfl
  · show iI r = iI (brZ M r 4)
    rw [br_m0 h6.2 r (by omega), (m0_at r 4).1 rfl]
  · rw [show brZ M r 1 = M 1 from br_m h6.2 r (by omega)]; exact hro
  · rw [show brZ M r 2 = M 2 from br_m h6.2 r (by omega)]; exact hpe
  · exact cW_c (fun k hk => br_m h6.2 r (by omega)) hW.1.2 cw
  · refine cE_c (fun k hk => ?_) ce'
    rw [br_0 h6.2 r (by omega)]
    exact updI_ne (by omega)
  · exact cR_c (fun k hk => br_m h6.2 r (by omega)) cr
  · exact cP_c (fun k hk => br_m h6.2 r (by omega)) hW cp
  · exact cJ_c (fun k hk => br_m h6.2 r (by omega)) cj
  · intro j e a b c d
    show (if j.toNat < 7 then (fun _ => iI (-1)) else gX0_sheet C j.toNat) e.toNat = _
    rw [if_pos (by omega), br_m0 h6.2 r (by omega), (m0_at r _).2.2.1 (by omega)]
  · exact cT_c (fun k hk => br_m0 h6.2 r (by omega)) hct
  · exact cC_c (fun k hk => br_m h6.2 r (by omega)) cc
end BU
