/-! closes if it can be; those that come out by their scores; undone -/
section CL
variable {M N : Int → Int} {T : SX11} {s : Int → Int}
def fzZ (M : Int → Int) (w : Int) : Int := if M 3 = 1 ∧ isClosableZ M = true then cn (fun e => decide (ftZ (sR M) (M (ruleZ (M 4) 5)) e = w)) 12 else -1
theorem closes_L45 (h : S0 T M) (c1 c2 c3 c6 : Int32) (F4 F5 : Nat → Int32) (k16 : SX11 → (Nat → Int32) → (Nat → Int32) → Option (Int32 × SX11)) : ∃ (T' : SX11) (G5 : Nat → Int32), DL_closes_L45 c1 c2 c3 c6 k16 4 (iI 0) T F4 F5 = k16 T' F4 G5 ∧ S0 T' M ∧ G5 0 = iI (fzZ M 0) ∧ G5 1 = iI (fzZ M 1) ∧ G5 2 = iI (fzZ M 2) := by
  have key := upE (fun f j (s : SX11 × (Nat → Int32)) => DL_closes_L45 c1 c2 c3 c6 k16 f (iI j) s.1 F4 s.2) (fun s => k16 s.1 F4 s.2) (fun j s => S0 s.1 M ∧ ∀ k : Nat, k < j → s.2 k = iI (fzZ M k)) 3 ?_ ?_ 4 (T, F5) (by omega) ⟨h, fun k hk => absurd hk (by omega)⟩
  · obtain ⟨⟨T', G5⟩, e1, e2, e3⟩ := key
    exact ⟨T', G5, e1, e2, e3 0 (by omega), e3 1 (by omega), e3 2 (by omega)⟩
  · intro f j s hj hI
    obtain ⟨T1, G5⟩ := s
    obtain ⟨i1, i2⟩ := hI
    obtain ⟨T2, w1, w2⟩ := E_wouldBe i1 (w := (j : Int)) (by omega) (by omega)
    refine ⟨(T2, upd G5 j (iI (fzZ M j))), ?_, w2, fun k hk => ?_⟩
    · show DL_closes_L45 _ _ _ _ _ _ _ _ _ _ = DL_closes_L45 _ _ _ _ _ _ _ _ _ _
      rw [DL_closes_L45]
      simp only [iI_lit, lt_eq]
      rw [if_le (by omega) (by omega) (by omega) (by omega), if_neg (by omega), show DL_wouldBe T1 (iI j) = some (iI (fzZ M j), T2) from w1]
      simp only [Option.bind_some, iI_add]
      rw [gd_iI (by omega) (by omega) (by omega), iI_nat (by omega) (by omega)]
      rfl
    · show upd G5 j (iI (fzZ M j)) k = _
      unfold upd
      by_cases q : k = j
      · rw [if_pos q, q]
      · rw [if_neg q]; exact i2 k (by omega)
  · intro f s hI
    show DL_closes_L45 _ _ _ _ _ _ _ _ _ _ = _
    rw [DL_closes_L45]
    simp only [iI_lit]
    rw [if_le (by omega) (by omega) (by omega) (by omega), if_pos (by omega)]
def okZ (M : Int → Int) (e : Int) : Bool := decide (plcZ M e = -1) || isCompleteZ M e
theorem closes_L71 (h : RR T M) (c1 c2 c3 : Int32) (b : Bool) (F4 F5 : Nat → Int32) (k29 : Int32 → SX11 → (Nat → Int32) → (Nat → Int32) → Option (Int32 × SX11)) : ∃ G4 : Nat → Int32, DL_closes_L71 c1 c2 c3 k29 13 (bI b) (iI 0) T F4 F5 = k29 (bI (b && al (okZ M) (M 6).toNat)) T G4 F5 ∧ ∀ k : Nat, k < (M 6).toNat → G4 k = iI (sR M k) := by
  obtain ⟨hR, hT, hW, hIn, hTi, hk, hs, hO, hN, hru, hba, hty, hml⟩ := id h.2
  obtain ⟨t0, t1, t2, t3, t4, t6, t7, t8⟩ := id hT
  have t12 : M 7 ≤ 12 := by omega
  have i6 := E_info h (w := 6) (by omega) (by omega)
  rw [show infoZ M 6 = M 6 from rfl] at i6
  have key := upE (fun f j (s : Int32 × (Nat → Int32)) => DL_closes_L71 c1 c2 c3 k29 f s.1 (iI j) T s.2 F5) (fun s => k29 s.1 T s.2 F5) (fun j s => s.1 = bI (b && al (okZ M) j) ∧ ∀ k : Nat, k < j → s.2 k = iI (sR M k)) (M 6).toNat ?_ ?_ 13 (bI b, F4) (by omega) ⟨by show bI b = bI (b && true); rw [Bool.and_true], fun k hk => absurd hk (by omega)⟩
  · obtain ⟨⟨v, G4⟩, e1, e2, e3⟩ := key
    have e2' : v = bI (b && al (okZ M) (M 6).toNat) := e2
    subst e2'
    exact ⟨G4, e1, e3⟩
  · intro f j s hj hI
    obtain ⟨v, G4⟩ := s
    obtain ⟨i1, i2⟩ := hI
    have i1' : v = bI (b && al (okZ M) j) := i1
    clear i1
    subst i1'
    obtain ⟨e, he9⟩ : ∃ e : Int, e = (j : Int) := ⟨_, rfl⟩
    have he : 0 ≤ e := by omega
    have he' : e < M 6 := by omega
    have E1 := E_entrant h he he' (show (0 : Int) ≤ 1 by omega) (by omega)
    have E4 := E_entrant h he he' (show (0 : Int) ≤ 4 by omega) (by omega)
    have E5 := E_entrant h he he' (show (0 : Int) ≤ 5 by omega) (by omega)
    rw [(ofE M e).2.1] at E1
    rw [(ofE M e).2.2.2.2.1] at E4
    rw [(ofE M e).2.2.2.2.2.1] at E5
    have pb := plcZ_b M e t12
    have ea : (b && al (okZ M) (j + 1)) = ((b && al (okZ M) j) && okZ M e) := by rw [al, ← he9, Bool.and_assoc]
    refine ⟨(bI (b && al (okZ M) (j + 1)), upd G4 j (iI (sR M e))), ?_, rfl, fun k hk => ?_⟩
    · show DL_closes_L71 _ _ _ _ _ _ _ _ _ _ = DL_closes_L71 _ _ _ _ _ _ _ _ _ _
      rw [DL_closes_L71, ea, show ((j + 1 : Nat) : Int) = e + 1 by omega, ← he9]
      generalize (b && al (okZ M) j) = b1
      simp only [iI_lit, iI_neg, jn_eq, lt_eq, i6, E1, E4, E5, Option.bind_some, iI_add, gd_iI he (show e < (12 : Nat) by omega) (by omega), iI_nat he (show e < 2147483648 by omega)]
      rw [if_le (by omega) (by omega) (by omega) (by omega), if_neg (by omega), if_le (by omega) (by omega) (by omega) (by omega), show e.toNat = j by omega]
      have fin : ∀ G : Nat → Int32, (if bI b1 = iI 0 then DL_closes_L71 c1 c2 c3 k29 f (iI 0) (iI (e + 1)) T G F5 else if iI (plcZ M e) < iI 0 then DL_closes_L71 c1 c2 c3 k29 f (iI 1) (iI (e + 1)) T G F5 else if iI (if isCompleteZ M e = true then 1 else 0) = iI 1 then DL_closes_L71 c1 c2 c3 k29 f (iI 1) (iI (e + 1)) T G F5 else DL_closes_L71 c1 c2 c3 k29 f (iI 0) (iI (e + 1)) T G F5) = DL_closes_L71 c1 c2 c3 k29 f (bI (b1 && okZ M e)) (iI (e + 1)) T G F5 := by
        intro G
        cases b1 with
        | false => rfl
        | true =>
          rw [Bool.true_and, show bI true = iI 1 from rfl, if_neg (by rw [ne10]; exact fun h => h), if_lt (by omega) (by omega) (by omega) (by omega)]
          unfold okZ
          by_cases q : plcZ M e = -1
          · rw [if_pos (by omega), decide_eq_true q]; rfl
          · rw [if_neg (by omega), decide_eq_false q]
            cases q5 : isCompleteZ M e with
            | false => rfl
            | true => rfl
      simp only [fin]
      unfold sR
      by_cases q : plcZ M e = -1
      · rw [if_neg (by omega), if_pos q]
      · rw [if_pos (by omega), if_neg q]
    · show upd G4 j (iI (sR M e)) k = _
      unfold upd
      by_cases q : k = j
      · rw [if_pos q, q, he9]
      · rw [if_neg q]; exact i2 k (by omega)
  · intro f s hI
    show DL_closes_L71 _ _ _ _ _ _ _ _ _ _ = _
    rw [DL_closes_L71]
    simp only [iI_lit, i6, Option.bind_some]
    rw [if_le (by omega) (by omega) (by omega) (by omega), if_pos (by omega)]
theorem closes_L338 (h : RR T N) {r : Int} (hr : 0 ≤ r) (hr' : r < 4) (c1 c8 c9 c12 : Int32) (F4 F5 : Nat → Int32) (hF : ∀ k : Nat, k < (N 6).toNat → F4 k = iI (s k)) (hs : sbI s) (hcut : N 4 = r → ∀ e d : Int, 0 ≤ e → e < N 6 → 0 ≤ d → d < N 6 → (0 ≤ s e → N (126 + e) = 1 → 0 ≤ s d → N (126 + d) = 0 → s d ≤ s e) ∧ (N (654 + e) = 1 → N (654 + d) = 1 → s d = s e)) {e : Int} (he : 0 ≤ e) (he' : e < N 6) (k140 k144 k148 : SX11 → (Nat → Int32) → (Nat → Int32) → Option (Int32 × SX11)) : DL_closes_L338 c1 (iI r) c8 c9 c12 (iI e) k140 k144 k148 13 (iI 0) T F4 F5 = k148 T F4 F5 := by
  obtain ⟨hR, hT, hW, hIn, hTi, hk, hs9, hO, hN, hru, hba, hty, hml⟩ := id h.2
  obtain ⟨t0, t1, t2, t3, t4, t6, t7, t8⟩ := id hT
  have i6 := E_info h (w := 6) (by omega) (by omega)
  have i4 := E_info h (w := 4) (by omega) (by omega)
  rw [show infoZ N 6 = N 6 from rfl] at i6
  rw [show infoZ N 4 = N 4 from rfl] at i4
  by_cases q4 : N 4 = r
  · refine upL (fun f j => DL_closes_L338 c1 (iI r) c8 c9 c12 (iI e) k140 k144 k148 f (iI j) T F4 F5) (k148 T F4 F5) (N 6).toNat ?_ ?_ 13 (by omega)
    · intro f j hj
      obtain ⟨d, hd9⟩ : ∃ d : Int, d = (j : Int) := ⟨_, rfl⟩
      have hd : 0 ≤ d := by omega
      have hd' : d < N 6 := by omega
      have D0 := E_entrant h hd hd' (show (0 : Int) ≤ 0 by omega) (by omega)
      have D6 := E_entrant h hd hd' (show (0 : Int) ≤ 6 by omega) (by omega)
      have E0 := E_entrant h he he' (show (0 : Int) ≤ 0 by omega) (by omega)
      have E6 := E_entrant h he he' (show (0 : Int) ≤ 6 by omega) (by omega)
      rw [(ofE N d).1] at D0
      rw [(ofE N d).2.2.2.2.2.2] at D6
      rw [(ofE N e).1] at E0
      rw [(ofE N e).2.2.2.2.2.2] at E6
      have fd := hF d.toNat (by omega)
      have fe := hF e.toNat (by omega)
      rw [show ((d.toNat : Nat) : Int) = d by omega] at fd
      rw [show ((e.toNat : Nat) : Int) = e by omega] at fe
      have cc := hcut q4 e d he he' hd hd'
      have bd := sbA hs hd (show d < 12 by omega)
      have be := sbA hs he (show e < 12 by omega)
      have ind := (hIn d hd (by omega)).1
      have ine := (hIn e he (by omega)).1
      have tid := hTi d hd (by omega)
      have tie := hTi e he (by omega)
      show DL_closes_L338 _ _ _ _ _ _ _ _ _ _ _ _ _ _ = DL_closes_L338 _ _ _ _ _ _ _ _ _ _ _ _ _ _
      rw [DL_closes_L338, show ((j + 1 : Nat) : Int) = d + 1 by omega, ← hd9]
      simp only [iI_lit, jn_eq, i6, i4, D0, D6, E0, E6, Option.bind_some, iI_add, gd_iI hd (show d < (12 : Nat) by omega) (by omega), gd_iI he (show e < (12 : Nat) by omega) (by omega), iI_nat hd (show d < 2147483648 by omega), iI_nat he (show e < 2147483648 by omega), fd, fe, q4, if_true, if_false, ne10, ne01]
      generalize N (126 + d) = xd at *
      generalize N (126 + e) = xe at *
      generalize N (654 + d) = yd at *
      generalize N (654 + e) = ye at *
      generalize s d = sd at *
      generalize s e = se at *
      generalize DL_closes_L338 c1 (iI r) c8 c9 c12 (iI e) k140 k144 k148 f (iI (d + 1)) T F4 F5 = R9
      have hQ : (if iI ye = iI 1 then if iI yd = iI 1 then if iI sd = iI se then R9 else k144 T F4 F5 else R9 else R9) = R9 := by
        rw [if_eq (by omega) (by omega) (by omega) (by omega)]
        by_cases q1 : ye = 1
        · rw [if_pos q1, if_eq (by omega) (by omega) (by omega) (by omega)]
          by_cases q2 : yd = 1
          · rw [if_pos q2, if_eq (by omega) (by omega) (by omega) (by omega), if_pos (cc.2 q1 q2)]
          · rw [if_neg q2]
        · rw [if_neg q1]
      simp only [hQ]
      rw [if_le (by omega) (by omega) (by omega) (by omega), if_neg (by omega), if_lt (by omega) (by omega) (by omega) (by omega)]
      simp only [if_lt (show -2147483648 ≤ se by omega) (show se < 2147483648 by omega) (show (-2147483648 : Int) ≤ 0 by omega) (show (0 : Int) < 2147483648 by omega), if_eq (show -2147483648 ≤ xd by omega) (show xd < 2147483648 by omega) (show (-2147483648 : Int) ≤ 0 by omega) (show (0 : Int) < 2147483648 by omega), if_eq (show -2147483648 ≤ xe by omega) (show xe < 2147483648 by omega) (show (-2147483648 : Int) ≤ 1 by omega) (show (1 : Int) < 2147483648 by omega), if_le (show -2147483648 ≤ sd by omega) (show sd < 2147483648 by omega) (show -2147483648 ≤ se by omega) (show se < 2147483648 by omega)]
      by_cases q1 : sd < 0
      · simp only [if_pos q1, ite_self]
      · by_cases q2 : xd = 0
        · simp only [if_neg q1, if_pos q2]
          by_cases q3 : se < 0
          · simp only [if_pos q3]
          · by_cases q5 : xe = 1
            · have := cc.1 (by omega) q5 (by omega) q2
              simp only [if_neg q3, if_pos q5, if_pos this]
            · simp only [if_neg q3, if_neg q5]
        · simp only [if_neg q1, if_neg q2, ite_self]
    · intro f
      show DL_closes_L338 _ _ _ _ _ _ _ _ _ _ _ _ _ _ = _
      rw [DL_closes_L338]
      simp only [iI_lit, i6, Option.bind_some]
      rw [if_le (by omega) (by omega) (by omega) (by omega), if_pos (by omega)]
  · refine upL (fun f j => DL_closes_L338 c1 (iI r) c8 c9 c12 (iI e) k140 k144 k148 f (iI j) T F4 F5) (k148 T F4 F5) 0 (fun f j hj => absurd hj (by omega)) (fun f => ?_) 13 (by omega)
    show DL_closes_L338 _ _ _ _ _ _ _ _ _ _ _ _ _ _ = _
    rw [DL_closes_L338]
    simp only [iI_lit, i6, i4, Option.bind_some]
    rw [if_le (by omega) (by omega) (by omega) (by omega), if_neg (by omega), if_eq (by omega) (by omega) (by omega) (by omega), if_neg q4]
theorem closes_L307 (h : RR T N) {r : Int} (hr : 0 ≤ r) (hr' : r < 4) (c1 c8 c9 c12 : Int32) (F4 F5 : Nat → Int32) (hF : ∀ k : Nat, k < (N 6).toNat → F4 k = iI (s k)) (hs : sbI s) (hh : ∀ e : Int, 0 ≤ e → e < N 6 → N (666 + 4 * e + r) = s e) (hcut : N 4 = r → ∀ e d : Int, 0 ≤ e → e < N 6 → 0 ≤ d → d < N 6 → (0 ≤ s e → N (126 + e) = 1 → 0 ≤ s d → N (126 + d) = 0 → s d ≤ s e) ∧ (N (654 + e) = 1 → N (654 + d) = 1 → s d = s e)) (k93 k100 k107 k114 : SX11 → (Nat → Int32) → (Nat → Int32) → Option (Int32 × SX11)) : DL_closes_L307 c1 (iI r) c8 c9 c12 k93 k100 k107 k114 13 (iI 0) T F4 F5 = k114 T F4 F5 := by
  obtain ⟨hR, hT, hW, hIn, hTi, hk, hs9, hO, hN, hru, hba, hty, hml⟩ := id h.2
  obtain ⟨t0, t1, t2, t3, t4, t6, t7, t8⟩ := id hT
  have i6 := E_info h (w := 6) (by omega) (by omega)
  rw [show infoZ N 6 = N 6 from rfl] at i6
  refine upL (fun f j => DL_closes_L307 c1 (iI r) c8 c9 c12 k93 k100 k107 k114 f (iI j) T F4 F5) (k114 T F4 F5) (N 6).toNat ?_ ?_ 13 (by omega)
  · intro f j hj
    obtain ⟨e, he9⟩ : ∃ e : Int, e = (j : Int) := ⟨_, rfl⟩
    have he : 0 ≤ e := by omega
    have he' : e < N 6 := by omega
    have H := E_history h he he' hr (show r ≤ 3 by omega)
    rw [hh e he he'] at H
    have fe := hF e.toNat (by omega)
    rw [show ((e.toNat : Nat) : Int) = e by omega] at fe
    show DL_closes_L307 _ _ _ _ _ _ _ _ _ _ _ _ _ _ = DL_closes_L307 _ _ _ _ _ _ _ _ _ _ _ _ _ _
    rw [DL_closes_L307, show ((j + 1 : Nat) : Int) = e + 1 by omega, ← he9]
    simp only [iI_lit, jn_eq, i6, H, Option.bind_some, iI_add]
    rw [if_le (by omega) (by omega) (by omega) (by omega), if_neg (by omega), gd_iI he (by omega) (by omega), iI_nat he (by omega), fe, if_pos rfl, closes_L338 h hr hr' _ _ _ _ F4 F5 hF hs hcut he he']
  · intro f
    show DL_closes_L307 _ _ _ _ _ _ _ _ _ _ _ _ _ _ = _
    rw [DL_closes_L307]
    simp only [iI_lit, i6, Option.bind_some]
    rw [if_le (by omega) (by omega) (by omega) (by omega), if_pos (by omega)]
end CL
