/-! the law's wrappers of calls that write, on the cells; what holds besides -/
section WS
variable {M N V : Int → Int} {T : SX11} {c L : Int}
/-- the cells are N, and the latest record is M -/
def SU (T : SX11) (N M : Int → Int) : Prop := ∃ V c L, AS T N V c L ∧ 1 ≤ c ∧ blk V (c - 1) = M
def S0 (T : SX11) (M : Int → Int) : Prop := ∃ V c L, AS T M V c L
theorem SU.st (h : SU T N M) : S0 T N := by
  obtain ⟨V, c, L, h, -⟩ := h
  exact ⟨V, c, L, h⟩
theorem S0.rr (h : S0 T M) : RR T M := by
  obtain ⟨V, c, L, h⟩ := h
  exact h.rr
theorem S0.mk (h : S0 T M) : MK M := by
  obtain ⟨V, c, L, h⟩ := h
  exact h.mk
theorem S0.nz (h : S0 T M) : nz M := by
  obtain ⟨V, c, L, h⟩ := h
  exact h.nz
theorem keep_blk (hz : nz M) (h0 : 0 ≤ c) (h4 : c ≤ 4) : 1 ≤ keepC c ∧ blk (keepV V M c) (keepC c - 1) = M := by
  unfold keepC keepV
  by_cases q : c = 4
  · rw [if_pos q, if_pos q]
    exact ⟨by omega, blk_put hz⟩
  · rw [if_neg q, if_neg q, show c + 1 - 1 = c by omega]
    exact ⟨by omega, blk_put hz⟩
theorem wW_v {xs : List Nat} {z : Int32 × SX11} : wxW xs T (some (Sum.inr z)) = some z := id rfl
theorem wW_x {xs : List Nat} {n : Nat} {w : Int32} (h : eg xs n = some w) : wxW xs T (some (Sum.inl n)) = some (w, T) := by
  show (eg xs n).map (fun v => (v, T)) = _
  rw [h]
  rfl
theorem EW_w (h : AS T M V c L) {xs : List Nat} {r : Option (Nat ⊕ (Int32 × SX11))} {o : Nat ⊕ (Int32 × (Int → Int))} {v : Int32} (hE : EW M V c L r o) (ho : o = Sum.inr (v, N)) : ∃ T', wxW xs T r = some (v, T') ∧ SU T' N M := by
  subst ho
  obtain ⟨T', h1, h2⟩ := hE
  obtain ⟨k1, k2⟩ := keep_blk (V := V) h.nz h.cb.1 h.cb.2
  exact ⟨T', by rw [h1, wW_v], _, _, _, h2, k1, k2⟩
theorem EW_t {xs : List Nat} {r : Option (Nat ⊕ (Int32 × SX11))} {o : Nat ⊕ (Int32 × (Int → Int))} {n : Nat} {w : Int32} (hE : EW M V c L r o) (ho : o = Sum.inl n) (h : eg xs n = some w) : wxW xs T r = some (w, T) := by
  subst ho
  have h1 : r = some (Sum.inl n) := hE
  rw [h1, wW_x h]
theorem E_addWork (h : S0 T M) {a b m : Int} (ha : 0 ≤ a ∧ a ≤ 9) (hb : 0 ≤ b ∧ b ≤ 4) (hm : 1 ≤ m ∧ m ≤ 60) (h3 : M 3 = 0) (h5 : M 5 < 30) : ∃ T', DL_addWork T (iI a) (iI b) (iI m) = some (iI (M 5), T') ∧ SU T' (updI (updI (updI (updI M (12 + 3 * M 5) a) (12 + 3 * M 5 + 1) b) (12 + 3 * M 5 + 2) m) 5 (M 5 + 1)) M := by
  obtain ⟨V, c, L, h⟩ := h
  obtain ⟨S, hG, hL⟩ := id h
  exact EW_w h (F_addWork hG hL (by omega) (by omega) (by omega) (by omega) (by omega) (by omega)) (by rw [if_pos ha, if_pos hb, if_pos hm, if_pos h3, if_neg (by omega)])
theorem E_addWork_a (h : S0 T M) {a b m : Int} (a1 : -2147483648 ≤ a) (a2 : a < 2147483648) (b1 : -2147483648 ≤ b) (b2 : b < 2147483648) (m1 : -2147483648 ≤ m) (m2 : m < 2147483648) (q : ¬ ((0 ≤ a ∧ a ≤ 9) ∧ (0 ≤ b ∧ b ≤ 4) ∧ (1 ≤ m ∧ m ≤ 60))) : DL_addWork T (iI a) (iI b) (iI m) = some (iI (-901), T) := by
  obtain ⟨V, c, L, h⟩ := h
  obtain ⟨S, hG, hL⟩ := id h
  refine EW_t (n := 2) (F_addWork hG hL (by omega) (by omega) (by omega) (by omega) (by omega) (by omega)) ?_ eg1.2.2.2.2.2.2.2.1
  by_cases q1 : 0 ≤ a ∧ a ≤ 9
  · rw [if_pos q1]
    by_cases q2 : 0 ≤ b ∧ b ≤ 4
    · rw [if_pos q2, if_neg (fun h => q ⟨q1, q2, h⟩)]
    · rw [if_neg q2]
  · rw [if_neg q1]
theorem E_addWork_s (h : S0 T M) {a b m : Int} (ha : 0 ≤ a ∧ a ≤ 9) (hb : 0 ≤ b ∧ b ≤ 4) (hm : 1 ≤ m ∧ m ≤ 60) (h3 : M 3 ≠ 0) : DL_addWork T (iI a) (iI b) (iI m) = some (iI (-902), T) := by
  obtain ⟨V, c, L, h⟩ := h
  obtain ⟨S, hG, hL⟩ := id h
  exact EW_t (n := 3) (F_addWork hG hL (by omega) (by omega) (by omega) (by omega) (by omega) (by omega)) (by rw [if_pos ha, if_pos hb, if_pos hm, if_neg h3]) eg1.2.2.2.2.2.2.2.2.1
theorem E_addEntrant (h : S0 T M) (h3 : M 3 = 0) (h6 : M 6 < 12) : ∃ T', DL_addEntrant T = some (iI (M 6), T') ∧ SU T' (updI (updI M (126 + M 6) 1) 6 (M 6 + 1)) M := by
  obtain ⟨V, c, L, h⟩ := h
  obtain ⟨S, hG, hL⟩ := id h
  exact EW_w h (F_addEntrant hG hL) (by rw [if_pos h3, if_neg (by omega)])
theorem E_addEntrant_s (h : S0 T M) (h3 : M 3 ≠ 0) : DL_addEntrant T = some (iI (-902), T) := by
  obtain ⟨V, c, L, h⟩ := h
  obtain ⟨S, hG, hL⟩ := id h
  exact EW_t (n := 3) (F_addEntrant hG hL) (by rw [if_neg h3]) eg1.2.2.2.2.2.2.2.2.2.1
theorem E_bar (h : S0 T M) {j e : Int} (β : Bool) (hj : 0 ≤ j ∧ j < M 0) (he : 0 ≤ e ∧ e < M 6) : ∃ T', DL_bar T (iI j) (iI e) (bI β) = some (bI (isBarredZ M j e), T') ∧ SU T' (updI M (378 + (12 * j + e)) (if β = true then 1 else 0)) M := by
  have hT := h.mk.1.2.1
  obtain ⟨t0, t1, t2, t3, t4, t6, t7, t8⟩ := hT
  obtain ⟨V, c, L, h⟩ := h
  obtain ⟨S, hG, hL⟩ := id h
  have hE := F_bar (β := β) hG hL (j := j) (e := e) (by omega) (by omega) (by omega) (by omega)
  rw [if_pos ⟨hj, he⟩] at hE
  obtain ⟨T', h1, h2⟩ := hE
  obtain ⟨k1, k2⟩ := keep_blk (V := V) h.nz h.cb.1 h.cb.2
  refine ⟨T', ?_, _, _, _, h2, k1, k2⟩
  unfold DL_bar
  rw [h1]
  show some ((if bI (isBarredZ M j e) = 0 then (0 : Int32) else 1), T') = _
  cases isBarredZ M j e <;> rfl
theorem E_bar_x (h : S0 T M) {j e : Int} (β : Bool) (j1 : -2147483648 ≤ j) (j2 : j < 2147483648) (e1 : -2147483648 ≤ e) (e2 : e < 2147483648) (q : ¬ ((0 ≤ j ∧ j < M 0) ∧ (0 ≤ e ∧ e < M 6))) : DL_bar T (iI j) (iI e) (bI β) = some (iI (-903), T) := by
  obtain ⟨V, c, L, h⟩ := h
  obtain ⟨S, hG, hL⟩ := id h
  have hE := F_bar (β := β) hG hL (j := j) (e := e) (by omega) (by omega) (by omega) (by omega)
  rw [if_neg q] at hE
  have h1 : DX11_bar T (iI j) (iI e) (bI β) = some (Sum.inl 1) := hE
  unfold DL_bar
  rw [h1]
  rfl
theorem E_set (h : S0 T M) {w v : Int} (hw : 0 ≤ w ∧ w ≤ 2) (hv : loS w ≤ v ∧ v ≤ hiS w) (q : w = 2 ∨ M 3 = 0) : ∃ T', DL_set T (iI w) (iI v) = some (iI (M w), T') ∧ SU T' (updI M w v) M := by
  have lb := loS_b w
  obtain ⟨V, c, L, h⟩ := h
  obtain ⟨S, hG, hL⟩ := id h
  exact EW_w h (F_set hG hL (by omega) (by omega) (by omega) (by omega)) (by rw [if_pos hw, if_pos hv, if_pos q])
theorem E_set_a (h : S0 T M) {w v : Int} (w1 : -2147483648 ≤ w) (w2 : w < 2147483648) (v1 : -2147483648 ≤ v) (v2 : v < 2147483648) (q : ¬ ((0 ≤ w ∧ w ≤ 2) ∧ (loS w ≤ v ∧ v ≤ hiS w))) : DL_set T (iI w) (iI v) = some (iI (-901), T) := by
  obtain ⟨V, c, L, h⟩ := h
  obtain ⟨S, hG, hL⟩ := id h
  refine EW_t (n := 2) (F_set hG hL (by omega) (by omega) (by omega) (by omega)) ?_ eg1.2.2.2.2.2.2.2.1
  by_cases q1 : 0 ≤ w ∧ w ≤ 2
  · rw [if_pos q1, if_neg (fun h => q ⟨q1, h⟩)]
  · rw [if_neg q1]
theorem E_set_s (h : S0 T M) {w v : Int} (hw : 0 ≤ w ∧ w ≤ 2) (hv : loS w ≤ v ∧ v ≤ hiS w) (q : ¬ (w = 2 ∨ M 3 = 0)) : DL_set T (iI w) (iI v) = some (iI (-902), T) := by
  have lb := loS_b w
  obtain ⟨V, c, L, h⟩ := h
  obtain ⟨S, hG, hL⟩ := id h
  exact EW_t (n := 3) (F_set hG hL (by omega) (by omega) (by omega) (by omega)) (by rw [if_pos hw, if_pos hv, if_neg q]) eg1.2.2.2.2.2.2.2.2.1
theorem E_setRule (h : S0 T M) {r w v : Int} (hr : 0 ≤ r ∧ r ≤ 3) (hw : 0 ≤ w ∧ w ≤ 5) (hv : loR w ≤ v ∧ v ≤ hiR w) (h3 : M 3 = 0) : ∃ T', DL_setRule T (iI r) (iI w) (iI v) = some (iI (M (ruleZ r w)), T') ∧ SU T' (updI M (ruleZ r w) v) M := by
  have lb := loR_b w
  obtain ⟨V, c, L, h⟩ := h
  obtain ⟨S, hG, hL⟩ := id h
  exact EW_w h (F_setRule hG hL (by omega) (by omega) (by omega) (by omega) (by omega) (by omega)) (by rw [if_pos hr, if_pos ⟨hw, hv⟩, if_pos h3])
theorem E_setRule_i (h : S0 T M) {r w v : Int} (r1 : -2147483648 ≤ r) (r2 : r < 2147483648) (w1 : -2147483648 ≤ w) (w2 : w < 2147483648) (v1 : -2147483648 ≤ v) (v2 : v < 2147483648) (q : ¬ (0 ≤ r ∧ r ≤ 3)) : DL_setRule T (iI r) (iI w) (iI v) = some (iI (-903), T) := by
  obtain ⟨V, c, L, h⟩ := h
  obtain ⟨S, hG, hL⟩ := id h
  exact EW_t (n := 1) (F_setRule hG hL (by omega) (by omega) (by omega) (by omega) (by omega) (by omega)) (by rw [if_neg q]) eg1.2.2.2.2.1
theorem E_setRule_a (h : S0 T M) {r w v : Int} (hr : 0 ≤ r ∧ r ≤ 3) (w1 : -2147483648 ≤ w) (w2 : w < 2147483648) (v1 : -2147483648 ≤ v) (v2 : v < 2147483648) (q : ¬ ((0 ≤ w ∧ w ≤ 5) ∧ loR w ≤ v ∧ v ≤ hiR w)) : DL_setRule T (iI r) (iI w) (iI v) = some (iI (-901), T) := by
  obtain ⟨V, c, L, h⟩ := h
  obtain ⟨S, hG, hL⟩ := id h
  exact EW_t (n := 2) (F_setRule hG hL (by omega) (by omega) (by omega) (by omega) (by omega) (by omega)) (by rw [if_pos hr, if_neg q]) eg1.2.2.2.2.2.1
theorem E_setRule_s (h : S0 T M) {r w v : Int} (hr : 0 ≤ r ∧ r ≤ 3) (hw : 0 ≤ w ∧ w ≤ 5) (hv : loR w ≤ v ∧ v ≤ hiR w) (h3 : M 3 ≠ 0) : DL_setRule T (iI r) (iI w) (iI v) = some (iI (-902), T) := by
  have lb := loR_b w
  obtain ⟨V, c, L, h⟩ := h
  obtain ⟨S, hG, hL⟩ := id h
  exact EW_t (n := 3) (F_setRule hG hL (by omega) (by omega) (by omega) (by omega) (by omega) (by omega)) (by rw [if_pos hr, if_pos ⟨hw, hv⟩, if_neg h3]) eg1.2.2.2.2.2.2.1
theorem E_setProgram_x (h : S0 T M) {e r : Int} (e1 : -2147483648 ≤ e) (e2 : e < 2147483648) (r1 : -2147483648 ≤ r) (r2 : r < 2147483648) (q : ¬ ((0 ≤ e ∧ e < M 6) ∧ (0 ≤ r ∧ r ≤ 3))) : DL_setProgram T (iI e) (iI r) = some (iI (-903), T) := by
  unfold DL_setProgram
  rw [F_setProgram_x h.rr e1 e2 r1 r2 q]
  exact wW_x eg1.1
theorem E_clearProgram_x (h : S0 T M) {e r : Int} (e1 : -2147483648 ≤ e) (e2 : e < 2147483648) (r1 : -2147483648 ≤ r) (r2 : r < 2147483648) (q : ¬ ((0 ≤ e ∧ e < M 6) ∧ (0 ≤ r ∧ r ≤ 3))) : DL_clearProgram T (iI e) (iI r) = some (iI (-903), T) := by
  obtain ⟨V, c, L, h⟩ := h
  obtain ⟨S, hG, hL⟩ := id h
  exact EW_t (n := 1) (F_clearProgram hG hL (by omega) (by omega) (by omega) (by omega)) (by rw [if_neg q]) eg1.1
theorem E_begin (h : S0 T M) {s : Int} (hs : 0 ≤ s) (hs' : s < 2147483648) (h3 : M 3 = 0) : ∃ T', DL_begin T (iI s) = some (iI (brZ (updI M 11 s) 0 7), T') ∧ SU T' (brZ (updI M 11 s) 0) M := by
  obtain ⟨V, c, L, h⟩ := h
  obtain ⟨S, hG, hL⟩ := id h
  exact EW_w h (F_begin hG hL (by omega) (by omega)) (by rw [if_pos hs, if_pos h3])
theorem E_begin_a (h : S0 T M) {s : Int} (s1 : -2147483648 ≤ s) (s2 : s < 0) : DL_begin T (iI s) = some (iI (-901), T) := by
  obtain ⟨V, c, L, h⟩ := h
  obtain ⟨S, hG, hL⟩ := id h
  exact EW_t (n := 2) (F_begin hG hL (by omega) (by omega)) (by rw [if_neg (by omega)]) eg1.2.2.2.2.2.2.2.1
theorem E_begin_s (h : S0 T M) {s : Int} (hs : 0 ≤ s) (hs' : s < 2147483648) (h3 : M 3 ≠ 0) : DL_begin T (iI s) = some (iI (-902), T) := by
  obtain ⟨V, c, L, h⟩ := h
  obtain ⟨S, hG, hL⟩ := id h
  exact EW_t (n := 3) (F_begin hG hL (by omega) (by omega)) (by rw [if_pos hs, if_neg h3]) eg1.2.2.2.2.2.2.2.2.1
theorem E_play (h : S0 T M) {s : Int} (hs : 0 ≤ s ∧ s ≤ 20) (h3 : M 3 = 1) (h8 : M 8 < M 7) : ∃ T', DL_play T (iI s) = some (iI (M (462 + M 8)), T') ∧ SU T' (updI (updI M (474 + M (462 + M 8)) s) 8 (M 8 + 1)) M := by
  obtain ⟨V, c, L, h⟩ := h
  obtain ⟨S, hG, hL⟩ := id h
  exact EW_w h (F_play hG hL (by omega) (by omega)) (by rw [if_pos hs, if_pos h3, if_neg (by omega)])
theorem E_play_a (h : S0 T M) {s : Int} (s1 : -2147483648 ≤ s) (s2 : s < 2147483648) (q : ¬ (0 ≤ s ∧ s ≤ 20)) : DL_play T (iI s) = some (iI (-901), T) := by
  obtain ⟨V, c, L, h⟩ := h
  obtain ⟨S, hG, hL⟩ := id h
  exact EW_t (n := 2) (F_play hG hL (by omega) (by omega)) (by rw [if_neg q]) eg1.2.2.2.2.2.2.2.1
theorem E_play_s (h : S0 T M) {s : Int} (hs : 0 ≤ s ∧ s ≤ 20) (h3 : M 3 ≠ 1) : DL_play T (iI s) = some (iI (-902), T) := by
  obtain ⟨V, c, L, h⟩ := h
  obtain ⟨S, hG, hL⟩ := id h
  exact EW_t (n := 3) (F_play hG hL (by omega) (by omega)) (by rw [if_pos hs, if_neg h3]) eg1.2.2.2.2.2.2.2.2.1
theorem E_mark (h : S0 T M) {j e v : Int} (hj : 0 ≤ j ∧ j < M 0) (he : 0 ≤ e ∧ e < M 6) (hv : 0 ≤ v ∧ v ≤ (if M 3 = 2 then 10 else 100)) (hm : mayMarkZ M j e = true) : ∃ T', DL_mark T (iI j) (iI e) (iI v) = some (iI (countingZ (updI M (opZ M + (12 * j + e)) v) (opZ M) e), T') ∧ SU T' (updI M (opZ M + (12 * j + e)) v) M := by
  have hT := h.mk.1.2.1
  obtain ⟨t0, t1, t2, t3, t4, t6, t7, t8⟩ := hT
  obtain ⟨V, c, L, h⟩ := h
  obtain ⟨S, hG, hL⟩ := id h
  have hv2 : v ≤ 100 := by have := hv.2; split at this <;> omega
  exact EW_w h (F_mark hG hL (by omega) (by omega) (by omega) (by omega) (by omega) (by omega)) (by rw [if_pos ⟨hj, he⟩, if_pos hv, if_pos hm])
theorem E_mark_i (h : S0 T M) {j e v : Int} (j1 : -2147483648 ≤ j) (j2 : j < 2147483648) (e1 : -2147483648 ≤ e) (e2 : e < 2147483648) (v1 : -2147483648 ≤ v) (v2 : v < 2147483648) (q : ¬ ((0 ≤ j ∧ j < M 0) ∧ (0 ≤ e ∧ e < M 6))) : DL_mark T (iI j) (iI e) (iI v) = some (iI (-903), T) := by
  obtain ⟨V, c, L, h⟩ := h
  obtain ⟨S, hG, hL⟩ := id h
  exact EW_t (n := 1) (F_mark hG hL (by omega) (by omega) (by omega) (by omega) (by omega) (by omega)) (by rw [if_neg q]) eg1.2.2.2.2.1
theorem E_mark_s (h : S0 T M) {j e v : Int} (hj : 0 ≤ j ∧ j < M 0) (he : 0 ≤ e ∧ e < M 6) (hv : 0 ≤ v ∧ v ≤ (if M 3 = 2 then 10 else 100)) (hm : ¬ mayMarkZ M j e = true) : DL_mark T (iI j) (iI e) (iI v) = some (iI (-902), T) := by
  have hT := h.mk.1.2.1
  obtain ⟨t0, t1, t2, t3, t4, t6, t7, t8⟩ := hT
  obtain ⟨V, c, L, h⟩ := h
  obtain ⟨S, hG, hL⟩ := id h
  have hv2 : v ≤ 100 := by have := hv.2; split at this <;> omega
  exact EW_t (n := 3) (F_mark hG hL (by omega) (by omega) (by omega) (by omega) (by omega) (by omega)) (by rw [if_pos ⟨hj, he⟩, if_pos hv, if_neg hm]) eg1.2.2.2.2.2.2.1
theorem E_abstain (h : S0 T M) {j e : Int} (hj : 0 ≤ j ∧ j < M 0) (he : 0 ≤ e ∧ e < M 6) (hm : mayMarkZ M j e = true) : ∃ T', DL_abstain T (iI j) (iI e) = some (iI (countingZ (updI M (opZ M + (12 * j + e)) (-2)) (opZ M) e), T') ∧ SU T' (updI M (opZ M + (12 * j + e)) (-2)) M := by
  have hT := h.mk.1.2.1
  obtain ⟨t0, t1, t2, t3, t4, t6, t7, t8⟩ := hT
  obtain ⟨V, c, L, h⟩ := h
  obtain ⟨S, hG, hL⟩ := id h
  exact EW_w h (F_abstain hG hL (by omega) (by omega) (by omega) (by omega)) (by rw [if_pos ⟨hj, he⟩, if_pos hm])
theorem E_abstain_i (h : S0 T M) {j e : Int} (j1 : -2147483648 ≤ j) (j2 : j < 2147483648) (e1 : -2147483648 ≤ e) (e2 : e < 2147483648) (q : ¬ ((0 ≤ j ∧ j < M 0) ∧ (0 ≤ e ∧ e < M 6))) : DL_abstain T (iI j) (iI e) = some (iI (-903), T) := by
  obtain ⟨V, c, L, h⟩ := h
  obtain ⟨S, hG, hL⟩ := id h
  exact EW_t (n := 1) (F_abstain hG hL (by omega) (by omega) (by omega) (by omega)) (by rw [if_neg q]) eg1.2.2.2.2.2.2.2.2.2.2.1
theorem E_abstain_s (h : S0 T M) {j e : Int} (hj : 0 ≤ j ∧ j < M 0) (he : 0 ≤ e ∧ e < M 6) (hm : ¬ mayMarkZ M j e = true) : DL_abstain T (iI j) (iI e) = some (iI (-902), T) := by
  have hT := h.mk.1.2.1
  obtain ⟨t0, t1, t2, t3, t4, t6, t7, t8⟩ := hT
  obtain ⟨V, c, L, h⟩ := h
  obtain ⟨S, hG, hL⟩ := id h
  exact EW_t (n := 3) (F_abstain hG hL (by omega) (by omega) (by omega) (by omega)) (by rw [if_pos ⟨hj, he⟩, if_neg hm]) eg1.2.2.2.2.2.2.2.2.2.2.2
theorem E_close (h : S0 T M) (hc : isClosableZ M = true) : ∃ T', DL_close T = some (iI (clN M 3), T') ∧ SU T' (clN M) M := by
  obtain ⟨V, c, L, h⟩ := h
  obtain ⟨S, hG, hL⟩ := id h
  exact EW_w h (F_close hG hL (o := Sum.inr (iI (clN M 3), clN M)) ⟨fun _ => rfl, fun h9 => by rw [hc] at h9; cases h9⟩) rfl
theorem E_close_s (h : S0 T M) (hc : isClosableZ M = false) : DL_close T = some (iI (-902), T) := by
  obtain ⟨V, c, L, h⟩ := h
  obtain ⟨S, hG, hL⟩ := id h
  exact EW_t (n := 3) (F_close hG hL (o := Sum.inl 3) ⟨fun h9 => (by rw [hc] at h9; cases h9), fun _ => rfl⟩) rfl eg1.2.2.2.2.2.2.2.2.2.1
theorem E_withdraw (h : S0 T M) {e : Int} (he : 0 ≤ e ∧ e < M 6) (hw : mwZ M e) : ∃ T', DL_withdraw T (iI e) = some (iI (countInZ (wdZ M e)), T') ∧ SU T' (wdZ M e) M := by
  have hT := h.mk.1.2.1
  obtain ⟨t0, t1, t2, t3, t4, t6, t7, t8⟩ := hT
  obtain ⟨V, c, L, h⟩ := h
  obtain ⟨S, hG, hL⟩ := id h
  exact EW_w h (F_withdraw hG hL (by omega) (by omega) (o := Sum.inr (iI (countInZ (wdZ M e)), wdZ M e)) ⟨fun _ _ => rfl, fun _ h9 => absurd hw h9, fun h9 => absurd he h9⟩) rfl
theorem E_withdraw_i (h : S0 T M) {e : Int} (e1 : -2147483648 ≤ e) (e2 : e < 2147483648) (q : ¬ (0 ≤ e ∧ e < M 6)) : DL_withdraw T (iI e) = some (iI (-903), T) := by
  obtain ⟨V, c, L, h⟩ := h
  obtain ⟨S, hG, hL⟩ := id h
  exact EW_t (n := 1) (F_withdraw hG hL (by omega) (by omega) (o := Sum.inl 1) ⟨fun h9 => absurd h9 q, fun h9 => absurd h9 q, fun _ => rfl⟩) rfl eg1.2.2.2.2.2.2.2.2.2.2.1
theorem E_withdraw_s (h : S0 T M) {e : Int} (he : 0 ≤ e ∧ e < M 6) (hw : ¬ mwZ M e) : DL_withdraw T (iI e) = some (iI (-902), T) := by
  have hT := h.mk.1.2.1
  obtain ⟨t0, t1, t2, t3, t4, t6, t7, t8⟩ := hT
  obtain ⟨V, c, L, h⟩ := h
  obtain ⟨S, hG, hL⟩ := id h
  exact EW_t (n := 3) (F_withdraw hG hL (by omega) (by omega) (o := Sum.inl 3) ⟨fun _ h9 => absurd h9 hw, fun _ _ => rfl, fun h9 => absurd he h9⟩) rfl eg1.2.2.2.2.2.2.2.2.2.2.2
theorem E_undo (h : SU T N M) : ∃ (v : Int) (T' : SX11), DL_undo T = some (iI v, T') ∧ 0 ≤ v ∧ v ≤ 3 ∧ S0 T' M := by
  obtain ⟨V, c, L, h, h1, h2⟩ := h
  obtain ⟨T', e1, e2⟩ := F_undo h h1
  rw [h2] at e2
  have hc := h.cb
  refine ⟨c - 1, T', ?_, by omega, by omega, V, c - 1, L, e2⟩
  unfold DL_undo
  rw [e1, wW_v]
theorem E_undo_x (h : AS T M V 0 L) : DL_undo T = some (iI (-902), T) := by
  unfold DL_undo
  rw [F_undo_x h]
  exact wW_x eg1.2.2.2.2.2.2.2.2.2.1
theorem E_wouldBe (h : S0 T M) {w : Int} (hw : 0 ≤ w) (hw' : w ≤ 2) : ∃ T', DL_wouldBe T (iI w) = some (iI (if M 3 = 1 ∧ isClosableZ M = true then cn (fun e => decide (ftZ (sR M) (M (ruleZ (M 4) 5)) e = w)) 12 else -1), T') ∧ S0 T' M := by
  obtain ⟨V, c, L, h⟩ := h
  obtain ⟨C', h1, h2⟩ := F_wouldBe h hw hw'
  refine ⟨_, ?_, V, c, L, h2⟩
  unfold DL_wouldBe
  rw [h1]
  rfl
theorem E_wouldBe_x (h : S0 T M) {w : Int} (w1 : -2147483648 ≤ w) (w2 : w < 2147483648) (q : ¬ (0 ≤ w ∧ w ≤ 2)) : DL_wouldBe T (iI w) = some (iI (-901), T) := by
  unfold DL_wouldBe
  rw [F_wouldBe_x h.rr w1 w2 q]
  rfl
theorem E_type_x (h : S0 T M) {a : Int} (a1 : -2147483648 ≤ a) (a2 : a < 2147483648) (q : ¬ (32 ≤ a ∧ a ≤ 126)) : DL_type T (iI a) = some (iI (-901), T) := by
  obtain ⟨V, c, L, h⟩ := h
  unfold DL_type
  rw [F_type_x h a1 a2 q]
  exact wW_x eg1.2.2.2.2.2.2.2.1
theorem E_sum (h : S0 T M) : ∃ v, DX11_checksum T = some v := by
  obtain ⟨V, c, L, h⟩ := h
  exact ⟨_, F_sum h⟩
end WS
