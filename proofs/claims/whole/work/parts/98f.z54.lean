section IN
variable {M N V X : Int → Int} {S : SX12}
/-- the rules at first -/
def ruF (i : Int) : Int := if i = 0 then 1 else if i = 1 then 180 else if i = 3 then 4 else if i = 5 then 12 else 0
def rfZ (M : Int → Int) (n : Int) : Int → Int := fun k => if 102 ≤ k ∧ k < 102 + 6 * n then ruF ((k - 102) % 6) else M k
theorem rf_0 : rfZ M 0 = M := funext fun k => if_neg (by omega)
theorem rf_s {n : Int} (hn : 0 ≤ n) (h : ∀ k : Int, 102 ≤ k → k < 126 → M k = 0) (hn' : n < 4) : updI (updI (updI (updI (rfZ M n) (102 + 6 * n + 0) 1) (102 + 6 * n + 1) 180) (102 + 6 * n + 3) 4) (102 + 6 * n + 5) 12 = rfZ M (n + 1) := by
  funext k
  by_cases q : 102 + 6 * n ≤ k ∧ k < 102 + 6 * n + 6
  · have e : rfZ M (n + 1) k = ruF (k - (102 + 6 * n)) := by
      unfold rfZ
      rw [if_pos (by omega), show (k - 102) % 6 = k - (102 + 6 * n) by omega]
    have e2 : rfZ M n k = 0 := by
      unfold rfZ
      rw [if_neg (by omega)]
      exact h k (by omega) (by omega)
    rw [e]
    unfold updI ruF
    rw [e2]
    repeat' split
    all_goals omega
  · unfold updI rfZ
    rw [if_neg (by omega), if_neg (by omega), if_neg (by omega), if_neg (by omega)]
    by_cases q1 : 102 ≤ k ∧ k < 102 + 6 * n
    · rw [if_pos q1, if_pos (by omega)]
    · rw [if_neg q1, if_neg (by omega)]
theorem R_in76 (hm : gX12_m S = mI M) (h : ∀ k : Int, 102 ≤ k → k < 126 → M k = 0) (k8 : SX12 → Option SX12) : DX12_init_L76 k8 fu (iI 0) S = k8 (uX12_m S (mI (rfZ M 4))) := by
  have base : S = uX12_m S (mI (rfZ M ((0 : Nat) : Int))) := by rw [show ((0 : Nat) : Int) = 0 from rfl, rf_0, um_self hm]
  have := upL (fun f j => DX12_init_L76 k8 f (iI j) (uX12_m S (mI (rfZ M (j : Int))))) (k8 (uX12_m S (mI (rfZ M 4)))) 4 ?_ ?_ fu (by unfold fu; omega)
  · rw [← base] at this
    exact this
  · intro f j hj
    show DX12_init_L76 _ _ _ _ = _
    rw [DX12_init_L76]
    simp only [lt_eq, iI_lit, um_m, um_um, iI_mul, iI_add]
    rw [if_le (by omega) (by omega) (by omega) (by omega), if_neg (by omega)]
    simp (disch := omega) only [gd_iI, mI_upd]
    rw [show ((j + 1 : Nat) : Int) = (j : Int) + 1 by omega, ← rf_s (M := M) (show 0 ≤ (j : Int) by omega) h (by omega)]
  · intro f
    show DX12_init_L76 _ _ _ _ = _
    rw [DX12_init_L76]
    simp only [iI_lit]
    rw [if_le (by omega) (by omega) (by omega) (by omega), if_pos (by omega)]
    rfl
theorem R_in156 (hm : gX12_m S = mI M) (k8 : SX12 → Option SX12) : DX12_init_L156 k8 fu (iI 0) S = k8 (uX12_m S (mI (fillZ M 666 48 (-1)))) := by
  have base : S = uX12_m S (mI (fillZ M 666 ((0 : Nat) : Int) (-1))) := by rw [show ((0 : Nat) : Int) = 0 from rfl, fill_0, um_self hm]
  have := upL (fun f j => DX12_init_L156 k8 f (iI j) (uX12_m S (mI (fillZ M 666 (j : Int) (-1))))) (k8 (uX12_m S (mI (fillZ M 666 48 (-1))))) 48 ?_ ?_ fu (by unfold fu; omega)
  · rw [← base] at this
    exact this
  · intro f j hj
    show DX12_init_L156 _ _ _ _ = _
    rw [DX12_init_L156]
    simp only [lt_eq, iI_lit, iI_neg, um_m, um_um, iI_add]
    rw [if_le (by omega) (by omega) (by omega) (by omega), if_neg (by omega)]
    simp (disch := omega) only [gd_iI, mI_upd]
    rw [show ((j + 1 : Nat) : Int) = (j : Int) + 1 by omega, ← fill_s (M := M) 666 (j : Int) (-1) (by omega)]
  · intro f
    show DX12_init_L156 _ _ _ _ = _
    rw [DX12_init_L156]
    simp only [iI_lit]
    rw [if_le (by omega) (by omega) (by omega) (by omega), if_pos (by omega)]
    rfl
/-- the cells at first -/
def inZ : Int → Int := fun k => if k = 0 then 5 else if k = 1 then 1 else if k = 2 then 50 else if 102 ≤ k ∧ k < 126 then ruF ((k - 102) % 6) else if 486 ≤ k ∧ k < 654 then -1 else if 666 ≤ k ∧ k < 714 then -1 else 0
def zr0 : Int → Int := updI (updI (updI (fun _ => 0) 0 5) 1 1) 2 50
theorem in_eq : fillZ (ctZ (fillZ (rfZ zr0 4) 486 84 (-1))) 666 48 (-1) = inZ := by
  funext k
  show (if 666 ≤ k ∧ k < 666 + 48 then -1 else if k = 9 ∨ k = 10 then 0 else if 570 ≤ k ∧ k < 654 then -1 else if 654 ≤ k ∧ k < 666 then 0 else if 486 ≤ k ∧ k < 486 + 84 then -1 else if 102 ≤ k ∧ k < 102 + 6 * 4 then ruF ((k - 102) % 6) else if k = 2 then 50 else if k = 1 then 1 else if k = 0 then 5 else 0) = inZ k
  unfold inZ
  by_cases q1 : 102 ≤ k ∧ k < 126
  · rw [if_neg (show ¬ (666 ≤ k ∧ k < 666 + 48) by omega), if_neg (show ¬ (k = 9 ∨ k = 10) by omega), if_neg (show ¬ (570 ≤ k ∧ k < 654) by omega), if_neg (show ¬ (654 ≤ k ∧ k < 666) by omega), if_neg (show ¬ (486 ≤ k ∧ k < 486 + 84) by omega), if_pos (show 102 ≤ k ∧ k < 102 + 6 * 4 by omega), if_neg (show ¬ k = 0 by omega), if_neg (show ¬ k = 1 by omega), if_neg (show ¬ k = 2 by omega), if_pos q1]
  · rw [if_neg (show ¬ (102 ≤ k ∧ k < 102 + 6 * 4) by omega), if_neg q1]
    repeat' split
    all_goals omega
theorem l50 : (50 : Int32) = iI 50 := id rfl
theorem zr_e : updI (updI (updI (fun _ => 0) 0 5) 1 1) 2 50 = zr0 := id rfl
theorem R_initA (k : SX12 → Option SX12) (hm : gX12_m S = mI zr0) : DX12_init_L76 (fun (S10 : SX12) => (DX12_clearMarks S10).bind fun x11 => (DX12_init_L156 k fu (iI 0) x11)) fu (iI 0) S = k (uX12_m S (mI inZ)) := by
  rw [R_in76 hm (fun k a b => by unfold zr0; rw [u_ne (by omega), u_ne (by omega), u_ne (by omega)])]
  generalize hX : uX12_m S (mI (rfZ zr0 4)) = X
  have hXm : gX12_m X = mI (rfZ zr0 4) := by rw [← hX]; exact um_m
  show (DX12_clearMarks X).bind _ = _
  rw [R_clearMarks hXm, Option.bind_some]
  generalize hY : uX12_m X (mI (ctZ (fillZ (rfZ zr0 4) 486 84 (-1)))) = Y
  have hYm : gX12_m Y = mI (ctZ (fillZ (rfZ zr0 4) 486 84 (-1))) := by rw [← hY]; exact um_m
  rw [R_in156 hYm, in_eq, ← hY, ← hX, um_um, um_um]
theorem R_initB (m0 : gX12_m S = mI (fun _ => 0)) : uX12_m (uX12_m (uX12_m S (upd (gX12_m S) 0 (5 : Int32))) (upd (gX12_m (uX12_m S (upd (gX12_m S) 0 (5 : Int32)))) 1 (1 : Int32))) (upd (gX12_m (uX12_m (uX12_m S (upd (gX12_m S) 0 (5 : Int32))) (upd (gX12_m (uX12_m S (upd (gX12_m S) 0 (5 : Int32)))) 1 (1 : Int32)))) 2 (50 : Int32)) = uX12_m S (mI zr0) := by
  rw [um_m, um_m, um_um, um_um, m0, l50, show (5 : Int32) = iI 5 from id rfl, show (1 : Int32) = iI 1 from id rfl, mI_updN 0 _ rfl, mI_updN 1 _ rfl, mI_updN 2 _ rfl, zr_e]
theorem R_initS (m0 : gX12_m S = mI (fun _ => 0)) : DX12_init S = some (uX12_m S (mI inZ)) := by
  have h := R_initA (S := uX12_m S (mI zr0)) (fun S16 => some S16) um_m
  rw [um_um] at h
  unfold DX12_init
  rw [lt_eq, lt_eq, lt_eq, R_initB m0]
  exact h
theorem R_init : ∃ rs, DX12_init (((fun _ => 0), (fun _ => 0), 0, (fun _ => 0), 0, 0, (fun _ => 0), (fun _ => 0), (fun _ => 0), 0, 0, 0) : SX12) = some rs ∧ gX12_m rs = mI inZ ∧ gX12_saved rs = mI (fun _ => 0) ∧ gX12_savedCount rs = iI 0 ∧ gX12_textLength rs = iI 0 := by
  obtain ⟨S, hS⟩ : ∃ S : SX12, S = (((fun _ => 0), (fun _ => 0), 0, (fun _ => 0), 0, 0, (fun _ => 0), (fun _ => 0), (fun _ => 0), 0, 0, 0) : SX12) := ⟨_, rfl⟩
  rw [← hS]
  have m0 : gX12_m S = mI (fun _ => 0) := by rw [hS]; rfl
  have s0 : gX12_saved S = mI (fun _ => 0) := by rw [hS]; rfl
  have c0 : gX12_savedCount S = iI 0 := by rw [hS]; rfl
  have t0 : gX12_textLength S = iI 0 := by rw [hS]; rfl
  refine ⟨_, R_initS m0, um_m, ?_, ?_, ?_⟩
  · rw [show ∀ x, gX12_saved (uX12_m S x) = gX12_saved S from fun _ => rfl]
    exact s0
  · rw [show ∀ x, gX12_savedCount (uX12_m S x) = gX12_savedCount S from fun _ => rfl]
    exact c0
  · rw [show ∀ x, gX12_textLength (uX12_m S x) = gX12_textLength S from fun _ => rfl]
    exact t0
end IN
