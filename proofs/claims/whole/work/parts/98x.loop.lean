theorem nI_iI {n : Nat} (h : n < 2 ^ 31) : nI n = iI (n : Int) := Int32.toInt_inj.mp ((nI_toInt h).trans (iI_toInt (by omega) (by omega)).symm)
section LL
variable {p : Program} {l : Launch} {e : Env} {s : State} {m : MethodId} {below : List Frame} {meth : Method} {c : Code}
variable {D : va_G} {cy : Nat → ClassId} {tt : Nat → Nat} {b L : Nat} {xs : Nat → Int32} {a a' : Nat → Nat} {o o' bo : Nat}
set_option maxHeartbeats 4000000 in
set_option maxRecDepth 100000 in
/-- THE LAW'S LOOP: at its head, with k calls done, the class's state and the reference's are coupled -/
theorem law_loop (C : lX p l s m c b L xs D cy tt) (hL : L ≤ 2048) (hr : meth.sig.returnType = ret) (hlocks : meth.locks = false) :
    ∀ (n k : Nat), 4 * k ≤ L → L < 4 * (k + n) → ∀ (S : SX11) (T : SX12) (f : Nat → Int64) (H : Heap) (locs : List Loc) (ls : Array Slot), GG S T → va_P D vwCl (oC cy bo f :: (wX11 cy a o S ++ wX12 cy a' o' T)) H → va_D (fun q => s.heap.size ≤ q) (oC cy bo f :: (wX11 cy a o S ++ wX12 cy a' o' T)) → va_S (fun q => s.heap.size ≤ q) s.heap H locs → lv_has ls 7 [(4, .int (nI (4 * k))), (0, .ref b), (1, .ref (a o)), (2, .ref (a' o')), (3, .ref bo)] → W p l e room_1 s m #[Value.ref b] below meth c H locs (400 + 5 * k) (8000 + 30 * k) (lw_Z below #[Value.ref b] s) (F0 m 23 ls []) := by
  have C0 := C
  obtain ⟨hx, hb, hml, hown, hts, hX, hbl, hl9, hG, hGX, hN⟩ := C0
  have hbA : ¬ (fun q : Nat => s.heap.size ≤ q) b := Nat.not_le.mpr hbl
  intro n
  induction n with
  | zero =>
    intro k h1 h2
    exact absurd h2 (by omega)
  | succ n ih =>
    intro k hk1 hk2 S T f H locs ls hGG hP hD hS hl
    have e4 : nI L - 4 = iI ((L : Int) - 4) := by rw [nI_iI (by omega), show (4 : Int32) = iI 4 from iI_lit.2.2.2.2.1, iI_sub]
    have ek : nI (4 * k) = iI ((4 * k : Nat) : Int) := nI_iI (by omega)
    refine lv_iload hx hb dL_law_23 (lv_at hl 0 rfl) ?_
    refine lv_aload_n hx hb dL_law_25 rfl (lv_at hl 1 rfl) ?_
    refine va_slen hx hb hX hbl hbA hS dL_law_26 ?_
    refine lv_iconst (v := (4 : Int32)) hx hb dL_law_27 (by decide) ?_
    refine lv_isub hx hb dL_law_28 ?_
    refine lv_icmp_gt (tgt := 1935) hx hb dL_law_29 (by decide) (fun cc => ?_) (fun cc => ?_)
    · refine lv_iconst (v := 1) hx hb dL_law_1935 (by decide) ?_
      refine va_forget (fun q hq => hS.2.2 q hq) ?_
      refine W.widen (k := 601024) (n := 7293034) (by omega) (by omega) ?_
      exact lw_ret hx hb hr hlocks dL_law_1936
    have hlt : 4 * k + 4 ≤ L := by
      have h9 : ¬ iI ((L : Int) - 4) < iI ((4 * k : Nat) : Int) := by rw [← e4, ← ek]; exact cc
      rw [iI_lt (by omega) (by omega) (by omega) (by omega)] at h9
      omega
    have g0 : vp_in (nI (4 * k)) L := vp_in_nI (by omega) (by omega)
    have g1 : vp_in (nI (4 * k) + 1) L := by
      show vp_in (nI (4 * k) + nI 1) L
      rw [nI_add]
      exact vp_in_nI (by omega) (by omega)
    have g2 : vp_in (nI (4 * k) + 2) L := by
      show vp_in (nI (4 * k) + nI 2) L
      rw [nI_add]
      exact vp_in_nI (by omega) (by omega)
    have g3 : vp_in (nI (4 * k) + 3) L := by
      show vp_in (nI (4 * k) + nI 3) L
      rw [nI_add]
      exact vp_in_nI (by omega) (by omega)
    have hc : lC (400 + 5 * k) (8000 + 30 * k) := ⟨by omega, by omega⟩
    have kk : lK p l e s m below meth c D cy b a o a' o' bo (nI (4 * k)) (400 + 5 * k) (8000 + 30 * k) (lw_Z below #[Value.ref b] s) := by
      intro S T f H locs ls hGG hP hD hS hl
      refine lv_iinc (v := nI (4 * (k + 1))) (lv' := [(4, .int (nI (4 * (k + 1)))), (0, .ref b), (1, .ref (a o)), (2, .ref (a' o')), (3, .ref bo)]) hx hb dL_law_1929 hl (k := 0) rfl (nI_add (4 * k) 4) (by decide) rfl (fun ls hl => ?_)
      refine lv_goto (tgt := 23) hx hb dL_law_1932 (by decide) ?_
      exact ih (k + 1) (by omega) (by omega) S T f H locs ls hGG hP hD hS hl
    refine lv_aload_n hx hb dL_law_32 rfl (lv_at hl 1 rfl) ?_
    refine lv_iload hx hb dL_law_33 (lv_at hl 0 rfl) ?_
    refine va_sld hx hb hX hbl hbA hS g0 dL_law_35 ?_
    refine lv_bipush (v := (31 : Int32)) hx hb dL_law_36 (by decide) ?_
    refine lv_iand hx hb dL_law_38 ?_
    obtain ⟨j, hj, ej⟩ := pk_andE (xs (nI (4 * k)).toNatClampNeg) (m := 31) 5 (by decide)
    rw [ej]
    clear ej
    match j, hj with
    | 0, _ => exact lv_tableIn (off := 133) (tgt := 172) hx hb dL_law_39 (by decide) (by decide) (by decide +kernel) (by decide) (lawC_addWork C hc hGG g1 g2 g3 hP hD hS hl kk)
    | 1, _ => exact lv_tableIn (off := 213) (tgt := 252) hx hb dL_law_39 (by decide) (by decide) (by decide +kernel) (by decide) (lawC_work C hc hGG g1 g2 g3 hP hD hS hl kk)
    | 2, _ => exact lv_tableIn (off := 281) (tgt := 320) hx hb dL_law_39 (by decide) (by decide) (by decide +kernel) (by decide) (lawC_addEntrant C hc hGG g1 g2 g3 hP hD hS hl kk)
    | 3, _ => exact lv_tableIn (off := 325) (tgt := 364) hx hb dL_law_39 (by decide) (by decide) (by decide +kernel) (by decide) (lawC_bar C hc hGG g1 g2 g3 hP hD hS hl kk)
    | 4, _ => exact lv_tableIn (off := 428) (tgt := 467) hx hb dL_law_39 (by decide) (by decide) (by decide +kernel) (by decide) (lawC_set C hc hGG g1 g2 g3 hP hD hS hl kk)
    | 5, _ => exact lv_tableIn (off := 496) (tgt := 535) hx hb dL_law_39 (by decide) (by decide) (by decide +kernel) (by decide) (lawC_setRule C hc hGG g1 g2 g3 hP hD hS hl kk)
    | 6, _ => exact lv_tableIn (off := 576) (tgt := 615) hx hb dL_law_39 (by decide) (by decide) (by decide +kernel) (by decide) (lawC_rule C hc hGG g1 g2 g3 hP hD hS hl kk)
    | 7, _ => exact lv_tableIn (off := 644) (tgt := 683) hx hb dL_law_39 (by decide) (by decide) (by decide +kernel) (by decide) (lawC_setProgram C hc hGG g1 g2 g3 hP hD hS hl kk)
    | 8, _ => exact lv_tableIn (off := 712) (tgt := 751) hx hb dL_law_39 (by decide) (by decide) (by decide +kernel) (by decide) (lawC_clearProgram C hc hGG g1 g2 g3 hP hD hS hl kk)
    | 9, _ => exact lv_tableIn (off := 780) (tgt := 819) hx hb dL_law_39 (by decide) (by decide) (by decide +kernel) (by decide) (lawC_program C hc hGG g1 g2 g3 hP hD hS hl kk)
    | 10, _ => exact lv_tableIn (off := 860) (tgt := 899) hx hb dL_law_39 (by decide) (by decide) (by decide +kernel) (by decide) (lawC_flaw C hc hGG g1 g2 g3 hP hD hS hl kk)
    | 11, _ => exact lv_tableIn (off := 928) (tgt := 967) hx hb dL_law_39 (by decide) (by decide) (by decide +kernel) (by decide) (lawC_begin C hc hGG g1 g2 g3 hP hD hS hl kk)
    | 12, _ => exact lv_tableIn (off := 984) (tgt := 1023) hx hb dL_law_39 (by decide) (by decide) (by decide +kernel) (by decide) (lawC_play C hc hGG g1 g2 g3 hP hD hS hl kk)
    | 13, _ => exact lv_tableIn (off := 1040) (tgt := 1079) hx hb dL_law_39 (by decide) (by decide) (by decide +kernel) (by decide) (lawC_mark C hc hGG g1 g2 g3 hP hD hS hl kk)
    | 14, _ => exact lv_tableIn (off := 1120) (tgt := 1159) hx hb dL_law_39 (by decide) (by decide) (by decide +kernel) (by decide) (lawC_abstain C hc hGG g1 g2 g3 hP hD hS hl kk)
    | 15, _ => exact lv_tableIn (off := 1188) (tgt := 1227) hx hb dL_law_39 (by decide) (by decide) (by decide +kernel) (by decide) (lawC_close C hc hGG g1 g2 g3 hP hD hS hl kk)
    | 16, _ => exact lv_tableIn (off := 1232) (tgt := 1271) hx hb dL_law_39 (by decide) (by decide) (by decide +kernel) (by decide) (lawC_withdraw C hc hGG g1 g2 g3 hP hD hS hl kk)
    | 17, _ => exact lv_tableIn (off := 1288) (tgt := 1327) hx hb dL_law_39 (by decide) (by decide) (by decide +kernel) (by decide) (lawC_info C hc hGG g1 g2 g3 hP hD hS hl kk)
    | 18, _ => exact lv_tableIn (off := 1344) (tgt := 1383) hx hb dL_law_39 (by decide) (by decide) (by decide +kernel) (by decide) (lawC_entrant C hc hGG g1 g2 g3 hP hD hS hl kk)
    | 19, _ => exact lv_tableIn (off := 1412) (tgt := 1451) hx hb dL_law_39 (by decide) (by decide) (by decide +kernel) (by decide) (lawC_marked C hc hGG g1 g2 g3 hP hD hS hl kk)
    | 20, _ => exact lv_tableIn (off := 1508) (tgt := 1547) hx hb dL_law_39 (by decide) (by decide) (by decide +kernel) (by decide) (lawC_history C hc hGG g1 g2 g3 hP hD hS hl kk)
    | 21, _ => exact lv_tableIn (off := 1576) (tgt := 1615) hx hb dL_law_39 (by decide) (by decide) (by decide +kernel) (by decide) (lawC_stage C hc hGG g1 g2 g3 hP hD hS hl kk)
    | 22, _ => exact lv_tableIn (off := 1601) (tgt := 1640) hx hb dL_law_39 (by decide) (by decide) (by decide +kernel) (by decide) (lawC_wouldBe C hc hGG g1 g2 g3 hP hD hS hl kk)
    | 23, _ => exact lv_tableIn (off := 1657) (tgt := 1696) hx hb dL_law_39 (by decide) (by decide) (by decide +kernel) (by decide) (lawC_neededMark C hc hGG g1 g2 g3 hP hD hS hl kk)
    | 24, _ => exact lv_tableIn (off := 1737) (tgt := 1776) hx hb dL_law_39 (by decide) (by decide) (by decide +kernel) (by decide) (lawC_strangestJuror C hc hGG g1 g2 g3 hP hD hS hl kk)
    | 25, _ => exact lv_tableIn (off := 1750) (tgt := 1789) hx hb dL_law_39 (by decide) (by decide) (by decide +kernel) (by decide) (lawC_type C hc hGG g1 g2 g3 hP hD hS hl kk)
    | 26, _ => exact lv_tableIn (off := 1806) (tgt := 1845) hx hb dL_law_39 (by decide) (by decide) (by decide +kernel) (by decide) (lawC_clearText C hc hGG g1 g2 g3 hP hD hS hl kk)
    | 27, _ => exact lv_tableIn (off := 1819) (tgt := 1858) hx hb dL_law_39 (by decide) (by decide) (by decide +kernel) (by decide) (lawC_fault C hc hGG g1 g2 g3 hP hD hS hl kk)
    | 28, _ => exact lv_tableIn (off := 1832) (tgt := 1871) hx hb dL_law_39 (by decide) (by decide) (by decide +kernel) (by decide) (lawC_undo C hc hGG g1 g2 g3 hP hD hS hl kk)
    | 29, _ => exact lv_tableIn (off := 1876) (tgt := 1915) hx hb dL_law_39 (by decide) (by decide) (by decide +kernel) (by decide) (lawC_checksum C hc hGG g1 g2 g3 hP hD hS hl kk)
    | 30, _ => exact lv_tableOut (tgt := 1929) hx hb dL_law_39 (Or.inr (by decide)) (by decide) (W.widen (Nat.le_add_right _ _) (Nat.le_add_right _ _) (kk S T f H locs ls hGG hP hD hS hl))
    | 31, _ => exact lv_tableOut (tgt := 1929) hx hb dL_law_39 (Or.inr (by decide)) (by decide) (W.widen (Nat.le_add_right _ _) (Nat.le_add_right _ _) (kk S T f H locs ls hGG hP hD hS hl))
    | j + 32, h => exact absurd h (by omega)
end LL
