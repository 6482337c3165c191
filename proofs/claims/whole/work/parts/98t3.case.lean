section LT
variable {p : Program} {l : Launch} {e : Env} {s : State} {m : MethodId} {below : List Frame} {meth : Method} {c : Code} {H : Heap} {locs : List Loc} {cells slots : Nat} {Q : State → Prop}
variable {D : va_G} {cy : Nat → ClassId} {tt : Nat → Nat} {b L : Nat} {xs : Nat → Int32} {a a' : Nat → Nat} {o o' bo : Nat} {ls : Array Slot} {i : Int32} {S : SX11} {T : SX12} {f : Nat → Int64}
theorem lawC_neededMark (C : lX p l s m c b L xs D cy tt) (hc : lC cells slots) (hGG : GG S T) (g1 : vp_in (i + 1) L) (g2 : vp_in (i + 2) L) (g3 : vp_in (i + 3) L) (hP : va_P D vwCl (oC cy bo f :: (wX11 cy a o S ++ wX12 cy a' o' T)) H) (hD : va_D (fun q => s.heap.size ≤ q) (oC cy bo f :: (wX11 cy a o S ++ wX12 cy a' o' T))) (hS : va_S (fun q => s.heap.size ≤ q) s.heap H locs) (hl : lv_has ls 7 [(4, .int i), (0, .ref b), (1, .ref (a o)), (2, .ref (a' o')), (3, .ref bo)]) (kk : lK p l e s m below meth c D cy b a o a' o' bo i cells slots Q) : W p l e room_1 s m #[Value.ref b] below meth c H locs cells slots Q (F0 m 1696 ls []) := by
  have C0 := C
  obtain ⟨hx, hb, hml, hown, hts, hX, hbl, hl9, hG, hGX, hN⟩ := C
  have hA : ∀ q : Nat, s.heap.size ≤ q → (fun q : Nat => s.heap.size ≤ q) q := fun _ h => h
  obtain ⟨w1, e1, l1, u1⟩ := i32 (xs (i + 1).toNatClampNeg)
  obtain ⟨w2, e2, l2, u2⟩ := i32 (xs (i + 2).toNatClampNeg)
  obtain ⟨w3, e3, l3, u3⟩ := i32 (xs (i + 3).toNatClampNeg)
  have hk := K_neededMark hGG l1 u1 l2 u2 l3 u3
  rw [← e1, ← e2, ← e3] at hk
  obtain ⟨res, v, T', hw, hr2, hcode, hG', hout⟩ := brR hk (by decide) f
  refine lv_aload_n hx hb dL_law_1696 rfl (lv_at hl 2 rfl) ?_
  refine lRd (k := 1) C0 hS (lv_at hl 1 rfl) (lv_at hl 0 rfl) (by decide) g1 dL_law_1697 dL_law_1698 dL_law_1700 dL_law_1701 dL_law_1702 ?_
  refine lRd (k := 2) C0 hS (lv_at hl 1 rfl) (lv_at hl 0 rfl) (by decide) g2 dL_law_1703 dL_law_1704 dL_law_1706 dL_law_1707 dL_law_1708 ?_
  refine lRd (k := 3) C0 hS (lv_at hl 1 rfl) (lv_at hl 0 rfl) (by decide) g3 dL_law_1709 dL_law_1710 dL_law_1712 dL_law_1713 dL_law_1714 ?_
  refine lv_aload_n hx hb dL_law_1715 rfl (lv_at hl 4 rfl) ?_
  refine lcW hG hGX hN hP hD hS hA (mc := 5) (ms := 30) (fun h1 h2 => vx_runSX (As := [.ref (a o), .int (xs (i + 1).toNatClampNeg), .int (xs (i + 2).toNatClampNeg), .int (xs (i + 3).toNatClampNeg), .ref bo]) (rest := []) ⟨hx, hb, hml, hown, hts⟩ (qL_neededMark l hl9 D cy tt a o bo S (xs (i + 1).toNatClampNeg) (xs (i + 2).toNatClampNeg) (xs (i + 3).toNatClampNeg) f H.size res hw) (vx_cwSW 5 hts gL_law_L_neededMark rfl rfl rfl (by decide +kernel) ⟨Nat.le_of_ble_eq_true rfl, Nat.le_of_ble_eq_true rfl⟩) ⟨h1, h2⟩ rfl rfl hl.1 rfl (lv_room (Nat.le_of_ble_eq_true rfl)) dL_law_1716 (lRm hc (by decide) (by decide))) (c2 := cells + 5) (s2 := slots + 30) (Nat.add_le_add_left (by decide) _) (Nat.add_le_add_left (by decide) _) (fun r u H locs hq hP hD hS => ?_)
  have hq : (r, u) = res := hq
  subst hq
  have hcode : gX12_code T' = r := hcode
  have hG' : GG u.1 T' := hG'
  refine lv_istore (lv' := [(5, .int r), (4, .int i), (0, .ref b), (1, .ref (a o)), (2, .ref (a' o')), (3, .ref bo)]) hx hb dL_law_1719 hl (by decide) rfl (fun ls hl => ?_)
  refine lv_aload_n hx hb dL_law_1721 rfl (lv_at hl 4 rfl) ?_
  refine lRd (k := 1) C0 hS (lv_at hl 2 rfl) (lv_at hl 1 rfl) (by decide) g1 dL_law_1722 dL_law_1723 dL_law_1725 dL_law_1726 dL_law_1727 ?_
  refine lRd (k := 2) C0 hS (lv_at hl 2 rfl) (lv_at hl 1 rfl) (by decide) g2 dL_law_1728 dL_law_1729 dL_law_1731 dL_law_1732 dL_law_1733 ?_
  refine lRd (k := 3) C0 hS (lv_at hl 2 rfl) (lv_at hl 1 rfl) (by decide) g3 dL_law_1734 dL_law_1735 dL_law_1737 dL_law_1738 dL_law_1739 ?_
  refine smVi (As := [.int (xs (i + 1).toNatClampNeg), .int (xs (i + 2).toNatClampNeg), .int (xs (i + 3).toNatClampNeg)]) (rest := []) (ws' := oC cy bo u.2 :: (wX11 cy a o u.1 ++ wX12 cy a' o' T')) (q0 := 0) (ci := 12) (qX12_neededMark l D cy a' o' T (xs (i + 1).toNatClampNeg) (xs (i + 2).toNatClampNeg) (xs (i + 3).toNatClampNeg) H.size (v, T') hr2) ⟨hx, hb, hml, hown, hts⟩ (cwV 3 hts gL_law_X12_neededMark rfl rfl rfl (by decide +kernel) ⟨Nat.le_of_ble_eq_true rfl, Nat.le_of_ble_eq_true rfl⟩) hG hP hD hS hA (pmT cy a o bo u.1 u.2 (wX12 cy a' o' T)) (pmT cy a o bo u.1 u.2 (wX12 cy a' o' T')) rfl rfl rfl hl.1 rfl (Nat.le_of_ble_eq_true rfl) dL_law_1740 hc (fun H locs hP hD hS => ?_)
  refine lv_istore (lv' := [(6, .int v), (5, .int r), (4, .int i), (0, .ref b), (1, .ref (a o)), (2, .ref (a' o')), (3, .ref bo)]) hx hb dL_law_1743 hl (by decide) rfl (fun ls hl => ?_)
  exact lTail C0 hc hcode hout hP hl dL_law_1745 dL_law_1746 dL_law_1749 dL_law_1751 dL_law_1756 dL_law_1758 dL_law_1761 dL_law_1762 dL_law_1763 dL_law_1764 dL_law_1766 dL_law_1767 dL_law_1768 dL_law_1773 (by decide) (fun hl => kk u.1 T' u.2 H locs ls hG' hP hD hS hl)
theorem lawC_strangestJuror (C : lX p l s m c b L xs D cy tt) (hc : lC cells slots) (hGG : GG S T) (g1 : vp_in (i + 1) L) (g2 : vp_in (i + 2) L) (g3 : vp_in (i + 3) L) (hP : va_P D vwCl (oC cy bo f :: (wX11 cy a o S ++ wX12 cy a' o' T)) H) (hD : va_D (fun q => s.heap.size ≤ q) (oC cy bo f :: (wX11 cy a o S ++ wX12 cy a' o' T))) (hS : va_S (fun q => s.heap.size ≤ q) s.heap H locs) (hl : lv_has ls 7 [(4, .int i), (0, .ref b), (1, .ref (a o)), (2, .ref (a' o')), (3, .ref bo)]) (kk : lK p l e s m below meth c D cy b a o a' o' bo i cells slots Q) : W p l e room_1 s m #[Value.ref b] below meth c H locs cells slots Q (F0 m 1776 ls []) := by
  have C0 := C
  obtain ⟨hx, hb, hml, hown, hts, hX, hbl, hl9, hG, hGX, hN⟩ := C
  have hA : ∀ q : Nat, s.heap.size ≤ q → (fun q : Nat => s.heap.size ≤ q) q := fun _ h => h
  have hk := K_strangestJuror hGG
  obtain ⟨v, T', h1, hr2, hG'⟩ := hk
  refine W.widen (k := cells + 5) (n := slots + 30) (Nat.le_add_right _ _) (Nat.le_add_right _ _) ?_
  refine lv_aload_n hx hb dL_law_1776 rfl (lv_at hl 2 rfl) ?_
  have hPn : va_P D vwCl (wX11n cy a o (gX11_now S)) H := cutP hP (pmV cy a o bo S f (wX12 cy a' o' T))
  refine pcV (As := []) (rest := []) (q0 := 0) (ci := 11) (qX11_strangestJuror l D cy a o (gX11_now S)  v h1) ⟨hx, hb, hml, hown, hts⟩ (cwV 0 hts gL_law_X11_strangestJuror rfl rfl rfl (by decide +kernel) ⟨Nat.le_of_ble_eq_true rfl, Nat.le_of_ble_eq_true rfl⟩) hG hPn rfl rfl rfl hl.1 rfl (Nat.le_of_ble_eq_true rfl) dL_law_1777 hc ?_
  refine lv_aload_n hx hb dL_law_1780 rfl (lv_at hl 3 rfl) ?_
  refine smVi (As := []) (rest := [.int v]) (ws' := oC cy bo f :: (wX11 cy a o S ++ wX12 cy a' o' T')) (q0 := 0) (ci := 12) (qX12_strangestJuror l D cy a' o' T  H.size (v, T') hr2) ⟨hx, hb, hml, hown, hts⟩ (cwV 0 hts gL_law_X12_strangestJuror rfl rfl rfl (by decide +kernel) ⟨Nat.le_of_ble_eq_true rfl, Nat.le_of_ble_eq_true rfl⟩) hG hP hD hS hA (pmT cy a o bo S f (wX12 cy a' o' T)) (pmT cy a o bo S f (wX12 cy a' o' T')) rfl rfl rfl hl.1 rfl (Nat.le_of_ble_eq_true rfl) dL_law_1781 hc (fun H locs hP hD hS => ?_)
  exact lv_icmp_eq (tgt := 1929) hx hb dL_law_1784 (by decide) (fun _ => kk S T' f H locs ls hG' hP hD hS hl) (fun cc => absurd rfl cc)
theorem lawC_type (C : lX p l s m c b L xs D cy tt) (hc : lC cells slots) (hGG : GG S T) (g1 : vp_in (i + 1) L) (g2 : vp_in (i + 2) L) (g3 : vp_in (i + 3) L) (hP : va_P D vwCl (oC cy bo f :: (wX11 cy a o S ++ wX12 cy a' o' T)) H) (hD : va_D (fun q => s.heap.size ≤ q) (oC cy bo f :: (wX11 cy a o S ++ wX12 cy a' o' T))) (hS : va_S (fun q => s.heap.size ≤ q) s.heap H locs) (hl : lv_has ls 7 [(4, .int i), (0, .ref b), (1, .ref (a o)), (2, .ref (a' o')), (3, .ref bo)]) (kk : lK p l e s m below meth c D cy b a o a' o' bo i cells slots Q) : W p l e room_1 s m #[Value.ref b] below meth c H locs cells slots Q (F0 m 1789 ls []) := by
  have C0 := C
  obtain ⟨hx, hb, hml, hown, hts, hX, hbl, hl9, hG, hGX, hN⟩ := C
  have hA : ∀ q : Nat, s.heap.size ≤ q → (fun q : Nat => s.heap.size ≤ q) q := fun _ h => h
  obtain ⟨w1, e1, l1, u1⟩ := i32 (xs (i + 1).toNatClampNeg)
  have hk := K_type hGG l1 u1
  rw [← e1] at hk
  obtain ⟨res, v, T', hw, hr2, hcode, hG', hout⟩ := brO hk (by decide) f
  refine lv_aload_n hx hb dL_law_1789 rfl (lv_at hl 2 rfl) ?_
  refine lRd (k := 1) C0 hS (lv_at hl 1 rfl) (lv_at hl 0 rfl) (by decide) g1 dL_law_1790 dL_law_1791 dL_law_1793 dL_law_1794 dL_law_1795 ?_
  refine lv_aload_n hx hb dL_law_1796 rfl (lv_at hl 4 rfl) ?_
  refine lcW hG hGX hN hP hD hS hA (mc := 2) (ms := 12) (fun h1 h2 => vx_runSX (As := [.ref (a o), .int (xs (i + 1).toNatClampNeg), .ref bo]) (rest := []) ⟨hx, hb, hml, hown, hts⟩ (qL_type l hl9 D cy tt a o bo S (xs (i + 1).toNatClampNeg) f H.size res hw) (vx_cwSW 3 hts gL_law_L_type rfl rfl rfl (by decide +kernel) ⟨Nat.le_of_ble_eq_true rfl, Nat.le_of_ble_eq_true rfl⟩) ⟨h1, h2⟩ rfl rfl hl.1 rfl (lv_room (Nat.le_of_ble_eq_true rfl)) dL_law_1797 (lRm hc (by decide) (by decide))) (c2 := cells + 5) (s2 := slots + 30) (Nat.add_le_add_left (by decide) _) (Nat.add_le_add_left (by decide) _) (fun r u H locs hq hP hD hS => ?_)
  have hq : (r, u) = res := hq
  subst hq
  have hcode : gX12_code T' = r := hcode
  have hG' : GG u.1 T' := hG'
  refine lv_istore (lv' := [(5, .int r), (4, .int i), (0, .ref b), (1, .ref (a o)), (2, .ref (a' o')), (3, .ref bo)]) hx hb dL_law_1800 hl (by decide) rfl (fun ls hl => ?_)
  refine lv_aload_n hx hb dL_law_1802 rfl (lv_at hl 4 rfl) ?_
  refine lRd (k := 1) C0 hS (lv_at hl 2 rfl) (lv_at hl 1 rfl) (by decide) g1 dL_law_1803 dL_law_1804 dL_law_1806 dL_law_1807 dL_law_1808 ?_
  refine smVi (As := [.int (xs (i + 1).toNatClampNeg)]) (rest := []) (ws' := oC cy bo u.2 :: (wX11 cy a o u.1 ++ wX12 cy a' o' T')) (q0 := 0) (ci := 12) (qX12_type l D cy a' o' T (xs (i + 1).toNatClampNeg) H.size (v, T') hr2) ⟨hx, hb, hml, hown, hts⟩ (cwV 1 hts gL_law_X12_type rfl rfl rfl (by decide +kernel) ⟨Nat.le_of_ble_eq_true rfl, Nat.le_of_ble_eq_true rfl⟩) hG hP hD hS hA (pmT cy a o bo u.1 u.2 (wX12 cy a' o' T)) (pmT cy a o bo u.1 u.2 (wX12 cy a' o' T')) rfl rfl rfl hl.1 rfl (Nat.le_of_ble_eq_true rfl) dL_law_1809 hc (fun H locs hP hD hS => ?_)
  refine lv_istore (lv' := [(6, .int v), (5, .int r), (4, .int i), (0, .ref b), (1, .ref (a o)), (2, .ref (a' o')), (3, .ref bo)]) hx hb dL_law_1812 hl (by decide) rfl (fun ls hl => ?_)
  exact lTail C0 hc hcode hout hP hl dL_law_1814 dL_law_1815 dL_law_1818 dL_law_1820 dL_law_1825 dL_law_1827 dL_law_1830 dL_law_1831 dL_law_1832 dL_law_1833 dL_law_1835 dL_law_1836 dL_law_1837 dL_law_1842 (by decide) (fun hl => kk u.1 T' u.2 H locs ls hG' hP hD hS hl)
theorem lawC_clearText (C : lX p l s m c b L xs D cy tt) (hc : lC cells slots) (hGG : GG S T) (g1 : vp_in (i + 1) L) (g2 : vp_in (i + 2) L) (g3 : vp_in (i + 3) L) (hP : va_P D vwCl (oC cy bo f :: (wX11 cy a o S ++ wX12 cy a' o' T)) H) (hD : va_D (fun q => s.heap.size ≤ q) (oC cy bo f :: (wX11 cy a o S ++ wX12 cy a' o' T))) (hS : va_S (fun q => s.heap.size ≤ q) s.heap H locs) (hl : lv_has ls 7 [(4, .int i), (0, .ref b), (1, .ref (a o)), (2, .ref (a' o')), (3, .ref bo)]) (kk : lK p l e s m below meth c D cy b a o a' o' bo i cells slots Q) : W p l e room_1 s m #[Value.ref b] below meth c H locs cells slots Q (F0 m 1845 ls []) := by
  have C0 := C
  obtain ⟨hx, hb, hml, hown, hts, hX, hbl, hl9, hG, hGX, hN⟩ := C
  have hA : ∀ q : Nat, s.heap.size ≤ q → (fun q : Nat => s.heap.size ≤ q) q := fun _ h => h
  have hk := K_clearText hGG
  obtain ⟨v, S', T', h1, hr2, hG'⟩ := hk
  refine W.widen (k := cells + 5) (n := slots + 30) (Nat.le_add_right _ _) (Nat.le_add_right _ _) ?_
  refine lv_aload_n hx hb dL_law_1845 rfl (lv_at hl 2 rfl) ?_
  refine smVi (As := []) (rest := []) (ws' := oC cy bo f :: (wX11 cy a o S' ++ wX12 cy a' o' T)) (q0 := 0) (ci := 11) (qX11_clearText l D cy a o S  H.size (v, S') h1) ⟨hx, hb, hml, hown, hts⟩ (cwV 0 hts gL_law_X11_clearText rfl rfl rfl (by decide +kernel) ⟨Nat.le_of_ble_eq_true rfl, Nat.le_of_ble_eq_true rfl⟩) hG hP hD hS hA (pmU cy a o bo S f (wX12 cy a' o' T)) (pmU cy a o bo S' f (wX12 cy a' o' T)) rfl rfl rfl hl.1 rfl (Nat.le_of_ble_eq_true rfl) dL_law_1846 hc (fun H locs hP hD hS => ?_)
  refine lv_aload_n hx hb dL_law_1849 rfl (lv_at hl 3 rfl) ?_
  refine smVi (As := []) (rest := [.int v]) (ws' := oC cy bo f :: (wX11 cy a o S' ++ wX12 cy a' o' T')) (q0 := 0) (ci := 12) (qX12_clearText l D cy a' o' T  H.size (v, T') hr2) ⟨hx, hb, hml, hown, hts⟩ (cwV 0 hts gL_law_X12_clearText rfl rfl rfl (by decide +kernel) ⟨Nat.le_of_ble_eq_true rfl, Nat.le_of_ble_eq_true rfl⟩) hG hP hD hS hA (pmT cy a o bo S' f (wX12 cy a' o' T)) (pmT cy a o bo S' f (wX12 cy a' o' T')) rfl rfl rfl hl.1 rfl (Nat.le_of_ble_eq_true rfl) dL_law_1850 hc (fun H locs hP hD hS => ?_)
  exact lv_icmp_eq (tgt := 1929) hx hb dL_law_1853 (by decide) (fun _ => kk S' T' f H locs ls hG' hP hD hS hl) (fun cc => absurd rfl cc)
theorem lawC_fault (C : lX p l s m c b L xs D cy tt) (hc : lC cells slots) (hGG : GG S T) (g1 : vp_in (i + 1) L) (g2 : vp_in (i + 2) L) (g3 : vp_in (i + 3) L) (hP : va_P D vwCl (oC cy bo f :: (wX11 cy a o S ++ wX12 cy a' o' T)) H) (hD : va_D (fun q => s.heap.size ≤ q) (oC cy bo f :: (wX11 cy a o S ++ wX12 cy a' o' T))) (hS : va_S (fun q => s.heap.size ≤ q) s.heap H locs) (hl : lv_has ls 7 [(4, .int i), (0, .ref b), (1, .ref (a o)), (2, .ref (a' o')), (3, .ref bo)]) (kk : lK p l e s m below meth c D cy b a o a' o' bo i cells slots Q) : W p l e room_1 s m #[Value.ref b] below meth c H locs cells slots Q (F0 m 1858 ls []) := by
  have C0 := C
  obtain ⟨hx, hb, hml, hown, hts, hX, hbl, hl9, hG, hGX, hN⟩ := C
  have hA : ∀ q : Nat, s.heap.size ≤ q → (fun q : Nat => s.heap.size ≤ q) q := fun _ h => h
  have hk := K_fault hGG
  obtain ⟨v, S', T', h1, hr2, hG'⟩ := hk
  refine W.widen (k := cells + 5) (n := slots + 30) (Nat.le_add_right _ _) (Nat.le_add_right _ _) ?_
  refine lv_aload_n hx hb dL_law_1858 rfl (lv_at hl 2 rfl) ?_
  refine smVi (As := []) (rest := []) (ws' := oC cy bo f :: (wX11 cy a o S' ++ wX12 cy a' o' T)) (q0 := 0) (ci := 11) (qX11_fault l D cy a o S  H.size (v, S') h1) ⟨hx, hb, hml, hown, hts⟩ (cwV 0 hts gL_law_X11_fault rfl rfl rfl (by decide +kernel) ⟨Nat.le_of_ble_eq_true rfl, Nat.le_of_ble_eq_true rfl⟩) hG hP hD hS hA (pmU cy a o bo S f (wX12 cy a' o' T)) (pmU cy a o bo S' f (wX12 cy a' o' T)) rfl rfl rfl hl.1 rfl (Nat.le_of_ble_eq_true rfl) dL_law_1859 hc (fun H locs hP hD hS => ?_)
  refine lv_aload_n hx hb dL_law_1862 rfl (lv_at hl 3 rfl) ?_
  refine smVi (As := []) (rest := [.int v]) (ws' := oC cy bo f :: (wX11 cy a o S' ++ wX12 cy a' o' T')) (q0 := 0) (ci := 12) (qX12_fault l D cy a' o' T  H.size (v, T') hr2) ⟨hx, hb, hml, hown, hts⟩ (cwV 0 hts gL_law_X12_fault rfl rfl rfl (by decide +kernel) ⟨Nat.le_of_ble_eq_true rfl, Nat.le_of_ble_eq_true rfl⟩) hG hP hD hS hA (pmT cy a o bo S' f (wX12 cy a' o' T)) (pmT cy a o bo S' f (wX12 cy a' o' T')) rfl rfl rfl hl.1 rfl (Nat.le_of_ble_eq_true rfl) dL_law_1863 hc (fun H locs hP hD hS => ?_)
  exact lv_icmp_eq (tgt := 1929) hx hb dL_law_1866 (by decide) (fun _ => kk S' T' f H locs ls hG' hP hD hS hl) (fun cc => absurd rfl cc)
theorem lawC_undo (C : lX p l s m c b L xs D cy tt) (hc : lC cells slots) (hGG : GG S T) (g1 : vp_in (i + 1) L) (g2 : vp_in (i + 2) L) (g3 : vp_in (i + 3) L) (hP : va_P D vwCl (oC cy bo f :: (wX11 cy a o S ++ wX12 cy a' o' T)) H) (hD : va_D (fun q => s.heap.size ≤ q) (oC cy bo f :: (wX11 cy a o S ++ wX12 cy a' o' T))) (hS : va_S (fun q => s.heap.size ≤ q) s.heap H locs) (hl : lv_has ls 7 [(4, .int i), (0, .ref b), (1, .ref (a o)), (2, .ref (a' o')), (3, .ref bo)]) (kk : lK p l e s m below meth c D cy b a o a' o' bo i cells slots Q) : W p l e room_1 s m #[Value.ref b] below meth c H locs cells slots Q (F0 m 1871 ls []) := by
  have C0 := C
  obtain ⟨hx, hb, hml, hown, hts, hX, hbl, hl9, hG, hGX, hN⟩ := C
  have hA : ∀ q : Nat, s.heap.size ≤ q → (fun q : Nat => s.heap.size ≤ q) q := fun _ h => h
  have hk := K_undo hGG
  obtain ⟨res, v, T', hw, hr2, hcode, hG', hout⟩ := brO hk (by decide) f
  refine lv_aload_n hx hb dL_law_1871 rfl (lv_at hl 2 rfl) ?_
  refine lv_aload_n hx hb dL_law_1872 rfl (lv_at hl 4 rfl) ?_
  refine lcW hG hGX hN hP hD hS hA (mc := 1) (ms := 6) (fun h1 h2 => vx_runSX (As := [.ref (a o), .ref bo]) (rest := []) ⟨hx, hb, hml, hown, hts⟩ (qL_undo l hl9 D cy tt a o bo S  f H.size res hw) (vx_cwSW 2 hts gL_law_L_undo rfl rfl rfl (by decide +kernel) ⟨Nat.le_of_ble_eq_true rfl, Nat.le_of_ble_eq_true rfl⟩) ⟨h1, h2⟩ rfl rfl hl.1 rfl (lv_room (Nat.le_of_ble_eq_true rfl)) dL_law_1873 (lRm hc (by decide) (by decide))) (c2 := cells + 5) (s2 := slots + 30) (Nat.add_le_add_left (by decide) _) (Nat.add_le_add_left (by decide) _) (fun r u H locs hq hP hD hS => ?_)
  have hq : (r, u) = res := hq
  subst hq
  have hcode : gX12_code T' = r := hcode
  have hG' : GG u.1 T' := hG'
  refine lv_istore (lv' := [(5, .int r), (4, .int i), (0, .ref b), (1, .ref (a o)), (2, .ref (a' o')), (3, .ref bo)]) hx hb dL_law_1876 hl (by decide) rfl (fun ls hl => ?_)
  refine lv_aload_n hx hb dL_law_1878 rfl (lv_at hl 4 rfl) ?_
  refine smVi (As := []) (rest := []) (ws' := oC cy bo u.2 :: (wX11 cy a o u.1 ++ wX12 cy a' o' T')) (q0 := 0) (ci := 12) (qX12_undo l D cy a' o' T  H.size (v, T') hr2) ⟨hx, hb, hml, hown, hts⟩ (cwV 0 hts gL_law_X12_undo rfl rfl rfl (by decide +kernel) ⟨Nat.le_of_ble_eq_true rfl, Nat.le_of_ble_eq_true rfl⟩) hG hP hD hS hA (pmT cy a o bo u.1 u.2 (wX12 cy a' o' T)) (pmT cy a o bo u.1 u.2 (wX12 cy a' o' T')) rfl rfl rfl hl.1 rfl (Nat.le_of_ble_eq_true rfl) dL_law_1879 hc (fun H locs hP hD hS => ?_)
  refine lv_istore (lv' := [(6, .int v), (5, .int r), (4, .int i), (0, .ref b), (1, .ref (a o)), (2, .ref (a' o')), (3, .ref bo)]) hx hb dL_law_1882 hl (by decide) rfl (fun ls hl => ?_)
  exact lTail C0 hc hcode hout hP hl dL_law_1884 dL_law_1885 dL_law_1888 dL_law_1890 dL_law_1895 dL_law_1897 dL_law_1900 dL_law_1901 dL_law_1902 dL_law_1903 dL_law_1905 dL_law_1906 dL_law_1907 dL_law_1912 (by decide) (fun hl => kk u.1 T' u.2 H locs ls hG' hP hD hS hl)
theorem lawC_checksum (C : lX p l s m c b L xs D cy tt) (hc : lC cells slots) (hGG : GG S T) (g1 : vp_in (i + 1) L) (g2 : vp_in (i + 2) L) (g3 : vp_in (i + 3) L) (hP : va_P D vwCl (oC cy bo f :: (wX11 cy a o S ++ wX12 cy a' o' T)) H) (hD : va_D (fun q => s.heap.size ≤ q) (oC cy bo f :: (wX11 cy a o S ++ wX12 cy a' o' T))) (hS : va_S (fun q => s.heap.size ≤ q) s.heap H locs) (hl : lv_has ls 7 [(4, .int i), (0, .ref b), (1, .ref (a o)), (2, .ref (a' o')), (3, .ref bo)]) (kk : lK p l e s m below meth c D cy b a o a' o' bo i cells slots Q) : W p l e room_1 s m #[Value.ref b] below meth c H locs cells slots Q (F0 m 1915 ls []) := by
  have C0 := C
  obtain ⟨hx, hb, hml, hown, hts, hX, hbl, hl9, hG, hGX, hN⟩ := C
  have hA : ∀ q : Nat, s.heap.size ≤ q → (fun q : Nat => s.heap.size ≤ q) q := fun _ h => h
  have hk := K_checksum hGG
  obtain ⟨v, T', h1, hr2, hG'⟩ := hk
  refine W.widen (k := cells + 5) (n := slots + 30) (Nat.le_add_right _ _) (Nat.le_add_right _ _) ?_
  refine lv_aload_n hx hb dL_law_1915 rfl (lv_at hl 2 rfl) ?_
  have hPn : va_P D vwCl (wX11 cy a o S) H := cutP hP (pmU cy a o bo S f (wX12 cy a' o' T))
  refine pcVl (As := []) (rest := []) (q0 := 0) (ci := 11) (qX11_checksum l D cy a o S v h1) ⟨hx, hb, hml, hown, hts⟩ (cwV 0 hts gL_law_X11_checksum rfl rfl rfl (by decide +kernel) ⟨Nat.le_of_ble_eq_true rfl, Nat.le_of_ble_eq_true rfl⟩) hG hPn rfl rfl rfl hl.1 rfl (Nat.le_of_ble_eq_true rfl) dL_law_1916 hc ?_
  refine lv_aload_n hx hb dL_law_1919 rfl (lv_at hl 3 rfl) ?_
  refine smVl (As := []) (rest := [.long v]) (ws' := oC cy bo f :: (wX11 cy a o S ++ wX12 cy a' o' T')) (q0 := 0) (ci := 12) (qX12_checksum l D cy a' o' T  H.size (v, T') hr2) ⟨hx, hb, hml, hown, hts⟩ (cwV 0 hts gL_law_X12_checksum rfl rfl rfl (by decide +kernel) ⟨Nat.le_of_ble_eq_true rfl, Nat.le_of_ble_eq_true rfl⟩) hG hP hD hS hA (pmT cy a o bo S f (wX12 cy a' o' T)) (pmT cy a o bo S f (wX12 cy a' o' T')) rfl rfl rfl hl.1 rfl (Nat.le_of_ble_eq_true rfl) dL_law_1920 hc (fun H locs hP hD hS => ?_)
  refine W.lcmp hx hb dL_law_1923 ?_
  exact lv_if_eq (tgt := 1929) hx hb dL_law_1924 (by decide) (fun _ => kk S T' f H locs ls hG' hP hD hS hl) (fun cc => absurd ((lg_cmp_eq _ _).mpr rfl) cc)
end LT
