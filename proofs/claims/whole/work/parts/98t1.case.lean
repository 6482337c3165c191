section LT
variable {p : Program} {l : Launch} {e : Env} {s : State} {m : MethodId} {below : List Frame} {meth : Method} {c : Code} {H : Heap} {locs : List Loc} {cells slots : Nat} {Q : State → Prop}
variable {D : va_G} {cy : Nat → ClassId} {tt : Nat → Nat} {b L : Nat} {xs : Nat → Int32} {a a' : Nat → Nat} {o o' bo : Nat} {ls : Array Slot} {i : Int32} {S : SX11} {T : SX12} {f : Nat → Int64}
theorem lawC_clearProgram (C : lX p l s m c b L xs D cy tt) (hc : lC cells slots) (hGG : GG S T) (g1 : vp_in (i + 1) L) (g2 : vp_in (i + 2) L) (g3 : vp_in (i + 3) L) (hP : va_P D vwCl (oC cy bo f :: (wX11 cy a o S ++ wX12 cy a' o' T)) H) (hD : va_D (fun q => s.heap.size ≤ q) (oC cy bo f :: (wX11 cy a o S ++ wX12 cy a' o' T))) (hS : va_S (fun q => s.heap.size ≤ q) s.heap H locs) (hl : lv_has ls 7 [(4, .int i), (0, .ref b), (1, .ref (a o)), (2, .ref (a' o')), (3, .ref bo)]) (kk : lK p l e s m below meth c D cy b a o a' o' bo i cells slots Q) : W p l e room_1 s m #[Value.ref b] below meth c H locs cells slots Q (F0 m 751 ls []) := by
  have C0 := C
  obtain ⟨hx, hb, hml, hown, hts, hX, hbl, hl9, hG, hGX, hN⟩ := C
  have hA : ∀ q : Nat, s.heap.size ≤ q → (fun q : Nat => s.heap.size ≤ q) q := fun _ h => h
  obtain ⟨w1, e1, l1, u1⟩ := i32 (xs (i + 1).toNatClampNeg)
  obtain ⟨w2, e2, l2, u2⟩ := i32 (xs (i + 2).toNatClampNeg)
  have hk := K_clearProgram hGG l1 u1 l2 u2
  rw [← e1, ← e2] at hk
  obtain ⟨res, v, T', hw, hr2, hcode, hG', hout⟩ := brO hk (by decide) f
  refine lv_aload_n hx hb dL_law_751 rfl (lv_at hl 2 rfl) ?_
  refine lRd (k := 1) C0 hS (lv_at hl 1 rfl) (lv_at hl 0 rfl) (by decide) g1 dL_law_752 dL_law_753 dL_law_755 dL_law_756 dL_law_757 ?_
  refine lRd (k := 2) C0 hS (lv_at hl 1 rfl) (lv_at hl 0 rfl) (by decide) g2 dL_law_758 dL_law_759 dL_law_761 dL_law_762 dL_law_763 ?_
  refine lv_aload_n hx hb dL_law_764 rfl (lv_at hl 4 rfl) ?_
  refine lcW hG hGX hN hP hD hS hA (mc := 2) (ms := 12) (fun h1 h2 => vx_runSX (As := [.ref (a o), .int (xs (i + 1).toNatClampNeg), .int (xs (i + 2).toNatClampNeg), .ref bo]) (rest := []) ⟨hx, hb, hml, hown, hts⟩ (qL_clearProgram l hl9 D cy tt a o bo S (xs (i + 1).toNatClampNeg) (xs (i + 2).toNatClampNeg) f H.size res hw) (vx_cwSW 4 hts gL_law_L_clearProgram rfl rfl rfl (by decide +kernel) ⟨Nat.le_of_ble_eq_true rfl, Nat.le_of_ble_eq_true rfl⟩) ⟨h1, h2⟩ rfl rfl hl.1 rfl (lv_room (Nat.le_of_ble_eq_true rfl)) dL_law_765 (lRm hc (by decide) (by decide))) (c2 := cells + 5) (s2 := slots + 30) (Nat.add_le_add_left (by decide) _) (Nat.add_le_add_left (by decide) _) (fun r u H locs hq hP hD hS => ?_)
  have hq : (r, u) = res := hq
  subst hq
  have hcode : gX12_code T' = r := hcode
  have hG' : GG u.1 T' := hG'
  refine lv_istore (lv' := [(5, .int r), (4, .int i), (0, .ref b), (1, .ref (a o)), (2, .ref (a' o')), (3, .ref bo)]) hx hb dL_law_768 hl (by decide) rfl (fun ls hl => ?_)
  refine lv_aload_n hx hb dL_law_770 rfl (lv_at hl 4 rfl) ?_
  refine lRd (k := 1) C0 hS (lv_at hl 2 rfl) (lv_at hl 1 rfl) (by decide) g1 dL_law_771 dL_law_772 dL_law_774 dL_law_775 dL_law_776 ?_
  refine lRd (k := 2) C0 hS (lv_at hl 2 rfl) (lv_at hl 1 rfl) (by decide) g2 dL_law_777 dL_law_778 dL_law_780 dL_law_781 dL_law_782 ?_
  refine smVi (As := [.int (xs (i + 1).toNatClampNeg), .int (xs (i + 2).toNatClampNeg)]) (rest := []) (ws' := oC cy bo u.2 :: (wX11 cy a o u.1 ++ wX12 cy a' o' T')) (q0 := 0) (ci := 12) (qX12_clearProgram l D cy a' o' T (xs (i + 1).toNatClampNeg) (xs (i + 2).toNatClampNeg) H.size (v, T') hr2) ⟨hx, hb, hml, hown, hts⟩ (cwV 2 hts gL_law_X12_clearProgram rfl rfl rfl (by decide +kernel) ⟨Nat.le_of_ble_eq_true rfl, Nat.le_of_ble_eq_true rfl⟩) hG hP hD hS hA (pmT cy a o bo u.1 u.2 (wX12 cy a' o' T)) (pmT cy a o bo u.1 u.2 (wX12 cy a' o' T')) rfl rfl rfl hl.1 rfl (Nat.le_of_ble_eq_true rfl) dL_law_783 hc (fun H locs hP hD hS => ?_)
  refine lv_istore (lv' := [(6, .int v), (5, .int r), (4, .int i), (0, .ref b), (1, .ref (a o)), (2, .ref (a' o')), (3, .ref bo)]) hx hb dL_law_786 hl (by decide) rfl (fun ls hl => ?_)
  exact lTail C0 hc hcode hout hP hl dL_law_788 dL_law_789 dL_law_792 dL_law_794 dL_law_799 dL_law_801 dL_law_804 dL_law_805 dL_law_806 dL_law_807 dL_law_809 dL_law_810 dL_law_811 dL_law_816 (by decide) (fun hl => kk u.1 T' u.2 H locs ls hG' hP hD hS hl)
theorem lawC_program (C : lX p l s m c b L xs D cy tt) (hc : lC cells slots) (hGG : GG S T) (g1 : vp_in (i + 1) L) (g2 : vp_in (i + 2) L) (g3 : vp_in (i + 3) L) (hP : va_P D vwCl (oC cy bo f :: (wX11 cy a o S ++ wX12 cy a' o' T)) H) (hD : va_D (fun q => s.heap.size ≤ q) (oC cy bo f :: (wX11 cy a o S ++ wX12 cy a' o' T))) (hS : va_S (fun q => s.heap.size ≤ q) s.heap H locs) (hl : lv_has ls 7 [(4, .int i), (0, .ref b), (1, .ref (a o)), (2, .ref (a' o')), (3, .ref bo)]) (kk : lK p l e s m below meth c D cy b a o a' o' bo i cells slots Q) : W p l e room_1 s m #[Value.ref b] below meth c H locs cells slots Q (F0 m 819 ls []) := by
  have C0 := C
  obtain ⟨hx, hb, hml, hown, hts, hX, hbl, hl9, hG, hGX, hN⟩ := C
  have hA : ∀ q : Nat, s.heap.size ≤ q → (fun q : Nat => s.heap.size ≤ q) q := fun _ h => h
  obtain ⟨w1, e1, l1, u1⟩ := i32 (xs (i + 1).toNatClampNeg)
  obtain ⟨w2, e2, l2, u2⟩ := i32 (xs (i + 2).toNatClampNeg)
  obtain ⟨w3, e3, l3, u3⟩ := i32 (xs (i + 3).toNatClampNeg)
  have hk := K_program hGG l1 u1 l2 u2 l3 u3
  rw [← e1, ← e2, ← e3] at hk
  obtain ⟨res, v, T', hw, hr2, hcode, hG', hout⟩ := brR hk (by decide) f
  refine lv_aload_n hx hb dL_law_819 rfl (lv_at hl 2 rfl) ?_
  refine lRd (k := 1) C0 hS (lv_at hl 1 rfl) (lv_at hl 0 rfl) (by decide) g1 dL_law_820 dL_law_821 dL_law_823 dL_law_824 dL_law_825 ?_
  refine lRd (k := 2) C0 hS (lv_at hl 1 rfl) (lv_at hl 0 rfl) (by decide) g2 dL_law_826 dL_law_827 dL_law_829 dL_law_830 dL_law_831 ?_
  refine lRd (k := 3) C0 hS (lv_at hl 1 rfl) (lv_at hl 0 rfl) (by decide) g3 dL_law_832 dL_law_833 dL_law_835 dL_law_836 dL_law_837 ?_
  refine lv_aload_n hx hb dL_law_838 rfl (lv_at hl 4 rfl) ?_
  refine lcW hG hGX hN hP hD hS hA (mc := 2) (ms := 12) (fun h1 h2 => vx_runSX (As := [.ref (a o), .int (xs (i + 1).toNatClampNeg), .int (xs (i + 2).toNatClampNeg), .int (xs (i + 3).toNatClampNeg), .ref bo]) (rest := []) ⟨hx, hb, hml, hown, hts⟩ (qL_program l hl9 D cy tt a o bo S (xs (i + 1).toNatClampNeg) (xs (i + 2).toNatClampNeg) (xs (i + 3).toNatClampNeg) f H.size res hw) (vx_cwSW 5 hts gL_law_L_program rfl rfl rfl (by decide +kernel) ⟨Nat.le_of_ble_eq_true rfl, Nat.le_of_ble_eq_true rfl⟩) ⟨h1, h2⟩ rfl rfl hl.1 rfl (lv_room (Nat.le_of_ble_eq_true rfl)) dL_law_839 (lRm hc (by decide) (by decide))) (c2 := cells + 5) (s2 := slots + 30) (Nat.add_le_add_left (by decide) _) (Nat.add_le_add_left (by decide) _) (fun r u H locs hq hP hD hS => ?_)
  have hq : (r, u) = res := hq
  subst hq
  have hcode : gX12_code T' = r := hcode
  have hG' : GG u.1 T' := hG'
  refine lv_istore (lv' := [(5, .int r), (4, .int i), (0, .ref b), (1, .ref (a o)), (2, .ref (a' o')), (3, .ref bo)]) hx hb dL_law_842 hl (by decide) rfl (fun ls hl => ?_)
  refine lv_aload_n hx hb dL_law_844 rfl (lv_at hl 4 rfl) ?_
  refine lRd (k := 1) C0 hS (lv_at hl 2 rfl) (lv_at hl 1 rfl) (by decide) g1 dL_law_845 dL_law_846 dL_law_848 dL_law_849 dL_law_850 ?_
  refine lRd (k := 2) C0 hS (lv_at hl 2 rfl) (lv_at hl 1 rfl) (by decide) g2 dL_law_851 dL_law_852 dL_law_854 dL_law_855 dL_law_856 ?_
  refine lRd (k := 3) C0 hS (lv_at hl 2 rfl) (lv_at hl 1 rfl) (by decide) g3 dL_law_857 dL_law_858 dL_law_860 dL_law_861 dL_law_862 ?_
  refine smVi (As := [.int (xs (i + 1).toNatClampNeg), .int (xs (i + 2).toNatClampNeg), .int (xs (i + 3).toNatClampNeg)]) (rest := []) (ws' := oC cy bo u.2 :: (wX11 cy a o u.1 ++ wX12 cy a' o' T')) (q0 := 0) (ci := 12) (qX12_program l D cy a' o' T (xs (i + 1).toNatClampNeg) (xs (i + 2).toNatClampNeg) (xs (i + 3).toNatClampNeg) H.size (v, T') hr2) ⟨hx, hb, hml, hown, hts⟩ (cwV 3 hts gL_law_X12_program rfl rfl rfl (by decide +kernel) ⟨Nat.le_of_ble_eq_true rfl, Nat.le_of_ble_eq_true rfl⟩) hG hP hD hS hA (pmT cy a o bo u.1 u.2 (wX12 cy a' o' T)) (pmT cy a o bo u.1 u.2 (wX12 cy a' o' T')) rfl rfl rfl hl.1 rfl (Nat.le_of_ble_eq_true rfl) dL_law_863 hc (fun H locs hP hD hS => ?_)
  refine lv_istore (lv' := [(6, .int v), (5, .int r), (4, .int i), (0, .ref b), (1, .ref (a o)), (2, .ref (a' o')), (3, .ref bo)]) hx hb dL_law_866 hl (by decide) rfl (fun ls hl => ?_)
  exact lTail C0 hc hcode hout hP hl dL_law_868 dL_law_869 dL_law_872 dL_law_874 dL_law_879 dL_law_881 dL_law_884 dL_law_885 dL_law_886 dL_law_887 dL_law_889 dL_law_890 dL_law_891 dL_law_896 (by decide) (fun hl => kk u.1 T' u.2 H locs ls hG' hP hD hS hl)
theorem lawC_flaw (C : lX p l s m c b L xs D cy tt) (hc : lC cells slots) (hGG : GG S T) (g1 : vp_in (i + 1) L) (g2 : vp_in (i + 2) L) (g3 : vp_in (i + 3) L) (hP : va_P D vwCl (oC cy bo f :: (wX11 cy a o S ++ wX12 cy a' o' T)) H) (hD : va_D (fun q => s.heap.size ≤ q) (oC cy bo f :: (wX11 cy a o S ++ wX12 cy a' o' T))) (hS : va_S (fun q => s.heap.size ≤ q) s.heap H locs) (hl : lv_has ls 7 [(4, .int i), (0, .ref b), (1, .ref (a o)), (2, .ref (a' o')), (3, .ref bo)]) (kk : lK p l e s m below meth c D cy b a o a' o' bo i cells slots Q) : W p l e room_1 s m #[Value.ref b] below meth c H locs cells slots Q (F0 m 899 ls []) := by
  have C0 := C
  obtain ⟨hx, hb, hml, hown, hts, hX, hbl, hl9, hG, hGX, hN⟩ := C
  have hA : ∀ q : Nat, s.heap.size ≤ q → (fun q : Nat => s.heap.size ≤ q) q := fun _ h => h
  obtain ⟨w1, e1, l1, u1⟩ := i32 (xs (i + 1).toNatClampNeg)
  obtain ⟨w2, e2, l2, u2⟩ := i32 (xs (i + 2).toNatClampNeg)
  have hk := K_flaw hGG l1 u1 l2 u2
  rw [← e1, ← e2] at hk
  obtain ⟨res, v, T', hw, hr2, hcode, hG', hout⟩ := brR hk (by decide) f
  refine lv_aload_n hx hb dL_law_899 rfl (lv_at hl 2 rfl) ?_
  refine lRd (k := 1) C0 hS (lv_at hl 1 rfl) (lv_at hl 0 rfl) (by decide) g1 dL_law_900 dL_law_901 dL_law_903 dL_law_904 dL_law_905 ?_
  refine lRd (k := 2) C0 hS (lv_at hl 1 rfl) (lv_at hl 0 rfl) (by decide) g2 dL_law_906 dL_law_907 dL_law_909 dL_law_910 dL_law_911 ?_
  refine lv_aload_n hx hb dL_law_912 rfl (lv_at hl 4 rfl) ?_
  refine lcW hG hGX hN hP hD hS hA (mc := 2) (ms := 12) (fun h1 h2 => vx_runSX (As := [.ref (a o), .int (xs (i + 1).toNatClampNeg), .int (xs (i + 2).toNatClampNeg), .ref bo]) (rest := []) ⟨hx, hb, hml, hown, hts⟩ (qL_flaw l hl9 D cy tt a o bo S (xs (i + 1).toNatClampNeg) (xs (i + 2).toNatClampNeg) f H.size res hw) (vx_cwSW 4 hts gL_law_L_flaw rfl rfl rfl (by decide +kernel) ⟨Nat.le_of_ble_eq_true rfl, Nat.le_of_ble_eq_true rfl⟩) ⟨h1, h2⟩ rfl rfl hl.1 rfl (lv_room (Nat.le_of_ble_eq_true rfl)) dL_law_913 (lRm hc (by decide) (by decide))) (c2 := cells + 5) (s2 := slots + 30) (Nat.add_le_add_left (by decide) _) (Nat.add_le_add_left (by decide) _) (fun r u H locs hq hP hD hS => ?_)
  have hq : (r, u) = res := hq
  subst hq
  have hcode : gX12_code T' = r := hcode
  have hG' : GG u.1 T' := hG'
  refine lv_istore (lv' := [(5, .int r), (4, .int i), (0, .ref b), (1, .ref (a o)), (2, .ref (a' o')), (3, .ref bo)]) hx hb dL_law_916 hl (by decide) rfl (fun ls hl => ?_)
  refine lv_aload_n hx hb dL_law_918 rfl (lv_at hl 4 rfl) ?_
  refine lRd (k := 1) C0 hS (lv_at hl 2 rfl) (lv_at hl 1 rfl) (by decide) g1 dL_law_919 dL_law_920 dL_law_922 dL_law_923 dL_law_924 ?_
  refine lRd (k := 2) C0 hS (lv_at hl 2 rfl) (lv_at hl 1 rfl) (by decide) g2 dL_law_925 dL_law_926 dL_law_928 dL_law_929 dL_law_930 ?_
  refine smVi (As := [.int (xs (i + 1).toNatClampNeg), .int (xs (i + 2).toNatClampNeg)]) (rest := []) (ws' := oC cy bo u.2 :: (wX11 cy a o u.1 ++ wX12 cy a' o' T')) (q0 := 0) (ci := 12) (qX12_flaw l D cy a' o' T (xs (i + 1).toNatClampNeg) (xs (i + 2).toNatClampNeg) H.size (v, T') hr2) ⟨hx, hb, hml, hown, hts⟩ (cwV 2 hts gL_law_X12_flaw rfl rfl rfl (by decide +kernel) ⟨Nat.le_of_ble_eq_true rfl, Nat.le_of_ble_eq_true rfl⟩) hG hP hD hS hA (pmT cy a o bo u.1 u.2 (wX12 cy a' o' T)) (pmT cy a o bo u.1 u.2 (wX12 cy a' o' T')) rfl rfl rfl hl.1 rfl (Nat.le_of_ble_eq_true rfl) dL_law_931 hc (fun H locs hP hD hS => ?_)
  refine lv_istore (lv' := [(6, .int v), (5, .int r), (4, .int i), (0, .ref b), (1, .ref (a o)), (2, .ref (a' o')), (3, .ref bo)]) hx hb dL_law_934 hl (by decide) rfl (fun ls hl => ?_)
  exact lTail C0 hc hcode hout hP hl dL_law_936 dL_law_937 dL_law_940 dL_law_942 dL_law_947 dL_law_949 dL_law_952 dL_law_953 dL_law_954 dL_law_955 dL_law_957 dL_law_958 dL_law_959 dL_law_964 (by decide) (fun hl => kk u.1 T' u.2 H locs ls hG' hP hD hS hl)
theorem lawC_begin (C : lX p l s m c b L xs D cy tt) (hc : lC cells slots) (hGG : GG S T) (g1 : vp_in (i + 1) L) (g2 : vp_in (i + 2) L) (g3 : vp_in (i + 3) L) (hP : va_P D vwCl (oC cy bo f :: (wX11 cy a o S ++ wX12 cy a' o' T)) H) (hD : va_D (fun q => s.heap.size ≤ q) (oC cy bo f :: (wX11 cy a o S ++ wX12 cy a' o' T))) (hS : va_S (fun q => s.heap.size ≤ q) s.heap H locs) (hl : lv_has ls 7 [(4, .int i), (0, .ref b), (1, .ref (a o)), (2, .ref (a' o')), (3, .ref bo)]) (kk : lK p l e s m below meth c D cy b a o a' o' bo i cells slots Q) : W p l e room_1 s m #[Value.ref b] below meth c H locs cells slots Q (F0 m 967 ls []) := by
  have C0 := C
  obtain ⟨hx, hb, hml, hown, hts, hX, hbl, hl9, hG, hGX, hN⟩ := C
  have hA : ∀ q : Nat, s.heap.size ≤ q → (fun q : Nat => s.heap.size ≤ q) q := fun _ h => h
  obtain ⟨w1, e1, l1, u1⟩ := i32 (xs (i + 1).toNatClampNeg)
  have hk := K_begin hGG l1 u1
  rw [← e1] at hk
  obtain ⟨res, v, T', hw, hr2, hcode, hG', hout⟩ := brO hk (by decide) f
  refine lv_aload_n hx hb dL_law_967 rfl (lv_at hl 2 rfl) ?_
  refine lRd (k := 1) C0 hS (lv_at hl 1 rfl) (lv_at hl 0 rfl) (by decide) g1 dL_law_968 dL_law_969 dL_law_971 dL_law_972 dL_law_973 ?_
  refine lv_aload_n hx hb dL_law_974 rfl (lv_at hl 4 rfl) ?_
  refine lcW hG hGX hN hP hD hS hA (mc := 2) (ms := 12) (fun h1 h2 => vx_runSX (As := [.ref (a o), .int (xs (i + 1).toNatClampNeg), .ref bo]) (rest := []) ⟨hx, hb, hml, hown, hts⟩ (qL_begin l hl9 D cy tt a o bo S (xs (i + 1).toNatClampNeg) f H.size res hw) (vx_cwSW 3 hts gL_law_L_begin rfl rfl rfl (by decide +kernel) ⟨Nat.le_of_ble_eq_true rfl, Nat.le_of_ble_eq_true rfl⟩) ⟨h1, h2⟩ rfl rfl hl.1 rfl (lv_room (Nat.le_of_ble_eq_true rfl)) dL_law_975 (lRm hc (by decide) (by decide))) (c2 := cells + 5) (s2 := slots + 30) (Nat.add_le_add_left (by decide) _) (Nat.add_le_add_left (by decide) _) (fun r u H locs hq hP hD hS => ?_)
  have hq : (r, u) = res := hq
  subst hq
  have hcode : gX12_code T' = r := hcode
  have hG' : GG u.1 T' := hG'
  refine lv_istore (lv' := [(5, .int r), (4, .int i), (0, .ref b), (1, .ref (a o)), (2, .ref (a' o')), (3, .ref bo)]) hx hb dL_law_978 hl (by decide) rfl (fun ls hl => ?_)
  refine lv_aload_n hx hb dL_law_980 rfl (lv_at hl 4 rfl) ?_
  refine lRd (k := 1) C0 hS (lv_at hl 2 rfl) (lv_at hl 1 rfl) (by decide) g1 dL_law_981 dL_law_982 dL_law_984 dL_law_985 dL_law_986 ?_
  refine smVi (As := [.int (xs (i + 1).toNatClampNeg)]) (rest := []) (ws' := oC cy bo u.2 :: (wX11 cy a o u.1 ++ wX12 cy a' o' T')) (q0 := 0) (ci := 12) (qX12_begin l D cy a' o' T (xs (i + 1).toNatClampNeg) H.size (v, T') hr2) ⟨hx, hb, hml, hown, hts⟩ (cwV 1 hts gL_law_X12_begin rfl rfl rfl (by decide +kernel) ⟨Nat.le_of_ble_eq_true rfl, Nat.le_of_ble_eq_true rfl⟩) hG hP hD hS hA (pmT cy a o bo u.1 u.2 (wX12 cy a' o' T)) (pmT cy a o bo u.1 u.2 (wX12 cy a' o' T')) rfl rfl rfl hl.1 rfl (Nat.le_of_ble_eq_true rfl) dL_law_987 hc (fun H locs hP hD hS => ?_)
  refine lv_istore (lv' := [(6, .int v), (5, .int r), (4, .int i), (0, .ref b), (1, .ref (a o)), (2, .ref (a' o')), (3, .ref bo)]) hx hb dL_law_990 hl (by decide) rfl (fun ls hl => ?_)
  exact lTail C0 hc hcode hout hP hl dL_law_992 dL_law_993 dL_law_996 dL_law_998 dL_law_1003 dL_law_1005 dL_law_1008 dL_law_1009 dL_law_1010 dL_law_1011 dL_law_1013 dL_law_1014 dL_law_1015 dL_law_1020 (by decide) (fun hl => kk u.1 T' u.2 H locs ls hG' hP hD hS hl)
theorem lawC_play (C : lX p l s m c b L xs D cy tt) (hc : lC cells slots) (hGG : GG S T) (g1 : vp_in (i + 1) L) (g2 : vp_in (i + 2) L) (g3 : vp_in (i + 3) L) (hP : va_P D vwCl (oC cy bo f :: (wX11 cy a o S ++ wX12 cy a' o' T)) H) (hD : va_D (fun q => s.heap.size ≤ q) (oC cy bo f :: (wX11 cy a o S ++ wX12 cy a' o' T))) (hS : va_S (fun q => s.heap.size ≤ q) s.heap H locs) (hl : lv_has ls 7 [(4, .int i), (0, .ref b), (1, .ref (a o)), (2, .ref (a' o')), (3, .ref bo)]) (kk : lK p l e s m below meth c D cy b a o a' o' bo i cells slots Q) : W p l e room_1 s m #[Value.ref b] below meth c H locs cells slots Q (F0 m 1023 ls []) := by
  have C0 := C
  obtain ⟨hx, hb, hml, hown, hts, hX, hbl, hl9, hG, hGX, hN⟩ := C
  have hA : ∀ q : Nat, s.heap.size ≤ q → (fun q : Nat => s.heap.size ≤ q) q := fun _ h => h
  obtain ⟨w1, e1, l1, u1⟩ := i32 (xs (i + 1).toNatClampNeg)
  have hk := K_play hGG l1 u1
  rw [← e1] at hk
  obtain ⟨res, v, T', hw, hr2, hcode, hG', hout⟩ := brO hk (by decide) f
  refine lv_aload_n hx hb dL_law_1023 rfl (lv_at hl 2 rfl) ?_
  refine lRd (k := 1) C0 hS (lv_at hl 1 rfl) (lv_at hl 0 rfl) (by decide) g1 dL_law_1024 dL_law_1025 dL_law_1027 dL_law_1028 dL_law_1029 ?_
  refine lv_aload_n hx hb dL_law_1030 rfl (lv_at hl 4 rfl) ?_
  refine lcW hG hGX hN hP hD hS hA (mc := 2) (ms := 12) (fun h1 h2 => vx_runSX (As := [.ref (a o), .int (xs (i + 1).toNatClampNeg), .ref bo]) (rest := []) ⟨hx, hb, hml, hown, hts⟩ (qL_play l hl9 D cy tt a o bo S (xs (i + 1).toNatClampNeg) f H.size res hw) (vx_cwSW 3 hts gL_law_L_play rfl rfl rfl (by decide +kernel) ⟨Nat.le_of_ble_eq_true rfl, Nat.le_of_ble_eq_true rfl⟩) ⟨h1, h2⟩ rfl rfl hl.1 rfl (lv_room (Nat.le_of_ble_eq_true rfl)) dL_law_1031 (lRm hc (by decide) (by decide))) (c2 := cells + 5) (s2 := slots + 30) (Nat.add_le_add_left (by decide) _) (Nat.add_le_add_left (by decide) _) (fun r u H locs hq hP hD hS => ?_)
  have hq : (r, u) = res := hq
  subst hq
  have hcode : gX12_code T' = r := hcode
  have hG' : GG u.1 T' := hG'
  refine lv_istore (lv' := [(5, .int r), (4, .int i), (0, .ref b), (1, .ref (a o)), (2, .ref (a' o')), (3, .ref bo)]) hx hb dL_law_1034 hl (by decide) rfl (fun ls hl => ?_)
  refine lv_aload_n hx hb dL_law_1036 rfl (lv_at hl 4 rfl) ?_
  refine lRd (k := 1) C0 hS (lv_at hl 2 rfl) (lv_at hl 1 rfl) (by decide) g1 dL_law_1037 dL_law_1038 dL_law_1040 dL_law_1041 dL_law_1042 ?_
  refine smVi (As := [.int (xs (i + 1).toNatClampNeg)]) (rest := []) (ws' := oC cy bo u.2 :: (wX11 cy a o u.1 ++ wX12 cy a' o' T')) (q0 := 0) (ci := 12) (qX12_play l D cy a' o' T (xs (i + 1).toNatClampNeg) H.size (v, T') hr2) ⟨hx, hb, hml, hown, hts⟩ (cwV 1 hts gL_law_X12_play rfl rfl rfl (by decide +kernel) ⟨Nat.le_of_ble_eq_true rfl, Nat.le_of_ble_eq_true rfl⟩) hG hP hD hS hA (pmT cy a o bo u.1 u.2 (wX12 cy a' o' T)) (pmT cy a o bo u.1 u.2 (wX12 cy a' o' T')) rfl rfl rfl hl.1 rfl (Nat.le_of_ble_eq_true rfl) dL_law_1043 hc (fun H locs hP hD hS => ?_)
  refine lv_istore (lv' := [(6, .int v), (5, .int r), (4, .int i), (0, .ref b), (1, .ref (a o)), (2, .ref (a' o')), (3, .ref bo)]) hx hb dL_law_1046 hl (by decide) rfl (fun ls hl => ?_)
  exact lTail C0 hc hcode hout hP hl dL_law_1048 dL_law_1049 dL_law_1052 dL_law_1054 dL_law_1059 dL_law_1061 dL_law_1064 dL_law_1065 dL_law_1066 dL_law_1067 dL_law_1069 dL_law_1070 dL_law_1071 dL_law_1076 (by decide) (fun hl => kk u.1 T' u.2 H locs ls hG' hP hD hS hl)
theorem lawC_mark (C : lX p l s m c b L xs D cy tt) (hc : lC cells slots) (hGG : GG S T) (g1 : vp_in (i + 1) L) (g2 : vp_in (i + 2) L) (g3 : vp_in (i + 3) L) (hP : va_P D vwCl (oC cy bo f :: (wX11 cy a o S ++ wX12 cy a' o' T)) H) (hD : va_D (fun q => s.heap.size ≤ q) (oC cy bo f :: (wX11 cy a o S ++ wX12 cy a' o' T))) (hS : va_S (fun q => s.heap.size ≤ q) s.heap H locs) (hl : lv_has ls 7 [(4, .int i), (0, .ref b), (1, .ref (a o)), (2, .ref (a' o')), (3, .ref bo)]) (kk : lK p l e s m below meth c D cy b a o a' o' bo i cells slots Q) : W p l e room_1 s m #[Value.ref b] below meth c H locs cells slots Q (F0 m 1079 ls []) := by
  have C0 := C
  obtain ⟨hx, hb, hml, hown, hts, hX, hbl, hl9, hG, hGX, hN⟩ := C
  have hA : ∀ q : Nat, s.heap.size ≤ q → (fun q : Nat => s.heap.size ≤ q) q := fun _ h => h
  obtain ⟨w1, e1, l1, u1⟩ := i32 (xs (i + 1).toNatClampNeg)
  obtain ⟨w2, e2, l2, u2⟩ := i32 (xs (i + 2).toNatClampNeg)
  obtain ⟨w3, e3, l3, u3⟩ := i32 (xs (i + 3).toNatClampNeg)
  have hk := K_mark hGG l1 u1 l2 u2 l3 u3
  rw [← e1, ← e2, ← e3] at hk
  obtain ⟨res, v, T', hw, hr2, hcode, hG', hout⟩ := brO hk (by decide) f
  refine lv_aload_n hx hb dL_law_1079 rfl (lv_at hl 2 rfl) ?_
  refine lRd (k := 1) C0 hS (lv_at hl 1 rfl) (lv_at hl 0 rfl) (by decide) g1 dL_law_1080 dL_law_1081 dL_law_1083 dL_law_1084 dL_law_1085 ?_
  refine lRd (k := 2) C0 hS (lv_at hl 1 rfl) (lv_at hl 0 rfl) (by decide) g2 dL_law_1086 dL_law_1087 dL_law_1089 dL_law_1090 dL_law_1091 ?_
  refine lRd (k := 3) C0 hS (lv_at hl 1 rfl) (lv_at hl 0 rfl) (by decide) g3 dL_law_1092 dL_law_1093 dL_law_1095 dL_law_1096 dL_law_1097 ?_
  refine lv_aload_n hx hb dL_law_1098 rfl (lv_at hl 4 rfl) ?_
  refine lcW hG hGX hN hP hD hS hA (mc := 4) (ms := 24) (fun h1 h2 => vx_runSX (As := [.ref (a o), .int (xs (i + 1).toNatClampNeg), .int (xs (i + 2).toNatClampNeg), .int (xs (i + 3).toNatClampNeg), .ref bo]) (rest := []) ⟨hx, hb, hml, hown, hts⟩ (qL_mark l hl9 D cy tt a o bo S (xs (i + 1).toNatClampNeg) (xs (i + 2).toNatClampNeg) (xs (i + 3).toNatClampNeg) f H.size res hw) (vx_cwSW 5 hts gL_law_L_mark rfl rfl rfl (by decide +kernel) ⟨Nat.le_of_ble_eq_true rfl, Nat.le_of_ble_eq_true rfl⟩) ⟨h1, h2⟩ rfl rfl hl.1 rfl (lv_room (Nat.le_of_ble_eq_true rfl)) dL_law_1099 (lRm hc (by decide) (by decide))) (c2 := cells + 5) (s2 := slots + 30) (Nat.add_le_add_left (by decide) _) (Nat.add_le_add_left (by decide) _) (fun r u H locs hq hP hD hS => ?_)
  have hq : (r, u) = res := hq
  subst hq
  have hcode : gX12_code T' = r := hcode
  have hG' : GG u.1 T' := hG'
  refine lv_istore (lv' := [(5, .int r), (4, .int i), (0, .ref b), (1, .ref (a o)), (2, .ref (a' o')), (3, .ref bo)]) hx hb dL_law_1102 hl (by decide) rfl (fun ls hl => ?_)
  refine lv_aload_n hx hb dL_law_1104 rfl (lv_at hl 4 rfl) ?_
  refine lRd (k := 1) C0 hS (lv_at hl 2 rfl) (lv_at hl 1 rfl) (by decide) g1 dL_law_1105 dL_law_1106 dL_law_1108 dL_law_1109 dL_law_1110 ?_
  refine lRd (k := 2) C0 hS (lv_at hl 2 rfl) (lv_at hl 1 rfl) (by decide) g2 dL_law_1111 dL_law_1112 dL_law_1114 dL_law_1115 dL_law_1116 ?_
  refine lRd (k := 3) C0 hS (lv_at hl 2 rfl) (lv_at hl 1 rfl) (by decide) g3 dL_law_1117 dL_law_1118 dL_law_1120 dL_law_1121 dL_law_1122 ?_
  refine smVi (As := [.int (xs (i + 1).toNatClampNeg), .int (xs (i + 2).toNatClampNeg), .int (xs (i + 3).toNatClampNeg)]) (rest := []) (ws' := oC cy bo u.2 :: (wX11 cy a o u.1 ++ wX12 cy a' o' T')) (q0 := 0) (ci := 12) (qX12_mark l D cy a' o' T (xs (i + 1).toNatClampNeg) (xs (i + 2).toNatClampNeg) (xs (i + 3).toNatClampNeg) H.size (v, T') hr2) ⟨hx, hb, hml, hown, hts⟩ (cwV 3 hts gL_law_X12_mark rfl rfl rfl (by decide +kernel) ⟨Nat.le_of_ble_eq_true rfl, Nat.le_of_ble_eq_true rfl⟩) hG hP hD hS hA (pmT cy a o bo u.1 u.2 (wX12 cy a' o' T)) (pmT cy a o bo u.1 u.2 (wX12 cy a' o' T')) rfl rfl rfl hl.1 rfl (Nat.le_of_ble_eq_true rfl) dL_law_1123 hc (fun H locs hP hD hS => ?_)
  refine lv_istore (lv' := [(6, .int v), (5, .int r), (4, .int i), (0, .ref b), (1, .ref (a o)), (2, .ref (a' o')), (3, .ref bo)]) hx hb dL_law_1126 hl (by decide) rfl (fun ls hl => ?_)
  exact lTail C0 hc hcode hout hP hl dL_law_1128 dL_law_1129 dL_law_1132 dL_law_1134 dL_law_1139 dL_law_1141 dL_law_1144 dL_law_1145 dL_law_1146 dL_law_1147 dL_law_1149 dL_law_1150 dL_law_1151 dL_law_1156 (by decide) (fun hl => kk u.1 T' u.2 H locs ls hG' hP hD hS hl)
theorem lawC_abstain (C : lX p l s m c b L xs D cy tt) (hc : lC cells slots) (hGG : GG S T) (g1 : vp_in (i + 1) L) (g2 : vp_in (i + 2) L) (g3 : vp_in (i + 3) L) (hP : va_P D vwCl (oC cy bo f :: (wX11 cy a o S ++ wX12 cy a' o' T)) H) (hD : va_D (fun q => s.heap.size ≤ q) (oC cy bo f :: (wX11 cy a o S ++ wX12 cy a' o' T))) (hS : va_S (fun q => s.heap.size ≤ q) s.heap H locs) (hl : lv_has ls 7 [(4, .int i), (0, .ref b), (1, .ref (a o)), (2, .ref (a' o')), (3, .ref bo)]) (kk : lK p l e s m below meth c D cy b a o a' o' bo i cells slots Q) : W p l e room_1 s m #[Value.ref b] below meth c H locs cells slots Q (F0 m 1159 ls []) := by
  have C0 := C
  obtain ⟨hx, hb, hml, hown, hts, hX, hbl, hl9, hG, hGX, hN⟩ := C
  have hA : ∀ q : Nat, s.heap.size ≤ q → (fun q : Nat => s.heap.size ≤ q) q := fun _ h => h
  obtain ⟨w1, e1, l1, u1⟩ := i32 (xs (i + 1).toNatClampNeg)
  obtain ⟨w2, e2, l2, u2⟩ := i32 (xs (i + 2).toNatClampNeg)
  have hk := K_abstain hGG l1 u1 l2 u2
  rw [← e1, ← e2] at hk
  obtain ⟨res, v, T', hw, hr2, hcode, hG', hout⟩ := brO hk (by decide) f
  refine lv_aload_n hx hb dL_law_1159 rfl (lv_at hl 2 rfl) ?_
  refine lRd (k := 1) C0 hS (lv_at hl 1 rfl) (lv_at hl 0 rfl) (by decide) g1 dL_law_1160 dL_law_1161 dL_law_1163 dL_law_1164 dL_law_1165 ?_
  refine lRd (k := 2) C0 hS (lv_at hl 1 rfl) (lv_at hl 0 rfl) (by decide) g2 dL_law_1166 dL_law_1167 dL_law_1169 dL_law_1170 dL_law_1171 ?_
  refine lv_aload_n hx hb dL_law_1172 rfl (lv_at hl 4 rfl) ?_
  refine lcW hG hGX hN hP hD hS hA (mc := 3) (ms := 18) (fun h1 h2 => vx_runSX (As := [.ref (a o), .int (xs (i + 1).toNatClampNeg), .int (xs (i + 2).toNatClampNeg), .ref bo]) (rest := []) ⟨hx, hb, hml, hown, hts⟩ (qL_abstain l hl9 D cy tt a o bo S (xs (i + 1).toNatClampNeg) (xs (i + 2).toNatClampNeg) f H.size res hw) (vx_cwSW 4 hts gL_law_L_abstain rfl rfl rfl (by decide +kernel) ⟨Nat.le_of_ble_eq_true rfl, Nat.le_of_ble_eq_true rfl⟩) ⟨h1, h2⟩ rfl rfl hl.1 rfl (lv_room (Nat.le_of_ble_eq_true rfl)) dL_law_1173 (lRm hc (by decide) (by decide))) (c2 := cells + 5) (s2 := slots + 30) (Nat.add_le_add_left (by decide) _) (Nat.add_le_add_left (by decide) _) (fun r u H locs hq hP hD hS => ?_)
  have hq : (r, u) = res := hq
  subst hq
  have hcode : gX12_code T' = r := hcode
  have hG' : GG u.1 T' := hG'
  refine lv_istore (lv' := [(5, .int r), (4, .int i), (0, .ref b), (1, .ref (a o)), (2, .ref (a' o')), (3, .ref bo)]) hx hb dL_law_1176 hl (by decide) rfl (fun ls hl => ?_)
  refine lv_aload_n hx hb dL_law_1178 rfl (lv_at hl 4 rfl) ?_
  refine lRd (k := 1) C0 hS (lv_at hl 2 rfl) (lv_at hl 1 rfl) (by decide) g1 dL_law_1179 dL_law_1180 dL_law_1182 dL_law_1183 dL_law_1184 ?_
  refine lRd (k := 2) C0 hS (lv_at hl 2 rfl) (lv_at hl 1 rfl) (by decide) g2 dL_law_1185 dL_law_1186 dL_law_1188 dL_law_1189 dL_law_1190 ?_
  refine smVi (As := [.int (xs (i + 1).toNatClampNeg), .int (xs (i + 2).toNatClampNeg)]) (rest := []) (ws' := oC cy bo u.2 :: (wX11 cy a o u.1 ++ wX12 cy a' o' T')) (q0 := 0) (ci := 12) (qX12_abstain l D cy a' o' T (xs (i + 1).toNatClampNeg) (xs (i + 2).toNatClampNeg) H.size (v, T') hr2) ⟨hx, hb, hml, hown, hts⟩ (cwV 2 hts gL_law_X12_abstain rfl rfl rfl (by decide +kernel) ⟨Nat.le_of_ble_eq_true rfl, Nat.le_of_ble_eq_true rfl⟩) hG hP hD hS hA (pmT cy a o bo u.1 u.2 (wX12 cy a' o' T)) (pmT cy a o bo u.1 u.2 (wX12 cy a' o' T')) rfl rfl rfl hl.1 rfl (Nat.le_of_ble_eq_true rfl) dL_law_1191 hc (fun H locs hP hD hS => ?_)
  refine lv_istore (lv' := [(6, .int v), (5, .int r), (4, .int i), (0, .ref b), (1, .ref (a o)), (2, .ref (a' o')), (3, .ref bo)]) hx hb dL_law_1194 hl (by decide) rfl (fun ls hl => ?_)
  exact lTail C0 hc hcode hout hP hl dL_law_1196 dL_law_1197 dL_law_1200 dL_law_1202 dL_law_1207 dL_law_1209 dL_law_1212 dL_law_1213 dL_law_1214 dL_law_1215 dL_law_1217 dL_law_1218 dL_law_1219 dL_law_1224 (by decide) (fun hl => kk u.1 T' u.2 H locs ls hG' hP hD hS hl)
theorem lawC_close (C : lX p l s m c b L xs D cy tt) (hc : lC cells slots) (hGG : GG S T) (g1 : vp_in (i + 1) L) (g2 : vp_in (i + 2) L) (g3 : vp_in (i + 3) L) (hP : va_P D vwCl (oC cy bo f :: (wX11 cy a o S ++ wX12 cy a' o' T)) H) (hD : va_D (fun q => s.heap.size ≤ q) (oC cy bo f :: (wX11 cy a o S ++ wX12 cy a' o' T))) (hS : va_S (fun q => s.heap.size ≤ q) s.heap H locs) (hl : lv_has ls 7 [(4, .int i), (0, .ref b), (1, .ref (a o)), (2, .ref (a' o')), (3, .ref bo)]) (kk : lK p l e s m below meth c D cy b a o a' o' bo i cells slots Q) : W p l e room_1 s m #[Value.ref b] below meth c H locs cells slots Q (F0 m 1227 ls []) := by
  have C0 := C
  obtain ⟨hx, hb, hml, hown, hts, hX, hbl, hl9, hG, hGX, hN⟩ := C
  have hA : ∀ q : Nat, s.heap.size ≤ q → (fun q : Nat => s.heap.size ≤ q) q := fun _ h => h
  have hk := K_close hGG
  obtain ⟨res, v, T', hw, hr2, hcode, hG', hout⟩ := brO hk (by decide) f
  refine lv_aload_n hx hb dL_law_1227 rfl (lv_at hl 2 rfl) ?_
  refine lv_aload_n hx hb dL_law_1228 rfl (lv_at hl 4 rfl) ?_
  refine lcW hG hGX hN hP hD hS hA (mc := 1) (ms := 6) (fun h1 h2 => vx_runSX (As := [.ref (a o), .ref bo]) (rest := []) ⟨hx, hb, hml, hown, hts⟩ (qL_close l hl9 D cy tt a o bo S  f H.size res hw) (vx_cwSW 2 hts gL_law_L_close rfl rfl rfl (by decide +kernel) ⟨Nat.le_of_ble_eq_true rfl, Nat.le_of_ble_eq_true rfl⟩) ⟨h1, h2⟩ rfl rfl hl.1 rfl (lv_room (Nat.le_of_ble_eq_true rfl)) dL_law_1229 (lRm hc (by decide) (by decide))) (c2 := cells + 5) (s2 := slots + 30) (Nat.add_le_add_left (by decide) _) (Nat.add_le_add_left (by decide) _) (fun r u H locs hq hP hD hS => ?_)
  have hq : (r, u) = res := hq
  subst hq
  have hcode : gX12_code T' = r := hcode
  have hG' : GG u.1 T' := hG'
  refine lv_istore (lv' := [(5, .int r), (4, .int i), (0, .ref b), (1, .ref (a o)), (2, .ref (a' o')), (3, .ref bo)]) hx hb dL_law_1232 hl (by decide) rfl (fun ls hl => ?_)
  refine lv_aload_n hx hb dL_law_1234 rfl (lv_at hl 4 rfl) ?_
  refine smVi (As := []) (rest := []) (ws' := oC cy bo u.2 :: (wX11 cy a o u.1 ++ wX12 cy a' o' T')) (q0 := 0) (ci := 12) (qX12_close l D cy a' o' T  H.size (v, T') hr2) ⟨hx, hb, hml, hown, hts⟩ (cwV 0 hts gL_law_X12_close rfl rfl rfl (by decide +kernel) ⟨Nat.le_of_ble_eq_true rfl, Nat.le_of_ble_eq_true rfl⟩) hG hP hD hS hA (pmT cy a o bo u.1 u.2 (wX12 cy a' o' T)) (pmT cy a o bo u.1 u.2 (wX12 cy a' o' T')) rfl rfl rfl hl.1 rfl (Nat.le_of_ble_eq_true rfl) dL_law_1235 hc (fun H locs hP hD hS => ?_)
  refine lv_istore (lv' := [(6, .int v), (5, .int r), (4, .int i), (0, .ref b), (1, .ref (a o)), (2, .ref (a' o')), (3, .ref bo)]) hx hb dL_law_1238 hl (by decide) rfl (fun ls hl => ?_)
  exact lTail C0 hc hcode hout hP hl dL_law_1240 dL_law_1241 dL_law_1244 dL_law_1246 dL_law_1251 dL_law_1253 dL_law_1256 dL_law_1257 dL_law_1258 dL_law_1259 dL_law_1261 dL_law_1262 dL_law_1263 dL_law_1268 (by decide) (fun hl => kk u.1 T' u.2 H locs ls hG' hP hD hS hl)
end LT
