def DX12_init_L156 (k14 : SX12 → Option (SX12)) : Nat → Int32 → SX12 → Option (SX12)
  | 0, _, _ => none
  | f + 1, v1_17, S13 => (if ((48 : Int32) ≤ v1_17) then k14 S13 else gd (gIn ((666 : Int32) + v1_17) 714) (lt (uX12_m S13 (upd (gX12_m S13) ((((666 : Int32) + v1_17)).toNatClampNeg) (-1 : Int32))) (fun S19 => DX12_init_L156 k14 f (v1_17 + (1 : Int32)) S19)))

def DX12_init_L76 (k8 : SX12 → Option (SX12)) : Nat → Int32 → SX12 → Option (SX12)
  | 0, _, _ => none
  | f + 1, v1_22, S7 => (if ((4 : Int32) ≤ v1_22) then k8 S7 else gd (gIn (((102 : Int32) + ((6 : Int32) * v1_22)) + (0 : Int32)) 714) (lt (uX12_m S7 (upd (gX12_m S7) (((((102 : Int32) + ((6 : Int32) * v1_22)) + (0 : Int32))).toNatClampNeg) (1 : Int32))) (fun S24 => gd (gIn (((102 : Int32) + ((6 : Int32) * v1_22)) + (1 : Int32)) 714) (lt (uX12_m S24 (upd (gX12_m S24) (((((102 : Int32) + ((6 : Int32) * v1_22)) + (1 : Int32))).toNatClampNeg) (180 : Int32))) (fun S27 => gd (gIn (((102 : Int32) + ((6 : Int32) * v1_22)) + (3 : Int32)) 714) (lt (uX12_m S27 (upd (gX12_m S27) (((((102 : Int32) + ((6 : Int32) * v1_22)) + (3 : Int32))).toNatClampNeg) (4 : Int32))) (fun S30 => gd (gIn (((102 : Int32) + ((6 : Int32) * v1_22)) + (5 : Int32)) 714) (lt (uX12_m S30 (upd (gX12_m S30) (((((102 : Int32) + ((6 : Int32) * v1_22)) + (5 : Int32))).toNatClampNeg) (12 : Int32))) (fun S33 => DX12_init_L76 k8 f (v1_22 + (1 : Int32)) S33)))))))))

def DX12_init (S : SX12) : Option (SX12) := lt (uX12_m S (upd (gX12_m S) 0 (5 : Int32))) (fun S1 => lt (uX12_m S1 (upd (gX12_m S1) 1 (1 : Int32))) (fun S3 => lt (uX12_m S3 (upd (gX12_m S3) 2 (50 : Int32))) (fun S5 => DX12_init_L76 (fun (S10 : SX12) => (DX12_clearMarks S10).bind fun x11 => (DX12_init_L156 (fun (S16 : SX12) => some S16) fu (0 : Int32) x11)) fu (0 : Int32) S5)))

set_option maxHeartbeats 4000000 in
set_option maxRecDepth 100000 in
theorem qX12_init (l : Launch) (D : va_G) (cy : Nat → ClassId) (o h0 : Nat) (sz : Nat) (rs : SX12) (h : DX12_init (((fun _ => 0), (fun _ => 0), 0, (fun _ => 0), 0, 0, (fun _ => 0), (fun _ => 0), (fun _ => 0), 0, 0, 0) : SX12) = some rs) : Met l yX12_init wsX12_init ({ frames := 2, cells := 6, slots := 3629, locals := 60 } : Room) (mP D cy sz [.ref h0] [(h0, .inr (12, [.null, .null, .int 0, .null, .int 0, .int 0, .null, .null, .null, .int 0, .int 0, .long 0]))]) (va_Qv (fun (u : Nat → Nat) => u o = h0) (fun u t => mB D sz [(h0, .inr (12, [.null, .null, .int 0, .null, .int 0, .int 0, .null, .null, .null, .int 0, .int 0, .long 0]))] (wX12 cy u o rs) t) (va_A [(h0, .inr (12, [.null, .null, .int 0, .null, .int 0, .int 0, .null, .null, .null, .int 0, .int 0, .long 0]))] sz)) 6 3629 (va_A [(h0, .inr (12, [.null, .null, .int 0, .null, .int 0, .int 0, .null, .null, .null, .int 0, .int 0, .long 0]))] sz) := by
  refine Met.ofW (cc := cX12_init) (maxL := 2) (ret := none) (by decide) rfl ?_
  intro p e s m args below meth c s₁ B hml hv
  obtain ⟨rfl, hsz, hP, hG, hD0⟩ := hv
  have hx := B.exec
  have hb := B.bytes
  have hr := B.returns
  have hts := atoms_spec (ws := wsX12_init) B.pre
  have hown : s.vm.findClass RX12 = some m.cls := findClass_of_methodNamed B.named
  have hlocks := B.notSynchronized
  have hin : meth.name = "<init>" := (name_of_methodNamed B.named B.method).1
  have hK := hG.1
  subst hsz
  have hD := hD0.self (sz := s.heap.size)
  generalize hAe : va_A [(h0, .inr (12, [.null, .null, .int 0, .null, .int 0, .int 0, .null, .null, .null, .int 0, .int 0, .long 0]))] s.heap.size = A at hD ⊢
  have hA : ∀ q : Nat, s.heap.size ≤ q → A q := fun q h => by rw [← hAe]; exact Or.inr h
  have hS : va_S A s.heap s.heap [] := va_S.rf
  have hP : va_P D vwCl [(h0, .inr (12, [.null, .null, .int 0, .null, .int 0, .int 0, .null, .null, .null, .int 0, .int 0, .long 0]))] s.heap := hP
  have hl := lv_entry ([.ref h0]) (n := 2) (Nat.le_of_ble_eq_true rfl)
  rw [lg_entry_eq]
  generalize (lg_sl ([.ref h0]) ++ List.replicate (2 - (lg_sl ([.ref h0])).length) Slot.unset).toArray = ls at hl ⊢
  have hl : lv_has ls 2 [(0, .ref h0)] := hl
  refine lv_aload_n hx hb dX12_init_0 rfl (lv_at hl 0 rfl) ?_
  refine W.objInit hx hb hown (hts (.methodLink RX12 1 objectInit) (by decide +kernel)) (hts (.instanceMethod objectInit) (by decide +kernel)) (hts (.code objectInit ⟨#[0xb1]⟩ 1 none) (by decide +kernel)) rfl (by rw [hml]; exact hl.1) rfl dX12_init_1 (Nat.le_of_ble_eq_true rfl) (Nat.le_of_ble_eq_true rfl) ?_
  refine W.eq (g2 := F0 m 4 ls []) rfl ?_
  refine lv_aload_n hx hb dX12_init_4 rfl (lv_at hl 0 rfl) ?_
  refine lv_sipush (v := (714 : Int32)) hx hb dX12_init_5 (by decide) ?_
  refine va_newi (N' := 714) hx hb (hts (.arrayClass .int) (by decide +kernel)) hK hP hD hS hA (by decide) (by decide) (by decide) (Nat.le_of_ble_eq_true rfl) (Nat.le_of_ble_eq_true rfl) dX12_init_8 (fun q8 H hP hD hS => ?_)
  have hP : va_P D vwCl [(h0, .inr (12, [.null, .null, .int 0, .null, .int 0, .int 0, .null, .null, .null, .int 0, .int 0, .long 0])), (q8, .inl (cy 0, 714, .inl (fun _ => 0)))] H := hP
  have hD : va_D A [(h0, .inr (12, [.null, .null, .int 0, .null, .int 0, .int 0, .null, .null, .null, .int 0, .int 0, .long 0])), (q8, .inl (cy 0, 714, .inl (fun _ => 0)))] := hD
  refine va_putF (D := D) (ci := 12) (v := .ref q8) (ty := .array .int) (C := RX12) (T := TX12) (N := 12) hx hb hts (by decide +kernel) tyX12 tyX12_ok nmX12 hown hK hP hD hS 0 rfl rfl 0 (by decide) (hts (.fieldLink RX12 7 "PianoRoundsModel" "m" "[I") (by decide +kernel)) (fun _ h9 => h9) rfl hin rfl (by decide +kernel) rfl rfl (Nat.le_of_ble_eq_true rfl) dX12_init_10 (fun H locs hP hD hS => ?_)
  have hP : va_P D vwCl [(h0, .inr (12, [.ref q8, .null, .int 0, .null, .int 0, .int 0, .null, .null, .null, .int 0, .int 0, .long 0])), (q8, .inl (cy 0, 714, .inl (fun _ => 0)))] H := hP
  have hD : va_D A [(h0, .inr (12, [.ref q8, .null, .int 0, .null, .int 0, .int 0, .null, .null, .null, .int 0, .int 0, .long 0])), (q8, .inl (cy 0, 714, .inl (fun _ => 0)))] := hD
  refine lv_aload_n hx hb dX12_init_13 rfl (lv_at hl 0 rfl) ?_
  refine lv_sipush (v := (2856 : Int32)) hx hb dX12_init_14 (by decide) ?_
  refine va_newi (N' := 2856) hx hb (hts (.arrayClass .int) (by decide +kernel)) hK hP hD hS hA (by decide) (by decide) (by decide) (Nat.le_of_ble_eq_true rfl) (Nat.le_of_ble_eq_true rfl) dX12_init_17 (fun q17 H hP hD hS => ?_)
  have hP : va_P D vwCl [(h0, .inr (12, [.ref q8, .null, .int 0, .null, .int 0, .int 0, .null, .null, .null, .int 0, .int 0, .long 0])), (q8, .inl (cy 0, 714, .inl (fun _ => 0))), (q17, .inl (cy 0, 2856, .inl (fun _ => 0)))] H := hP
  have hD : va_D A [(h0, .inr (12, [.ref q8, .null, .int 0, .null, .int 0, .int 0, .null, .null, .null, .int 0, .int 0, .long 0])), (q8, .inl (cy 0, 714, .inl (fun _ => 0))), (q17, .inl (cy 0, 2856, .inl (fun _ => 0)))] := hD
  refine va_putF (D := D) (ci := 12) (v := .ref q17) (ty := .array .int) (C := RX12) (T := TX12) (N := 12) hx hb hts (by decide +kernel) tyX12 tyX12_ok nmX12 hown hK hP hD hS 0 rfl rfl 1 (by decide) (hts (.fieldLink RX12 13 "PianoRoundsModel" "saved" "[I") (by decide +kernel)) (fun _ h9 => h9) rfl hin rfl (by decide +kernel) rfl rfl (Nat.le_of_ble_eq_true rfl) dX12_init_19 (fun H locs hP hD hS => ?_)
  have hP : va_P D vwCl [(h0, .inr (12, [.ref q8, .ref q17, .int 0, .null, .int 0, .int 0, .null, .null, .null, .int 0, .int 0, .long 0])), (q8, .inl (cy 0, 714, .inl (fun _ => 0))), (q17, .inl (cy 0, 2856, .inl (fun _ => 0)))] H := hP
  have hD : va_D A [(h0, .inr (12, [.ref q8, .ref q17, .int 0, .null, .int 0, .int 0, .null, .null, .null, .int 0, .int 0, .long 0])), (q8, .inl (cy 0, 714, .inl (fun _ => 0))), (q17, .inl (cy 0, 2856, .inl (fun _ => 0)))] := hD
  refine lv_aload_n hx hb dX12_init_22 rfl (lv_at hl 0 rfl) ?_
  refine lv_bipush (v := (40 : Int32)) hx hb dX12_init_23 (by decide) ?_
  refine va_newi (N' := 40) hx hb (hts (.arrayClass .int) (by decide +kernel)) hK hP hD hS hA (by decide) (by decide) (by decide) (Nat.le_of_ble_eq_true rfl) (Nat.le_of_ble_eq_true rfl) dX12_init_25 (fun q25 H hP hD hS => ?_)
  have hP : va_P D vwCl [(h0, .inr (12, [.ref q8, .ref q17, .int 0, .null, .int 0, .int 0, .null, .null, .null, .int 0, .int 0, .long 0])), (q8, .inl (cy 0, 714, .inl (fun _ => 0))), (q17, .inl (cy 0, 2856, .inl (fun _ => 0))), (q25, .inl (cy 0, 40, .inl (fun _ => 0)))] H := hP
  have hD : va_D A [(h0, .inr (12, [.ref q8, .ref q17, .int 0, .null, .int 0, .int 0, .null, .null, .null, .int 0, .int 0, .long 0])), (q8, .inl (cy 0, 714, .inl (fun _ => 0))), (q17, .inl (cy 0, 2856, .inl (fun _ => 0))), (q25, .inl (cy 0, 40, .inl (fun _ => 0)))] := hD
  refine va_putF (D := D) (ci := 12) (v := .ref q25) (ty := .array .int) (C := RX12) (T := TX12) (N := 12) hx hb hts (by decide +kernel) tyX12 tyX12_ok nmX12 hown hK hP hD hS 0 rfl rfl 3 (by decide) (hts (.fieldLink RX12 16 "PianoRoundsModel" "text" "[I") (by decide +kernel)) (fun _ h9 => h9) rfl hin rfl (by decide +kernel) rfl rfl (Nat.le_of_ble_eq_true rfl) dX12_init_27 (fun H locs hP hD hS => ?_)
  have hP : va_P D vwCl [(h0, .inr (12, [.ref q8, .ref q17, .int 0, .ref q25, .int 0, .int 0, .null, .null, .null, .int 0, .int 0, .long 0])), (q8, .inl (cy 0, 714, .inl (fun _ => 0))), (q17, .inl (cy 0, 2856, .inl (fun _ => 0))), (q25, .inl (cy 0, 40, .inl (fun _ => 0)))] H := hP
  have hD : va_D A [(h0, .inr (12, [.ref q8, .ref q17, .int 0, .ref q25, .int 0, .int 0, .null, .null, .null, .int 0, .int 0, .long 0])), (q8, .inl (cy 0, 714, .inl (fun _ => 0))), (q17, .inl (cy 0, 2856, .inl (fun _ => 0))), (q25, .inl (cy 0, 40, .inl (fun _ => 0)))] := hD
  refine lv_aload_n hx hb dX12_init_30 rfl (lv_at hl 0 rfl) ?_
  refine lv_bipush (v := (12 : Int32)) hx hb dX12_init_31 (by decide) ?_
  refine va_newi (N' := 12) hx hb (hts (.arrayClass .int) (by decide +kernel)) hK hP hD hS hA (by decide) (by decide) (by decide) (Nat.le_of_ble_eq_true rfl) (Nat.le_of_ble_eq_true rfl) dX12_init_33 (fun q33 H hP hD hS => ?_)
  have hP : va_P D vwCl [(h0, .inr (12, [.ref q8, .ref q17, .int 0, .ref q25, .int 0, .int 0, .null, .null, .null, .int 0, .int 0, .long 0])), (q8, .inl (cy 0, 714, .inl (fun _ => 0))), (q17, .inl (cy 0, 2856, .inl (fun _ => 0))), (q25, .inl (cy 0, 40, .inl (fun _ => 0))), (q33, .inl (cy 0, 12, .inl (fun _ => 0)))] H := hP
  have hD : va_D A [(h0, .inr (12, [.ref q8, .ref q17, .int 0, .ref q25, .int 0, .int 0, .null, .null, .null, .int 0, .int 0, .long 0])), (q8, .inl (cy 0, 714, .inl (fun _ => 0))), (q17, .inl (cy 0, 2856, .inl (fun _ => 0))), (q25, .inl (cy 0, 40, .inl (fun _ => 0))), (q33, .inl (cy 0, 12, .inl (fun _ => 0)))] := hD
  refine va_putF (D := D) (ci := 12) (v := .ref q33) (ty := .array .int) (C := RX12) (T := TX12) (N := 12) hx hb hts (by decide +kernel) tyX12 tyX12_ok nmX12 hown hK hP hD hS 0 rfl rfl 6 (by decide) (hts (.fieldLink RX12 19 "PianoRoundsModel" "fate" "[I") (by decide +kernel)) (fun _ h9 => h9) rfl hin rfl (by decide +kernel) rfl rfl (Nat.le_of_ble_eq_true rfl) dX12_init_35 (fun H locs hP hD hS => ?_)
  have hP : va_P D vwCl [(h0, .inr (12, [.ref q8, .ref q17, .int 0, .ref q25, .int 0, .int 0, .ref q33, .null, .null, .int 0, .int 0, .long 0])), (q8, .inl (cy 0, 714, .inl (fun _ => 0))), (q17, .inl (cy 0, 2856, .inl (fun _ => 0))), (q25, .inl (cy 0, 40, .inl (fun _ => 0))), (q33, .inl (cy 0, 12, .inl (fun _ => 0)))] H := hP
  have hD : va_D A [(h0, .inr (12, [.ref q8, .ref q17, .int 0, .ref q25, .int 0, .int 0, .ref q33, .null, .null, .int 0, .int 0, .long 0])), (q8, .inl (cy 0, 714, .inl (fun _ => 0))), (q17, .inl (cy 0, 2856, .inl (fun _ => 0))), (q25, .inl (cy 0, 40, .inl (fun _ => 0))), (q33, .inl (cy 0, 12, .inl (fun _ => 0)))] := hD
  refine lv_aload_n hx hb dX12_init_38 rfl (lv_at hl 0 rfl) ?_
  refine lv_iconst (v := (3 : Int32)) hx hb dX12_init_39 (by decide) ?_
  refine va_newi (N' := 3) hx hb (hts (.arrayClass .int) (by decide +kernel)) hK hP hD hS hA (by decide) (by decide) (by decide) (Nat.le_of_ble_eq_true rfl) (Nat.le_of_ble_eq_true rfl) dX12_init_40 (fun q40 H hP hD hS => ?_)
  have hP : va_P D vwCl [(h0, .inr (12, [.ref q8, .ref q17, .int 0, .ref q25, .int 0, .int 0, .ref q33, .null, .null, .int 0, .int 0, .long 0])), (q8, .inl (cy 0, 714, .inl (fun _ => 0))), (q17, .inl (cy 0, 2856, .inl (fun _ => 0))), (q25, .inl (cy 0, 40, .inl (fun _ => 0))), (q33, .inl (cy 0, 12, .inl (fun _ => 0))), (q40, .inl (cy 0, 3, .inl (fun _ => 0)))] H := hP
  have hD : va_D A [(h0, .inr (12, [.ref q8, .ref q17, .int 0, .ref q25, .int 0, .int 0, .ref q33, .null, .null, .int 0, .int 0, .long 0])), (q8, .inl (cy 0, 714, .inl (fun _ => 0))), (q17, .inl (cy 0, 2856, .inl (fun _ => 0))), (q25, .inl (cy 0, 40, .inl (fun _ => 0))), (q33, .inl (cy 0, 12, .inl (fun _ => 0))), (q40, .inl (cy 0, 3, .inl (fun _ => 0)))] := hD
  refine va_putF (D := D) (ci := 12) (v := .ref q40) (ty := .array .int) (C := RX12) (T := TX12) (N := 12) hx hb hts (by decide +kernel) tyX12 tyX12_ok nmX12 hown hK hP hD hS 0 rfl rfl 7 (by decide) (hts (.fieldLink RX12 22 "PianoRoundsModel" "fates" "[I") (by decide +kernel)) (fun _ h9 => h9) rfl hin rfl (by decide +kernel) rfl rfl (Nat.le_of_ble_eq_true rfl) dX12_init_42 (fun H locs hP hD hS => ?_)
  have hP : va_P D vwCl [(h0, .inr (12, [.ref q8, .ref q17, .int 0, .ref q25, .int 0, .int 0, .ref q33, .ref q40, .null, .int 0, .int 0, .long 0])), (q8, .inl (cy 0, 714, .inl (fun _ => 0))), (q17, .inl (cy 0, 2856, .inl (fun _ => 0))), (q25, .inl (cy 0, 40, .inl (fun _ => 0))), (q33, .inl (cy 0, 12, .inl (fun _ => 0))), (q40, .inl (cy 0, 3, .inl (fun _ => 0)))] H := hP
  have hD : va_D A [(h0, .inr (12, [.ref q8, .ref q17, .int 0, .ref q25, .int 0, .int 0, .ref q33, .ref q40, .null, .int 0, .int 0, .long 0])), (q8, .inl (cy 0, 714, .inl (fun _ => 0))), (q17, .inl (cy 0, 2856, .inl (fun _ => 0))), (q25, .inl (cy 0, 40, .inl (fun _ => 0))), (q33, .inl (cy 0, 12, .inl (fun _ => 0))), (q40, .inl (cy 0, 3, .inl (fun _ => 0)))] := hD
  refine lv_aload_n hx hb dX12_init_45 rfl (lv_at hl 0 rfl) ?_
  refine lv_iconst (v := (4 : Int32)) hx hb dX12_init_46 (by decide) ?_
  refine va_newi (N' := 4) hx hb (hts (.arrayClass .int) (by decide +kernel)) hK hP hD hS hA (by decide) (by decide) (by decide) (Nat.le_of_ble_eq_true rfl) (Nat.le_of_ble_eq_true rfl) dX12_init_47 (fun q47 H hP hD hS => ?_)
  have hP : va_P D vwCl [(h0, .inr (12, [.ref q8, .ref q17, .int 0, .ref q25, .int 0, .int 0, .ref q33, .ref q40, .null, .int 0, .int 0, .long 0])), (q8, .inl (cy 0, 714, .inl (fun _ => 0))), (q17, .inl (cy 0, 2856, .inl (fun _ => 0))), (q25, .inl (cy 0, 40, .inl (fun _ => 0))), (q33, .inl (cy 0, 12, .inl (fun _ => 0))), (q40, .inl (cy 0, 3, .inl (fun _ => 0))), (q47, .inl (cy 0, 4, .inl (fun _ => 0)))] H := hP
  have hD : va_D A [(h0, .inr (12, [.ref q8, .ref q17, .int 0, .ref q25, .int 0, .int 0, .ref q33, .ref q40, .null, .int 0, .int 0, .long 0])), (q8, .inl (cy 0, 714, .inl (fun _ => 0))), (q17, .inl (cy 0, 2856, .inl (fun _ => 0))), (q25, .inl (cy 0, 40, .inl (fun _ => 0))), (q33, .inl (cy 0, 12, .inl (fun _ => 0))), (q40, .inl (cy 0, 3, .inl (fun _ => 0))), (q47, .inl (cy 0, 4, .inl (fun _ => 0)))] := hD
  refine va_putF (D := D) (ci := 12) (v := .ref q47) (ty := .array .int) (C := RX12) (T := TX12) (N := 12) hx hb hts (by decide +kernel) tyX12 tyX12_ok nmX12 hown hK hP hD hS 0 rfl rfl 8 (by decide) (hts (.fieldLink RX12 25 "PianoRoundsModel" "draft" "[I") (by decide +kernel)) (fun _ h9 => h9) rfl hin rfl (by decide +kernel) rfl rfl (Nat.le_of_ble_eq_true rfl) dX12_init_49 (fun H locs hP hD hS => ?_)
  have hP : va_P D vwCl [(h0, .inr (12, [.ref q8, .ref q17, .int 0, .ref q25, .int 0, .int 0, .ref q33, .ref q40, .ref q47, .int 0, .int 0, .long 0])), (q8, .inl (cy 0, 714, .inl (fun _ => 0))), (q17, .inl (cy 0, 2856, .inl (fun _ => 0))), (q25, .inl (cy 0, 40, .inl (fun _ => 0))), (q33, .inl (cy 0, 12, .inl (fun _ => 0))), (q40, .inl (cy 0, 3, .inl (fun _ => 0))), (q47, .inl (cy 0, 4, .inl (fun _ => 0)))] H := hP
  have hD : va_D A [(h0, .inr (12, [.ref q8, .ref q17, .int 0, .ref q25, .int 0, .int 0, .ref q33, .ref q40, .ref q47, .int 0, .int 0, .long 0])), (q8, .inl (cy 0, 714, .inl (fun _ => 0))), (q17, .inl (cy 0, 2856, .inl (fun _ => 0))), (q25, .inl (cy 0, 40, .inl (fun _ => 0))), (q33, .inl (cy 0, 12, .inl (fun _ => 0))), (q40, .inl (cy 0, 3, .inl (fun _ => 0))), (q47, .inl (cy 0, 4, .inl (fun _ => 0)))] := hD
  obtain ⟨u, hu⟩ : ∃ u : Nat → Nat, u = fun k => if k = o then h0 else if k = o + 1 then q8 else if k = o + 2 then q17 else if k = o + 3 then q25 else if k = o + 4 then q33 else if k = o + 5 then q40 else q47 := ⟨_, rfl⟩
  have eu : u o = h0 := by rw [hu]; exact if_pos rfl
  have ew : wX12 cy u o (((fun _ => 0), (fun _ => 0), 0, (fun _ => 0), 0, 0, (fun _ => 0), (fun _ => 0), (fun _ => 0), 0, 0, 0) : SX12) = [(h0, .inr (12, [.ref q8, .ref q17, .int 0, .ref q25, .int 0, .int 0, .ref q33, .ref q40, .ref q47, .int 0, .int 0, .long 0])), (q8, .inl (cy 0, 714, .inl (fun _ => 0))), (q17, .inl (cy 0, 2856, .inl (fun _ => 0))), (q25, .inl (cy 0, 40, .inl (fun _ => 0))), (q33, .inl (cy 0, 12, .inl (fun _ => 0))), (q40, .inl (cy 0, 3, .inl (fun _ => 0))), (q47, .inl (cy 0, 4, .inl (fun _ => 0)))] := by
    rw [hu]
    unfold wX12 hX12 aW
    simp only [if_true, List.cons_append, List.nil_append, show ∀ x y : Nat, (if o + 1 = o then x else y) = y from fun x y => if_neg (by omega), show ∀ x y : Nat, (if o + 2 = o then x else y) = y from fun x y => if_neg (by omega), show ∀ x y : Nat, (if o + 3 = o then x else y) = y from fun x y => if_neg (by omega), show ∀ x y : Nat, (if o + 4 = o then x else y) = y from fun x y => if_neg (by omega), show ∀ x y : Nat, (if o + 5 = o then x else y) = y from fun x y => if_neg (by omega), show ∀ x y : Nat, (if o + 6 = o then x else y) = y from fun x y => if_neg (by omega), show ∀ x y : Nat, (if o + 2 = o + 1 then x else y) = y from fun x y => if_neg (by omega), show ∀ x y : Nat, (if o + 3 = o + 1 then x else y) = y from fun x y => if_neg (by omega), show ∀ x y : Nat, (if o + 3 = o + 2 then x else y) = y from fun x y => if_neg (by omega), show ∀ x y : Nat, (if o + 4 = o + 1 then x else y) = y from fun x y => if_neg (by omega), show ∀ x y : Nat, (if o + 4 = o + 2 then x else y) = y from fun x y => if_neg (by omega), show ∀ x y : Nat, (if o + 4 = o + 3 then x else y) = y from fun x y => if_neg (by omega), show ∀ x y : Nat, (if o + 5 = o + 1 then x else y) = y from fun x y => if_neg (by omega), show ∀ x y : Nat, (if o + 5 = o + 2 then x else y) = y from fun x y => if_neg (by omega), show ∀ x y : Nat, (if o + 5 = o + 3 then x else y) = y from fun x y => if_neg (by omega), show ∀ x y : Nat, (if o + 5 = o + 4 then x else y) = y from fun x y => if_neg (by omega), show ∀ x y : Nat, (if o + 6 = o + 1 then x else y) = y from fun x y => if_neg (by omega), show ∀ x y : Nat, (if o + 6 = o + 2 then x else y) = y from fun x y => if_neg (by omega), show ∀ x y : Nat, (if o + 6 = o + 3 then x else y) = y from fun x y => if_neg (by omega), show ∀ x y : Nat, (if o + 6 = o + 4 then x else y) = y from fun x y => if_neg (by omega), show ∀ x y : Nat, (if o + 6 = o + 5 then x else y) = y from fun x y => if_neg (by omega)]
    rfl
  have hinX12 := (by decide +kernel : ∀ w ∈ wsX120, w ∈ wsX12_init)
  have hf7 := hts (.fieldLink RX12 7 "PianoRoundsModel" "m" "[I") (by decide +kernel)
  rw [← ew] at hP hD
  rw [← eu] at hl
  rw [DX12_init] at h
  obtain ⟨a, ha⟩ : ∃ a : Nat → Nat, a = u := ⟨_, rfl⟩
  rw [← ha] at hP hD hl eu
  obtain ⟨S, hS0⟩ : ∃ S : SX12, S = (((fun _ => 0), (fun _ => 0), 0, (fun _ => 0), 0, 0, (fun _ => 0), (fun _ => 0), (fun _ => 0), 0, 0, 0) : SX12) := ⟨_, rfl⟩
  rw [← hS0] at hP hD h
  refine lv_aload_n hx hb dX12_init_52 rfl (lv_at hl 0 rfl) ?_
  refine va_get (D := D) (ci := 12) (v := .ref (a (o + 1))) (C := RX12) (T := TX12) (N := 12) hx hb hts hinX12 hown hK hP 0 rfl rfl 0 (by decide) hf7 (fun _ h9 => h9) rfl dX12_init_53 ?_
  refine lv_iconst (v := (0 : Int32)) hx hb dX12_init_56 (by decide) ?_
  refine lv_iconst (v := (5 : Int32)) hx hb dX12_init_57 (by decide) ?_
  refine r_ast (f := (gX12_m S)) (f' := (upd (gX12_m S) 0 (5 : Int32))) (n := 714) (ws' := (wX12 cy a o (uX12_m S (upd (gX12_m S) 0 (5 : Int32))))) hx hb hK hP hD hS 1 0 rfl rfl (vp_in_nI (n := 0) (N := 714) (by decide) (by decide)) (updc (nI_clamp (n := 0) (by decide))) rfl dX12_init_58 (fun H locs hP hD hS => ?_)
  obtain ⟨S1, eS2, h⟩ := lt_elim h
  have hP : va_P D vwCl (wX12 cy a o S1) H := by rw [eS2]; exact hP
  have hD : va_D A (wX12 cy a o S1) := by rw [eS2]; exact hD
  refine lv_aload_n hx hb dX12_init_59 rfl (lv_at hl 0 rfl) ?_
  refine va_get (D := D) (ci := 12) (v := .ref (a (o + 1))) (C := RX12) (T := TX12) (N := 12) hx hb hts hinX12 hown hK hP 0 rfl rfl 0 (by decide) hf7 (fun _ h9 => h9) rfl dX12_init_60 ?_
  refine lv_iconst (v := (1 : Int32)) hx hb dX12_init_63 (by decide) ?_
  refine lv_iconst (v := (1 : Int32)) hx hb dX12_init_64 (by decide) ?_
  refine r_ast (f := (gX12_m S1)) (f' := (upd (gX12_m S1) 1 (1 : Int32))) (n := 714) (ws' := (wX12 cy a o (uX12_m S1 (upd (gX12_m S1) 1 (1 : Int32))))) hx hb hK hP hD hS 1 0 rfl rfl (vp_in_nI (n := 1) (N := 714) (by decide) (by decide)) (updc (nI_clamp (n := 1) (by decide))) rfl dX12_init_65 (fun H locs hP hD hS => ?_)
  obtain ⟨S3, eS4, h⟩ := lt_elim h
  have hP : va_P D vwCl (wX12 cy a o S3) H := by rw [eS4]; exact hP
  have hD : va_D A (wX12 cy a o S3) := by rw [eS4]; exact hD
  refine lv_aload_n hx hb dX12_init_66 rfl (lv_at hl 0 rfl) ?_
  refine va_get (D := D) (ci := 12) (v := .ref (a (o + 1))) (C := RX12) (T := TX12) (N := 12) hx hb hts hinX12 hown hK hP 0 rfl rfl 0 (by decide) hf7 (fun _ h9 => h9) rfl dX12_init_67 ?_
  refine lv_iconst (v := (2 : Int32)) hx hb dX12_init_70 (by decide) ?_
  refine lv_bipush (v := (50 : Int32)) hx hb dX12_init_71 (by decide) ?_
  refine r_ast (f := (gX12_m S3)) (f' := (upd (gX12_m S3) 2 (50 : Int32))) (n := 714) (ws' := (wX12 cy a o (uX12_m S3 (upd (gX12_m S3) 2 (50 : Int32))))) hx hb hK hP hD hS 1 0 rfl rfl (vp_in_nI (n := 2) (N := 714) (by decide) (by decide)) (updc (nI_clamp (n := 2) (by decide))) rfl dX12_init_73 (fun H locs hP hD hS => ?_)
  obtain ⟨S5, eS6, h⟩ := lt_elim h
  have hP : va_P D vwCl (wX12 cy a o S5) H := by rw [eS6]; exact hP
  have hD : va_D A (wX12 cy a o S5) := by rw [eS6]; exact hD
  refine lv_iconst (v := (0 : Int32)) hx hb dX12_init_74 (by decide) ?_
  refine lv_istore_n (lv' := [(1, .int (0 : Int32)), (0, .ref (a o))]) hx hb dX12_init_75 rfl hl (by decide) rfl (fun ls hl => ?_)
  have L35 : ∀ (k8 : SX12 → Option (SX12)) (hk8 : ∀ (S9 : SX12) (H : Heap) (locs : List Loc) (ls : Array Slot), k8 S9 = some rs → va_P D vwCl (wX12 cy a o S9) H → va_D A (wX12 cy a o S9) → va_S A s.heap H locs → lv_has ls 2 [(0, .ref (a o))] → W p l e (headSpec wsX12_init ({ frames := 2, cells := 6, slots := 3629, locals := 60 } : Room)).room s m ([.ref h0] : List Value).toArray below meth c H locs 6 3629 (MQ below (va_Qv (fun (u : Nat → Nat) => u o = h0) (fun u t => mB D s.heap.size [(h0, .inr (12, [.null, .null, .int 0, .null, .int 0, .int 0, .null, .null, .null, .int 0, .int 0, .long 0]))] (wX12 cy u o rs) t) A) ([.ref h0] : List Value).toArray s 6 3629 A) (F0 m 150 ls [])) (f : Nat) (v1_22 : Int32) (S7 : SX12) (H : Heap) (locs : List Loc) (ls : Array Slot), DX12_init_L76 k8 f v1_22 S7 = some rs → va_P D vwCl (wX12 cy a o S7) H → va_D A (wX12 cy a o S7) → va_S A s.heap H locs → lv_has ls 2 [(0, .ref (a o)), (1, .int v1_22)] → W p l e (headSpec wsX12_init ({ frames := 2, cells := 6, slots := 3629, locals := 60 } : Room)).room s m ([.ref h0] : List Value).toArray below meth c H locs 6 3629 (MQ below (va_Qv (fun (u : Nat → Nat) => u o = h0) (fun u t => mB D s.heap.size [(h0, .inr (12, [.null, .null, .int 0, .null, .int 0, .int 0, .null, .null, .null, .int 0, .int 0, .long 0]))] (wX12 cy u o rs) t) A) ([.ref h0] : List Value).toArray s 6 3629 A) (F0 m 76 ls []) := by
    intro k8 hk8 f
    induction f with
    | zero =>
      intro v1_22 S7 H locs ls h hP hD hS hl
      rw [DX12_init_L76] at h
      cases h
    | succ f ih =>
      intro v1_22 S7 H locs ls h hP hD hS hl
      rw [DX12_init_L76] at h
      refine lv_iload_n hx hb dX12_init_76 rfl (lv_at hl 1 rfl) ?_
      refine lv_iconst (v := (4 : Int32)) hx hb dX12_init_77 (by decide) ?_
      refine lv_icmp_ge (tgt := 150) hx hb dX12_init_78 (by decide) (fun cc => ?_) (fun cc => ?_)
      · have h := ite_p cc h
        exact hk8 S7 H locs ls h hP hD hS (lv_sub hl [0] rfl)
      · have h := ite_n cc h
        refine lv_aload_n hx hb dX12_init_81 rfl (lv_at hl 0 rfl) ?_
        refine va_get (D := D) (ci := 12) (v := .ref (a (o + 1))) (C := RX12) (T := TX12) (N := 12) hx hb hts hinX12 hown hK hP 0 rfl rfl 0 (by decide) hf7 (fun _ h9 => h9) rfl dX12_init_82 ?_
        refine lv_bipush (v := (102 : Int32)) hx hb dX12_init_85 (by decide) ?_
        refine lv_bipush (v := (6 : Int32)) hx hb dX12_init_87 (by decide) ?_
        refine lv_iload_n hx hb dX12_init_89 rfl (lv_at hl 1 rfl) ?_
        refine lv_imul hx hb dX12_init_90 ?_
        refine lv_iadd hx hb dX12_init_91 ?_
        refine lv_iconst (v := (0 : Int32)) hx hb dX12_init_92 (by decide) ?_
        refine lv_iadd hx hb dX12_init_93 ?_
        refine lv_iconst (v := (1 : Int32)) hx hb dX12_init_94 (by decide) ?_
        obtain ⟨g23, h⟩ := gd_some h
        refine r_ast (f := (gX12_m S7)) (f' := (upd (gX12_m S7) (((((102 : Int32) + ((6 : Int32) * v1_22)) + (0 : Int32))).toNatClampNeg) (1 : Int32))) (n := 714) (ws' := (wX12 cy a o (uX12_m S7 (upd (gX12_m S7) (((((102 : Int32) + ((6 : Int32) * v1_22)) + (0 : Int32))).toNatClampNeg) (1 : Int32))))) hx hb hK hP hD hS 1 0 rfl rfl (gIn_in g23) rfl rfl dX12_init_95 (fun H locs hP hD hS => ?_)
        obtain ⟨S24, eS25, h⟩ := lt_elim h
        have hP : va_P D vwCl (wX12 cy a o S24) H := by rw [eS25]; exact hP
        have hD : va_D A (wX12 cy a o S24) := by rw [eS25]; exact hD
        refine lv_aload_n hx hb dX12_init_96 rfl (lv_at hl 0 rfl) ?_
        refine va_get (D := D) (ci := 12) (v := .ref (a (o + 1))) (C := RX12) (T := TX12) (N := 12) hx hb hts hinX12 hown hK hP 0 rfl rfl 0 (by decide) hf7 (fun _ h9 => h9) rfl dX12_init_97 ?_
        refine lv_bipush (v := (102 : Int32)) hx hb dX12_init_100 (by decide) ?_
        refine lv_bipush (v := (6 : Int32)) hx hb dX12_init_102 (by decide) ?_
        refine lv_iload_n hx hb dX12_init_104 rfl (lv_at hl 1 rfl) ?_
        refine lv_imul hx hb dX12_init_105 ?_
        refine lv_iadd hx hb dX12_init_106 ?_
        refine lv_iconst (v := (1 : Int32)) hx hb dX12_init_107 (by decide) ?_
        refine lv_iadd hx hb dX12_init_108 ?_
        refine lv_sipush (v := (180 : Int32)) hx hb dX12_init_109 (by decide) ?_
        obtain ⟨g26, h⟩ := gd_some h
        refine r_ast (f := (gX12_m S24)) (f' := (upd (gX12_m S24) (((((102 : Int32) + ((6 : Int32) * v1_22)) + (1 : Int32))).toNatClampNeg) (180 : Int32))) (n := 714) (ws' := (wX12 cy a o (uX12_m S24 (upd (gX12_m S24) (((((102 : Int32) + ((6 : Int32) * v1_22)) + (1 : Int32))).toNatClampNeg) (180 : Int32))))) hx hb hK hP hD hS 1 0 rfl rfl (gIn_in g26) rfl rfl dX12_init_112 (fun H locs hP hD hS => ?_)
        obtain ⟨S27, eS28, h⟩ := lt_elim h
        have hP : va_P D vwCl (wX12 cy a o S27) H := by rw [eS28]; exact hP
        have hD : va_D A (wX12 cy a o S27) := by rw [eS28]; exact hD
        refine lv_aload_n hx hb dX12_init_113 rfl (lv_at hl 0 rfl) ?_
        refine va_get (D := D) (ci := 12) (v := .ref (a (o + 1))) (C := RX12) (T := TX12) (N := 12) hx hb hts hinX12 hown hK hP 0 rfl rfl 0 (by decide) hf7 (fun _ h9 => h9) rfl dX12_init_114 ?_
        refine lv_bipush (v := (102 : Int32)) hx hb dX12_init_117 (by decide) ?_
        refine lv_bipush (v := (6 : Int32)) hx hb dX12_init_119 (by decide) ?_
        refine lv_iload_n hx hb dX12_init_121 rfl (lv_at hl 1 rfl) ?_
        refine lv_imul hx hb dX12_init_122 ?_
        refine lv_iadd hx hb dX12_init_123 ?_
        refine lv_iconst (v := (3 : Int32)) hx hb dX12_init_124 (by decide) ?_
        refine lv_iadd hx hb dX12_init_125 ?_
        refine lv_iconst (v := (4 : Int32)) hx hb dX12_init_126 (by decide) ?_
        obtain ⟨g29, h⟩ := gd_some h
        refine r_ast (f := (gX12_m S27)) (f' := (upd (gX12_m S27) (((((102 : Int32) + ((6 : Int32) * v1_22)) + (3 : Int32))).toNatClampNeg) (4 : Int32))) (n := 714) (ws' := (wX12 cy a o (uX12_m S27 (upd (gX12_m S27) (((((102 : Int32) + ((6 : Int32) * v1_22)) + (3 : Int32))).toNatClampNeg) (4 : Int32))))) hx hb hK hP hD hS 1 0 rfl rfl (gIn_in g29) rfl rfl dX12_init_127 (fun H locs hP hD hS => ?_)
        obtain ⟨S30, eS31, h⟩ := lt_elim h
        have hP : va_P D vwCl (wX12 cy a o S30) H := by rw [eS31]; exact hP
        have hD : va_D A (wX12 cy a o S30) := by rw [eS31]; exact hD
        refine lv_aload_n hx hb dX12_init_128 rfl (lv_at hl 0 rfl) ?_
        refine va_get (D := D) (ci := 12) (v := .ref (a (o + 1))) (C := RX12) (T := TX12) (N := 12) hx hb hts hinX12 hown hK hP 0 rfl rfl 0 (by decide) hf7 (fun _ h9 => h9) rfl dX12_init_129 ?_
        refine lv_bipush (v := (102 : Int32)) hx hb dX12_init_132 (by decide) ?_
        refine lv_bipush (v := (6 : Int32)) hx hb dX12_init_134 (by decide) ?_
        refine lv_iload_n hx hb dX12_init_136 rfl (lv_at hl 1 rfl) ?_
        refine lv_imul hx hb dX12_init_137 ?_
        refine lv_iadd hx hb dX12_init_138 ?_
        refine lv_iconst (v := (5 : Int32)) hx hb dX12_init_139 (by decide) ?_
        refine lv_iadd hx hb dX12_init_140 ?_
        refine lv_bipush (v := (12 : Int32)) hx hb dX12_init_141 (by decide) ?_
        obtain ⟨g32, h⟩ := gd_some h
        refine r_ast (f := (gX12_m S30)) (f' := (upd (gX12_m S30) (((((102 : Int32) + ((6 : Int32) * v1_22)) + (5 : Int32))).toNatClampNeg) (12 : Int32))) (n := 714) (ws' := (wX12 cy a o (uX12_m S30 (upd (gX12_m S30) (((((102 : Int32) + ((6 : Int32) * v1_22)) + (5 : Int32))).toNatClampNeg) (12 : Int32))))) hx hb hK hP hD hS 1 0 rfl rfl (gIn_in g32) rfl rfl dX12_init_143 (fun H locs hP hD hS => ?_)
        obtain ⟨S33, eS34, h⟩ := lt_elim h
        have hP : va_P D vwCl (wX12 cy a o S33) H := by rw [eS34]; exact hP
        have hD : va_D A (wX12 cy a o S33) := by rw [eS34]; exact hD
        refine lv_iinc (v := (v1_22 + (1 : Int32))) (lv' := [(1, .int (v1_22 + (1 : Int32))), (0, .ref (a o))]) hx hb dX12_init_144 hl (k := 1) rfl (by rfl) (by decide) rfl (fun ls hl => ?_)
        refine lv_goto (tgt := 76) hx hb dX12_init_147 (by decide) ?_
        exact ih (v1_22 + (1 : Int32)) S33 H locs ls h hP hD hS (lv_sub hl [1, 0] rfl)
  refine L35  _ ?_ fu (0 : Int32) S5 H locs ls h hP hD hS (lv_sub hl [1, 0] rfl)
  intro S10 H locs ls h hP hD hS hl
  refine lv_aload_n hx hb dX12_init_150 rfl (lv_at hl 0 rfl) ?_
  obtain ⟨x11, e12, h⟩ := bd_some h
  refine smVv (As := []) (rest := []) (ws' := (wX12 cy a o x11)) (q0 := 0) (qX12_clearMarks l D cy a o S10  (H).size x11 e12) ⟨hx, hb, hml, hown, hts⟩ (cwV 0 hts gX12_init_X12_clearMarks rfl rfl rfl (by decide +kernel) ⟨Nat.le_of_ble_eq_true rfl, Nat.le_of_ble_eq_true rfl⟩) hG hP hD hS hA (pm1 (X := ([] : va_W)) (c := (wX12 cy a o S10)) (Y := ([] : va_W)) (show (wX12 cy a o S10) = ([] : va_W) ++ ((wX12 cy a o S10) ++ ([] : va_W)) from by simp only [List.append_assoc, List.nil_append, List.append_nil] <;> rfl)) (pm1 (X := ([] : va_W)) (c := (wX12 cy a o x11)) (Y := ([] : va_W)) (show (wX12 cy a o x11) = ([] : va_W) ++ ((wX12 cy a o x11) ++ ([] : va_W)) from by simp only [List.append_assoc, List.nil_append, List.append_nil] <;> rfl)) rfl rfl rfl hl.1 rfl (Nat.le_of_ble_eq_true rfl) dX12_init_151 ⟨Nat.le_of_ble_eq_true rfl, Nat.le_of_ble_eq_true rfl⟩ (fun H locs hP hD hS => ?_)
  refine lv_iconst (v := (0 : Int32)) hx hb dX12_init_154 (by decide) ?_
  refine lv_istore_n (lv' := [(1, .int (0 : Int32)), (0, .ref (a o))]) hx hb dX12_init_155 rfl hl (by decide) rfl (fun ls hl => ?_)
  have L21 : ∀ (k14 : SX12 → Option (SX12)) (hk14 : ∀ (S15 : SX12) (H : Heap) (locs : List Loc) (ls : Array Slot), k14 S15 = some rs → va_P D vwCl (wX12 cy a o S15) H → va_D A (wX12 cy a o S15) → va_S A s.heap H locs → lv_has ls 2 [] → W p l e (headSpec wsX12_init ({ frames := 2, cells := 6, slots := 3629, locals := 60 } : Room)).room s m ([.ref h0] : List Value).toArray below meth c H locs 6 3629 (MQ below (va_Qv (fun (u : Nat → Nat) => u o = h0) (fun u t => mB D s.heap.size [(h0, .inr (12, [.null, .null, .int 0, .null, .int 0, .int 0, .null, .null, .null, .int 0, .int 0, .long 0]))] (wX12 cy u o rs) t) A) ([.ref h0] : List Value).toArray s 6 3629 A) (F0 m 179 ls [])) (f : Nat) (v1_17 : Int32) (S13 : SX12) (H : Heap) (locs : List Loc) (ls : Array Slot), DX12_init_L156 k14 f v1_17 S13 = some rs → va_P D vwCl (wX12 cy a o S13) H → va_D A (wX12 cy a o S13) → va_S A s.heap H locs → lv_has ls 2 [(0, .ref (a o)), (1, .int v1_17)] → W p l e (headSpec wsX12_init ({ frames := 2, cells := 6, slots := 3629, locals := 60 } : Room)).room s m ([.ref h0] : List Value).toArray below meth c H locs 6 3629 (MQ below (va_Qv (fun (u : Nat → Nat) => u o = h0) (fun u t => mB D s.heap.size [(h0, .inr (12, [.null, .null, .int 0, .null, .int 0, .int 0, .null, .null, .null, .int 0, .int 0, .long 0]))] (wX12 cy u o rs) t) A) ([.ref h0] : List Value).toArray s 6 3629 A) (F0 m 156 ls []) := by
    intro k14 hk14 f
    induction f with
    | zero =>
      intro v1_17 S13 H locs ls h hP hD hS hl
      rw [DX12_init_L156] at h
      cases h
    | succ f ih =>
      intro v1_17 S13 H locs ls h hP hD hS hl
      rw [DX12_init_L156] at h
      refine lv_iload_n hx hb dX12_init_156 rfl (lv_at hl 1 rfl) ?_
      refine lv_bipush (v := (48 : Int32)) hx hb dX12_init_157 (by decide) ?_
      refine lv_icmp_ge (tgt := 179) hx hb dX12_init_159 (by decide) (fun cc => ?_) (fun cc => ?_)
      · have h := ite_p cc h
        exact hk14 S13 H locs ls h hP hD hS (lv_sub hl [] rfl)
      · have h := ite_n cc h
        refine lv_aload_n hx hb dX12_init_162 rfl (lv_at hl 0 rfl) ?_
        refine va_get (D := D) (ci := 12) (v := .ref (a (o + 1))) (C := RX12) (T := TX12) (N := 12) hx hb hts hinX12 hown hK hP 0 rfl rfl 0 (by decide) hf7 (fun _ h9 => h9) rfl dX12_init_163 ?_
        refine lv_sipush (v := (666 : Int32)) hx hb dX12_init_166 (by decide) ?_
        refine lv_iload_n hx hb dX12_init_169 rfl (lv_at hl 1 rfl) ?_
        refine lv_iadd hx hb dX12_init_170 ?_
        refine lv_iconst (v := (-1 : Int32)) hx hb dX12_init_171 (by decide) ?_
        obtain ⟨g18, h⟩ := gd_some h
        refine r_ast (f := (gX12_m S13)) (f' := (upd (gX12_m S13) ((((666 : Int32) + v1_17)).toNatClampNeg) (-1 : Int32))) (n := 714) (ws' := (wX12 cy a o (uX12_m S13 (upd (gX12_m S13) ((((666 : Int32) + v1_17)).toNatClampNeg) (-1 : Int32))))) hx hb hK hP hD hS 1 0 rfl rfl (gIn_in g18) rfl rfl dX12_init_172 (fun H locs hP hD hS => ?_)
        obtain ⟨S19, eS20, h⟩ := lt_elim h
        have hP : va_P D vwCl (wX12 cy a o S19) H := by rw [eS20]; exact hP
        have hD : va_D A (wX12 cy a o S19) := by rw [eS20]; exact hD
        refine lv_iinc (v := (v1_17 + (1 : Int32))) (lv' := [(1, .int (v1_17 + (1 : Int32))), (0, .ref (a o))]) hx hb dX12_init_173 hl (k := 1) rfl (by rfl) (by decide) rfl (fun ls hl => ?_)
        refine lv_goto (tgt := 156) hx hb dX12_init_176 (by decide) ?_
        exact ih (v1_17 + (1 : Int32)) S19 H locs ls h hP hD hS (lv_sub hl [1, 0] rfl)
  refine L21  _ ?_ fu (0 : Int32) x11 H locs ls h hP hD hS (lv_sub hl [1, 0] rfl)
  intro S16 H locs ls h hP hD hS hl
  exact W.vret hx hb hr (fun t ht hW => ⟨⟨a, rfl, eu, by rw [ht, ← some_in h]; exact hP, by rw [hAe, ← some_in h]; exact hD⟩, hS.F ht⟩) hS.2.2 dX12_init_179
