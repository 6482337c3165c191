theorem lRm {cells slots mc ms : Nat} (h : lC cells slots) (h1 : mc ≤ 5) (h2 : ms ≤ 30) : cells + mc ≤ room_1.cells ∧ slots + ms ≤ room_1.slots := ⟨Nat.le_trans (Nat.add_le_add_left h1 cells) h.1, Nat.le_trans (Nat.add_le_add_left h2 slots) h.2⟩
section LT
variable {p : Program} {l : Launch} {e : Env} {s : State} {m : MethodId} {below : List Frame} {meth : Method} {c : Code} {H : Heap} {locs : List Loc} {cells slots : Nat} {Q : State → Prop}
variable {D : va_G} {cy : Nat → ClassId} {tt : Nat → Nat} {b L : Nat} {xs : Nat → Int32} {a a' : Nat → Nat} {o o' bo : Nat} {ls : Array Slot} {i : Int32} {S : SX11} {T : SX12} {f : Nat → Int64}
theorem lawC_addWork (C : lX p l s m c b L xs D cy tt) (hc : lC cells slots) (hGG : GG S T) (g1 : vp_in (i + 1) L) (g2 : vp_in (i + 2) L) (g3 : vp_in (i + 3) L) (hP : va_P D vwCl (oC cy bo f :: (wX11 cy a o S ++ wX12 cy a' o' T)) H) (hD : va_D (fun q => s.heap.size ≤ q) (oC cy bo f :: (wX11 cy a o S ++ wX12 cy a' o' T))) (hS : va_S (fun q => s.heap.size ≤ q) s.heap H locs) (hl : lv_has ls 7 [(4, .int i), (0, .ref b), (1, .ref (a o)), (2, .ref (a' o')), (3, .ref bo)]) (kk : lK p l e s m below meth c D cy b a o a' o' bo i cells slots Q) : W p l e room_1 s m #[Value.ref b] below meth c H locs cells slots Q (F0 m 172 ls []) := by
  have C0 := C
  obtain ⟨hx, hb, hml, hown, hts, hX, hbl, hl9, hG, hGX, hN⟩ := C
  have hA : ∀ q : Nat, s.heap.size ≤ q → (fun q : Nat => s.heap.size ≤ q) q := fun _ h => h
  obtain ⟨w1, e1, l1, u1⟩ := i32 (xs (i + 1).toNatClampNeg)
  obtain ⟨w2, e2, l2, u2⟩ := i32 (xs (i + 2).toNatClampNeg)
  obtain ⟨w3, e3, l3, u3⟩ := i32 (xs (i + 3).toNatClampNeg)
  have hk := K_addWork hGG l1 u1 l2 u2 l3 u3
  rw [← e1, ← e2, ← e3] at hk
  obtain ⟨res, v, T', hw, hr2, hcode, hG', hout⟩ := brO hk (by decide) f
  refine lv_aload_n hx hb dL_law_172 rfl (lv_at hl 2 rfl) ?_
  refine lRd (k := 1) C0 hS (lv_at hl 1 rfl) (lv_at hl 0 rfl) (by decide) g1 dL_law_173 dL_law_174 dL_law_176 dL_law_177 dL_law_178 ?_
  refine lRd (k := 2) C0 hS (lv_at hl 1 rfl) (lv_at hl 0 rfl) (by decide) g2 dL_law_179 dL_law_180 dL_law_182 dL_law_183 dL_law_184 ?_
  refine lRd (k := 3) C0 hS (lv_at hl 1 rfl) (lv_at hl 0 rfl) (by decide) g3 dL_law_185 dL_law_186 dL_law_188 dL_law_189 dL_law_190 ?_
  refine lv_aload_n hx hb dL_law_191 rfl (lv_at hl 4 rfl) ?_
  refine lcW hG hGX hN hP hD hS hA (mc := 4) (ms := 24) (fun h1 h2 => vx_runSX (As := [.ref (a o), .int (xs (i + 1).toNatClampNeg), .int (xs (i + 2).toNatClampNeg), .int (xs (i + 3).toNatClampNeg), .ref bo]) (rest := []) ⟨hx, hb, hml, hown, hts⟩ (qL_addWork l hl9 D cy tt a o bo S (xs (i + 1).toNatClampNeg) (xs (i + 2).toNatClampNeg) (xs (i + 3).toNatClampNeg) f H.size res hw) (vx_cwSW 5 hts gL_law_L_addWork rfl rfl rfl (by decide +kernel) ⟨Nat.le_of_ble_eq_true rfl, Nat.le_of_ble_eq_true rfl⟩) ⟨h1, h2⟩ rfl rfl hl.1 rfl (lv_room (Nat.le_of_ble_eq_true rfl)) dL_law_192 (lRm hc (by decide) (by decide))) (c2 := cells + 5) (s2 := slots + 30) (Nat.add_le_add_left (by decide) _) (Nat.add_le_add_left (by decide) _) (fun r u H locs hq hP hD hS => ?_)
  have hq : (r, u) = res := hq
  subst hq
  have hcode : gX12_code T' = r := hcode
  have hG' : GG u.1 T' := hG'
  refine lv_istore (lv' := [(5, .int r), (4, .int i), (0, .ref b), (1, .ref (a o)), (2, .ref (a' o')), (3, .ref bo)]) hx hb dL_law_195 hl (by decide) rfl (fun ls hl => ?_)
  refine lv_aload_n hx hb dL_law_197 rfl (lv_at hl 4 rfl) ?_
  refine lRd (k := 1) C0 hS (lv_at hl 2 rfl) (lv_at hl 1 rfl) (by decide) g1 dL_law_198 dL_law_199 dL_law_201 dL_law_202 dL_law_203 ?_
  refine lRd (k := 2) C0 hS (lv_at hl 2 rfl) (lv_at hl 1 rfl) (by decide) g2 dL_law_204 dL_law_205 dL_law_207 dL_law_208 dL_law_209 ?_
  refine lRd (k := 3) C0 hS (lv_at hl 2 rfl) (lv_at hl 1 rfl) (by decide) g3 dL_law_210 dL_law_211 dL_law_213 dL_law_214 dL_law_215 ?_
  refine smVi (As := [.int (xs (i + 1).toNatClampNeg), .int (xs (i + 2).toNatClampNeg), .int (xs (i + 3).toNatClampNeg)]) (rest := []) (ws' := oC cy bo u.2 :: (wX11 cy a o u.1 ++ wX12 cy a' o' T')) (q0 := 0) (ci := 12) (qX12_addWork l D cy a' o' T (xs (i + 1).toNatClampNeg) (xs (i + 2).toNatClampNeg) (xs (i + 3).toNatClampNeg) H.size (v, T') hr2) ⟨hx, hb, hml, hown, hts⟩ (cwV 3 hts gL_law_X12_addWork rfl rfl rfl (by decide +kernel) ⟨Nat.le_of_ble_eq_true rfl, Nat.le_of_ble_eq_true rfl⟩) hG hP hD hS hA (pmT cy a o bo u.1 u.2 (wX12 cy a' o' T)) (pmT cy a o bo u.1 u.2 (wX12 cy a' o' T')) rfl rfl rfl hl.1 rfl (Nat.le_of_ble_eq_true rfl) dL_law_216 hc (fun H locs hP hD hS => ?_)
  refine lv_istore (lv' := [(6, .int v), (5, .int r), (4, .int i), (0, .ref b), (1, .ref (a o)), (2, .ref (a' o')), (3, .ref bo)]) hx hb dL_law_219 hl (by decide) rfl (fun ls hl => ?_)
  exact lTail C0 hc hcode hout hP hl dL_law_221 dL_law_222 dL_law_225 dL_law_227 dL_law_232 dL_law_234 dL_law_237 dL_law_238 dL_law_239 dL_law_240 dL_law_242 dL_law_243 dL_law_244 dL_law_249 (by decide) (fun hl => kk u.1 T' u.2 H locs ls hG' hP hD hS hl)
theorem lawC_work (C : lX p l s m c b L xs D cy tt) (hc : lC cells slots) (hGG : GG S T) (g1 : vp_in (i + 1) L) (g2 : vp_in (i + 2) L) (g3 : vp_in (i + 3) L) (hP : va_P D vwCl (oC cy bo f :: (wX11 cy a o S ++ wX12 cy a' o' T)) H) (hD : va_D (fun q => s.heap.size ≤ q) (oC cy bo f :: (wX11 cy a o S ++ wX12 cy a' o' T))) (hS : va_S (fun q => s.heap.size ≤ q) s.heap H locs) (hl : lv_has ls 7 [(4, .int i), (0, .ref b), (1, .ref (a o)), (2, .ref (a' o')), (3, .ref bo)]) (kk : lK p l e s m below meth c D cy b a o a' o' bo i cells slots Q) : W p l e room_1 s m #[Value.ref b] below meth c H locs cells slots Q (F0 m 252 ls []) := by
  have C0 := C
  obtain ⟨hx, hb, hml, hown, hts, hX, hbl, hl9, hG, hGX, hN⟩ := C
  have hA : ∀ q : Nat, s.heap.size ≤ q → (fun q : Nat => s.heap.size ≤ q) q := fun _ h => h
  obtain ⟨w1, e1, l1, u1⟩ := i32 (xs (i + 1).toNatClampNeg)
  obtain ⟨w2, e2, l2, u2⟩ := i32 (xs (i + 2).toNatClampNeg)
  have hk := K_work hGG l1 u1 l2 u2
  rw [← e1, ← e2] at hk
  obtain ⟨res, v, T', hw, hr2, hcode, hG', hout⟩ := brR hk (by decide) f
  refine lv_aload_n hx hb dL_law_252 rfl (lv_at hl 2 rfl) ?_
  refine lRd (k := 1) C0 hS (lv_at hl 1 rfl) (lv_at hl 0 rfl) (by decide) g1 dL_law_253 dL_law_254 dL_law_256 dL_law_257 dL_law_258 ?_
  refine lRd (k := 2) C0 hS (lv_at hl 1 rfl) (lv_at hl 0 rfl) (by decide) g2 dL_law_259 dL_law_260 dL_law_262 dL_law_263 dL_law_264 ?_
  refine lv_aload_n hx hb dL_law_265 rfl (lv_at hl 4 rfl) ?_
  refine lcW hG hGX hN hP hD hS hA (mc := 2) (ms := 12) (fun h1 h2 => vx_runSX (As := [.ref (a o), .int (xs (i + 1).toNatClampNeg), .int (xs (i + 2).toNatClampNeg), .ref bo]) (rest := []) ⟨hx, hb, hml, hown, hts⟩ (qL_work l hl9 D cy tt a o bo S (xs (i + 1).toNatClampNeg) (xs (i + 2).toNatClampNeg) f H.size res hw) (vx_cwSW 4 hts gL_law_L_work rfl rfl rfl (by decide +kernel) ⟨Nat.le_of_ble_eq_true rfl, Nat.le_of_ble_eq_true rfl⟩) ⟨h1, h2⟩ rfl rfl hl.1 rfl (lv_room (Nat.le_of_ble_eq_true rfl)) dL_law_266 (lRm hc (by decide) (by decide))) (c2 := cells + 5) (s2 := slots + 30) (Nat.add_le_add_left (by decide) _) (Nat.add_le_add_left (by decide) _) (fun r u H locs hq hP hD hS => ?_)
  have hq : (r, u) = res := hq
  subst hq
  have hcode : gX12_code T' = r := hcode
  have hG' : GG u.1 T' := hG'
  refine lv_istore (lv' := [(5, .int r), (4, .int i), (0, .ref b), (1, .ref (a o)), (2, .ref (a' o')), (3, .ref bo)]) hx hb dL_law_269 hl (by decide) rfl (fun ls hl => ?_)
  refine lv_aload_n hx hb dL_law_271 rfl (lv_at hl 4 rfl) ?_
  refine lRd (k := 1) C0 hS (lv_at hl 2 rfl) (lv_at hl 1 rfl) (by decide) g1 dL_law_272 dL_law_273 dL_law_275 dL_law_276 dL_law_277 ?_
  refine lRd (k := 2) C0 hS (lv_at hl 2 rfl) (lv_at hl 1 rfl) (by decide) g2 dL_law_278 dL_law_279 dL_law_281 dL_law_282 dL_law_283 ?_
  refine smVi (As := [.int (xs (i + 1).toNatClampNeg), .int (xs (i + 2).toNatClampNeg)]) (rest := []) (ws' := oC cy bo u.2 :: (wX11 cy a o u.1 ++ wX12 cy a' o' T')) (q0 := 0) (ci := 12) (qX12_work l D cy a' o' T (xs (i + 1).toNatClampNeg) (xs (i + 2).toNatClampNeg) H.size (v, T') hr2) ⟨hx, hb, hml, hown, hts⟩ (cwV 2 hts gL_law_X12_work rfl rfl rfl (by decide +kernel) ⟨Nat.le_of_ble_eq_true rfl, Nat.le_of_ble_eq_true rfl⟩) hG hP hD hS hA (pmT cy a o bo u.1 u.2 (wX12 cy a' o' T)) (pmT cy a o bo u.1 u.2 (wX12 cy a' o' T')) rfl rfl rfl hl.1 rfl (Nat.le_of_ble_eq_true rfl) dL_law_284 hc (fun H locs hP hD hS => ?_)
  refine lv_istore (lv' := [(6, .int v), (5, .int r), (4, .int i), (0, .ref b), (1, .ref (a o)), (2, .ref (a' o')), (3, .ref bo)]) hx hb dL_law_287 hl (by decide) rfl (fun ls hl => ?_)
  exact lTail C0 hc hcode hout hP hl dL_law_289 dL_law_290 dL_law_293 dL_law_295 dL_law_300 dL_law_302 dL_law_305 dL_law_306 dL_law_307 dL_law_308 dL_law_310 dL_law_311 dL_law_312 dL_law_317 (by decide) (fun hl => kk u.1 T' u.2 H locs ls hG' hP hD hS hl)
theorem lawC_addEntrant (C : lX p l s m c b L xs D cy tt) (hc : lC cells slots) (hGG : GG S T) (g1 : vp_in (i + 1) L) (g2 : vp_in (i + 2) L) (g3 : vp_in (i + 3) L) (hP : va_P D vwCl (oC cy bo f :: (wX11 cy a o S ++ wX12 cy a' o' T)) H) (hD : va_D (fun q => s.heap.size ≤ q) (oC cy bo f :: (wX11 cy a o S ++ wX12 cy a' o' T))) (hS : va_S (fun q => s.heap.size ≤ q) s.heap H locs) (hl : lv_has ls 7 [(4, .int i), (0, .ref b), (1, .ref (a o)), (2, .ref (a' o')), (3, .ref bo)]) (kk : lK p l e s m below meth c D cy b a o a' o' bo i cells slots Q) : W p l e room_1 s m #[Value.ref b] below meth c H locs cells slots Q (F0 m 320 ls []) := by
  have C0 := C
  obtain ⟨hx, hb, hml, hown, hts, hX, hbl, hl9, hG, hGX, hN⟩ := C
  have hA : ∀ q : Nat, s.heap.size ≤ q → (fun q : Nat => s.heap.size ≤ q) q := fun _ h => h
  have hk := K_addEntrant hGG
  obtain ⟨res, v, T', hw, hr2, hcode, hG', hout⟩ := brO hk (by decide) f
  refine lv_aload_n hx hb dL_law_320 rfl (lv_at hl 2 rfl) ?_
  refine lv_aload_n hx hb dL_law_321 rfl (lv_at hl 4 rfl) ?_
  refine lcW hG hGX hN hP hD hS hA (mc := 1) (ms := 6) (fun h1 h2 => vx_runSX (As := [.ref (a o), .ref bo]) (rest := []) ⟨hx, hb, hml, hown, hts⟩ (qL_addEntrant l hl9 D cy tt a o bo S  f H.size res hw) (vx_cwSW 2 hts gL_law_L_addEntrant rfl rfl rfl (by decide +kernel) ⟨Nat.le_of_ble_eq_true rfl, Nat.le_of_ble_eq_true rfl⟩) ⟨h1, h2⟩ rfl rfl hl.1 rfl (lv_room (Nat.le_of_ble_eq_true rfl)) dL_law_322 (lRm hc (by decide) (by decide))) (c2 := cells + 5) (s2 := slots + 30) (Nat.add_le_add_left (by decide) _) (Nat.add_le_add_left (by decide) _) (fun r u H locs hq hP hD hS => ?_)
  have hq : (r, u) = res := hq
  subst hq
  have hcode : gX12_code T' = r := hcode
  have hG' : GG u.1 T' := hG'
  refine lv_istore (lv' := [(5, .int r), (4, .int i), (0, .ref b), (1, .ref (a o)), (2, .ref (a' o')), (3, .ref bo)]) hx hb dL_law_325 hl (by decide) rfl (fun ls hl => ?_)
  refine lv_aload_n hx hb dL_law_327 rfl (lv_at hl 4 rfl) ?_
  refine smVi (As := []) (rest := []) (ws' := oC cy bo u.2 :: (wX11 cy a o u.1 ++ wX12 cy a' o' T')) (q0 := 0) (ci := 12) (qX12_addEntrant l D cy a' o' T  H.size (v, T') hr2) ⟨hx, hb, hml, hown, hts⟩ (cwV 0 hts gL_law_X12_addEntrant rfl rfl rfl (by decide +kernel) ⟨Nat.le_of_ble_eq_true rfl, Nat.le_of_ble_eq_true rfl⟩) hG hP hD hS hA (pmT cy a o bo u.1 u.2 (wX12 cy a' o' T)) (pmT cy a o bo u.1 u.2 (wX12 cy a' o' T')) rfl rfl rfl hl.1 rfl (Nat.le_of_ble_eq_true rfl) dL_law_328 hc (fun H locs hP hD hS => ?_)
  refine lv_istore (lv' := [(6, .int v), (5, .int r), (4, .int i), (0, .ref b), (1, .ref (a o)), (2, .ref (a' o')), (3, .ref bo)]) hx hb dL_law_331 hl (by decide) rfl (fun ls hl => ?_)
  exact lTail C0 hc hcode hout hP hl dL_law_333 dL_law_334 dL_law_337 dL_law_339 dL_law_344 dL_law_346 dL_law_349 dL_law_350 dL_law_351 dL_law_352 dL_law_354 dL_law_355 dL_law_356 dL_law_361 (by decide) (fun hl => kk u.1 T' u.2 H locs ls hG' hP hD hS hl)
theorem lawC_bar (C : lX p l s m c b L xs D cy tt) (hc : lC cells slots) (hGG : GG S T) (g1 : vp_in (i + 1) L) (g2 : vp_in (i + 2) L) (g3 : vp_in (i + 3) L) (hP : va_P D vwCl (oC cy bo f :: (wX11 cy a o S ++ wX12 cy a' o' T)) H) (hD : va_D (fun q => s.heap.size ≤ q) (oC cy bo f :: (wX11 cy a o S ++ wX12 cy a' o' T))) (hS : va_S (fun q => s.heap.size ≤ q) s.heap H locs) (hl : lv_has ls 7 [(4, .int i), (0, .ref b), (1, .ref (a o)), (2, .ref (a' o')), (3, .ref bo)]) (kk : lK p l e s m below meth c D cy b a o a' o' bo i cells slots Q) : W p l e room_1 s m #[Value.ref b] below meth c H locs cells slots Q (F0 m 364 ls []) := by
  have C0 := C
  obtain ⟨hx, hb, hml, hown, hts, hX, hbl, hl9, hG, hGX, hN⟩ := C
  have hA : ∀ q : Nat, s.heap.size ≤ q → (fun q : Nat => s.heap.size ≤ q) q := fun _ h => h
  obtain ⟨w1, e1, l1, u1⟩ := i32 (xs (i + 1).toNatClampNeg)
  obtain ⟨w2, e2, l2, u2⟩ := i32 (xs (i + 2).toNatClampNeg)
  by_cases hz : xs (i + 3).toNatClampNeg = 0
  · have hk := K_bar hGG (β := false) l1 u1 l2 u2
    rw [← e1, ← e2, (by decide : bI false = (0 : Int32))] at hk
    obtain ⟨res, v, T', hw, hr2, hcode, hG', hout⟩ := brB hk (by decide) f
    refine lv_aload_n hx hb dL_law_364 rfl (lv_at hl 2 rfl) ?_
    refine lRd (k := 1) C0 hS (lv_at hl 1 rfl) (lv_at hl 0 rfl) (by decide) g1 dL_law_365 dL_law_366 dL_law_368 dL_law_369 dL_law_370 ?_
    refine lRd (k := 2) C0 hS (lv_at hl 1 rfl) (lv_at hl 0 rfl) (by decide) g2 dL_law_371 dL_law_372 dL_law_374 dL_law_375 dL_law_376 ?_
    refine lRd (k := 3) C0 hS (lv_at hl 1 rfl) (lv_at hl 0 rfl) (by decide) g3 dL_law_377 dL_law_378 dL_law_380 dL_law_381 dL_law_382 ?_
    refine lv_if_eq (tgt := 390) hx hb dL_law_383 (by decide) (fun cc => ?_) (fun cc => absurd hz cc)
    refine lv_iconst (v := (0 : Int32)) hx hb dL_law_390 (by decide) ?_
    refine lv_aload_n hx hb dL_law_391 rfl (lv_at hl 4 rfl) ?_
    refine lcW hG hGX hN hP hD hS hA (mc := 2) (ms := 12) (fun h1 h2 => vx_runSX (As := [.ref (a o), .int (xs (i + 1).toNatClampNeg), .int (xs (i + 2).toNatClampNeg), .int (0 : Int32), .ref bo]) (rest := []) ⟨hx, hb, hml, hown, hts⟩ (qL_bar l hl9 D cy tt a o bo S (xs (i + 1).toNatClampNeg) (xs (i + 2).toNatClampNeg) (0 : Int32) f H.size res hw) (vx_cwSW 5 hts gL_law_L_bar rfl rfl rfl (by decide +kernel) ⟨Nat.le_of_ble_eq_true rfl, Nat.le_of_ble_eq_true rfl⟩) ⟨h1, h2⟩ rfl rfl hl.1 rfl (lv_room (Nat.le_of_ble_eq_true rfl)) dL_law_392 (lRm hc (by decide) (by decide))) (c2 := cells + 5) (s2 := slots + 30) (Nat.add_le_add_left (by decide) _) (Nat.add_le_add_left (by decide) _) (fun r u H locs hq hP hD hS => ?_)
    have hq : (r, u) = res := hq
    subst hq
    have hcode : gX12_code T' = r := hcode
    have hG' : GG u.1 T' := hG'
    refine lv_istore (lv' := [(5, .int r), (4, .int i), (0, .ref b), (1, .ref (a o)), (2, .ref (a' o')), (3, .ref bo)]) hx hb dL_law_395 hl (by decide) rfl (fun ls hl => ?_)
    refine lv_aload_n hx hb dL_law_397 rfl (lv_at hl 4 rfl) ?_
    refine lRd (k := 1) C0 hS (lv_at hl 2 rfl) (lv_at hl 1 rfl) (by decide) g1 dL_law_398 dL_law_399 dL_law_401 dL_law_402 dL_law_403 ?_
    refine lRd (k := 2) C0 hS (lv_at hl 2 rfl) (lv_at hl 1 rfl) (by decide) g2 dL_law_404 dL_law_405 dL_law_407 dL_law_408 dL_law_409 ?_
    refine lRd (k := 3) C0 hS (lv_at hl 2 rfl) (lv_at hl 1 rfl) (by decide) g3 dL_law_410 dL_law_411 dL_law_413 dL_law_414 dL_law_415 ?_
    refine lv_if_eq (tgt := 423) hx hb dL_law_416 (by decide) (fun cc => ?_) (fun cc => absurd hz cc)
    refine lv_iconst (v := (0 : Int32)) hx hb dL_law_423 (by decide) ?_
    refine smVi (As := [.int (xs (i + 1).toNatClampNeg), .int (xs (i + 2).toNatClampNeg), .int (0 : Int32)]) (rest := []) (ws' := oC cy bo u.2 :: (wX11 cy a o u.1 ++ wX12 cy a' o' T')) (q0 := 0) (ci := 12) (qX12_bar l D cy a' o' T (xs (i + 1).toNatClampNeg) (xs (i + 2).toNatClampNeg) (0 : Int32) H.size (v, T') hr2) ⟨hx, hb, hml, hown, hts⟩ (cwV 3 hts gL_law_X12_bar rfl rfl rfl (by decide +kernel) ⟨Nat.le_of_ble_eq_true rfl, Nat.le_of_ble_eq_true rfl⟩) hG hP hD hS hA (pmT cy a o bo u.1 u.2 (wX12 cy a' o' T)) (pmT cy a o bo u.1 u.2 (wX12 cy a' o' T')) rfl rfl rfl hl.1 rfl (Nat.le_of_ble_eq_true rfl) dL_law_424 hc (fun H locs hP hD hS => ?_)
    refine lv_istore (lv' := [(6, .int v), (5, .int r), (4, .int i), (0, .ref b), (1, .ref (a o)), (2, .ref (a' o')), (3, .ref bo)]) hx hb dL_law_427 hl (by decide) rfl (fun ls hl => ?_)
    exact lTailB C0 hc hcode hout hP hl dL_law_429 dL_law_430 dL_law_433 dL_law_435 dL_law_440 dL_law_442 dL_law_445 dL_law_446 dL_law_447 dL_law_448 dL_law_450 dL_law_453 dL_law_454 dL_law_457 dL_law_458 dL_law_459 dL_law_464 (by decide) (fun hl => kk u.1 T' u.2 H locs ls hG' hP hD hS hl)
  · have hk := K_bar hGG (β := true) l1 u1 l2 u2
    rw [← e1, ← e2, (by decide : bI true = (1 : Int32))] at hk
    obtain ⟨res, v, T', hw, hr2, hcode, hG', hout⟩ := brB hk (by decide) f
    refine lv_aload_n hx hb dL_law_364 rfl (lv_at hl 2 rfl) ?_
    refine lRd (k := 1) C0 hS (lv_at hl 1 rfl) (lv_at hl 0 rfl) (by decide) g1 dL_law_365 dL_law_366 dL_law_368 dL_law_369 dL_law_370 ?_
    refine lRd (k := 2) C0 hS (lv_at hl 1 rfl) (lv_at hl 0 rfl) (by decide) g2 dL_law_371 dL_law_372 dL_law_374 dL_law_375 dL_law_376 ?_
    refine lRd (k := 3) C0 hS (lv_at hl 1 rfl) (lv_at hl 0 rfl) (by decide) g3 dL_law_377 dL_law_378 dL_law_380 dL_law_381 dL_law_382 ?_
    refine lv_if_eq (tgt := 390) hx hb dL_law_383 (by decide) (fun cc => absurd cc hz) (fun cc => ?_)
    refine lv_iconst (v := (1 : Int32)) hx hb dL_law_386 (by decide) ?_
    refine lv_goto (tgt := 391) hx hb dL_law_387 (by decide) ?_
    refine lv_aload_n hx hb dL_law_391 rfl (lv_at hl 4 rfl) ?_
    refine lcW hG hGX hN hP hD hS hA (mc := 2) (ms := 12) (fun h1 h2 => vx_runSX (As := [.ref (a o), .int (xs (i + 1).toNatClampNeg), .int (xs (i + 2).toNatClampNeg), .int (1 : Int32), .ref bo]) (rest := []) ⟨hx, hb, hml, hown, hts⟩ (qL_bar l hl9 D cy tt a o bo S (xs (i + 1).toNatClampNeg) (xs (i + 2).toNatClampNeg) (1 : Int32) f H.size res hw) (vx_cwSW 5 hts gL_law_L_bar rfl rfl rfl (by decide +kernel) ⟨Nat.le_of_ble_eq_true rfl, Nat.le_of_ble_eq_true rfl⟩) ⟨h1, h2⟩ rfl rfl hl.1 rfl (lv_room (Nat.le_of_ble_eq_true rfl)) dL_law_392 (lRm hc (by decide) (by decide))) (c2 := cells + 5) (s2 := slots + 30) (Nat.add_le_add_left (by decide) _) (Nat.add_le_add_left (by decide) _) (fun r u H locs hq hP hD hS => ?_)
    have hq : (r, u) = res := hq
    subst hq
    have hcode : gX12_code T' = r := hcode
    have hG' : GG u.1 T' := hG'
    refine lv_istore (lv' := [(5, .int r), (4, .int i), (0, .ref b), (1, .ref (a o)), (2, .ref (a' o')), (3, .ref bo)]) hx hb dL_law_395 hl (by decide) rfl (fun ls hl => ?_)
    refine lv_aload_n hx hb dL_law_397 rfl (lv_at hl 4 rfl) ?_
    refine lRd (k := 1) C0 hS (lv_at hl 2 rfl) (lv_at hl 1 rfl) (by decide) g1 dL_law_398 dL_law_399 dL_law_401 dL_law_402 dL_law_403 ?_
    refine lRd (k := 2) C0 hS (lv_at hl 2 rfl) (lv_at hl 1 rfl) (by decide) g2 dL_law_404 dL_law_405 dL_law_407 dL_law_408 dL_law_409 ?_
    refine lRd (k := 3) C0 hS (lv_at hl 2 rfl) (lv_at hl 1 rfl) (by decide) g3 dL_law_410 dL_law_411 dL_law_413 dL_law_414 dL_law_415 ?_
    refine lv_if_eq (tgt := 423) hx hb dL_law_416 (by decide) (fun cc => absurd cc hz) (fun cc => ?_)
    refine lv_iconst (v := (1 : Int32)) hx hb dL_law_419 (by decide) ?_
    refine lv_goto (tgt := 424) hx hb dL_law_420 (by decide) ?_
    refine smVi (As := [.int (xs (i + 1).toNatClampNeg), .int (xs (i + 2).toNatClampNeg), .int (1 : Int32)]) (rest := []) (ws' := oC cy bo u.2 :: (wX11 cy a o u.1 ++ wX12 cy a' o' T')) (q0 := 0) (ci := 12) (qX12_bar l D cy a' o' T (xs (i + 1).toNatClampNeg) (xs (i + 2).toNatClampNeg) (1 : Int32) H.size (v, T') hr2) ⟨hx, hb, hml, hown, hts⟩ (cwV 3 hts gL_law_X12_bar rfl rfl rfl (by decide +kernel) ⟨Nat.le_of_ble_eq_true rfl, Nat.le_of_ble_eq_true rfl⟩) hG hP hD hS hA (pmT cy a o bo u.1 u.2 (wX12 cy a' o' T)) (pmT cy a o bo u.1 u.2 (wX12 cy a' o' T')) rfl rfl rfl hl.1 rfl (Nat.le_of_ble_eq_true rfl) dL_law_424 hc (fun H locs hP hD hS => ?_)
    refine lv_istore (lv' := [(6, .int v), (5, .int r), (4, .int i), (0, .ref b), (1, .ref (a o)), (2, .ref (a' o')), (3, .ref bo)]) hx hb dL_law_427 hl (by decide) rfl (fun ls hl => ?_)
    exact lTailB C0 hc hcode hout hP hl dL_law_429 dL_law_430 dL_law_433 dL_law_435 dL_law_440 dL_law_442 dL_law_445 dL_law_446 dL_law_447 dL_law_448 dL_law_450 dL_law_453 dL_law_454 dL_law_457 dL_law_458 dL_law_459 dL_law_464 (by decide) (fun hl => kk u.1 T' u.2 H locs ls hG' hP hD hS hl)
theorem lawC_set (C : lX p l s m c b L xs D cy tt) (hc : lC cells slots) (hGG : GG S T) (g1 : vp_in (i + 1) L) (g2 : vp_in (i + 2) L) (g3 : vp_in (i + 3) L) (hP : va_P D vwCl (oC cy bo f :: (wX11 cy a o S ++ wX12 cy a' o' T)) H) (hD : va_D (fun q => s.heap.size ≤ q) (oC cy bo f :: (wX11 cy a o S ++ wX12 cy a' o' T))) (hS : va_S (fun q => s.heap.size ≤ q) s.heap H locs) (hl : lv_has ls 7 [(4, .int i), (0, .ref b), (1, .ref (a o)), (2, .ref (a' o')), (3, .ref bo)]) (kk : lK p l e s m below meth c D cy b a o a' o' bo i cells slots Q) : W p l e room_1 s m #[Value.ref b] below meth c H locs cells slots Q (F0 m 467 ls []) := by
  have C0 := C
  obtain ⟨hx, hb, hml, hown, hts, hX, hbl, hl9, hG, hGX, hN⟩ := C
  have hA : ∀ q : Nat, s.heap.size ≤ q → (fun q : Nat => s.heap.size ≤ q) q := fun _ h => h
  obtain ⟨w1, e1, l1, u1⟩ := i32 (xs (i + 1).toNatClampNeg)
  obtain ⟨w2, e2, l2, u2⟩ := i32 (xs (i + 2).toNatClampNeg)
  have hk := K_set hGG l1 u1 l2 u2
  rw [← e1, ← e2] at hk
  obtain ⟨res, v, T', hw, hr2, hcode, hG', hout⟩ := brO hk (by decide) f
  refine lv_aload_n hx hb dL_law_467 rfl (lv_at hl 2 rfl) ?_
  refine lRd (k := 1) C0 hS (lv_at hl 1 rfl) (lv_at hl 0 rfl) (by decide) g1 dL_law_468 dL_law_469 dL_law_471 dL_law_472 dL_law_473 ?_
  refine lRd (k := 2) C0 hS (lv_at hl 1 rfl) (lv_at hl 0 rfl) (by decide) g2 dL_law_474 dL_law_475 dL_law_477 dL_law_478 dL_law_479 ?_
  refine lv_aload_n hx hb dL_law_480 rfl (lv_at hl 4 rfl) ?_
  refine lcW hG hGX hN hP hD hS hA (mc := 3) (ms := 18) (fun h1 h2 => vx_runSX (As := [.ref (a o), .int (xs (i + 1).toNatClampNeg), .int (xs (i + 2).toNatClampNeg), .ref bo]) (rest := []) ⟨hx, hb, hml, hown, hts⟩ (qL_set l hl9 D cy tt a o bo S (xs (i + 1).toNatClampNeg) (xs (i + 2).toNatClampNeg) f H.size res hw) (vx_cwSW 4 hts gL_law_L_set rfl rfl rfl (by decide +kernel) ⟨Nat.le_of_ble_eq_true rfl, Nat.le_of_ble_eq_true rfl⟩) ⟨h1, h2⟩ rfl rfl hl.1 rfl (lv_room (Nat.le_of_ble_eq_true rfl)) dL_law_481 (lRm hc (by decide) (by decide))) (c2 := cells + 5) (s2 := slots + 30) (Nat.add_le_add_left (by decide) _) (Nat.add_le_add_left (by decide) _) (fun r u H locs hq hP hD hS => ?_)
  have hq : (r, u) = res := hq
  subst hq
  have hcode : gX12_code T' = r := hcode
  have hG' : GG u.1 T' := hG'
  refine lv_istore (lv' := [(5, .int r), (4, .int i), (0, .ref b), (1, .ref (a o)), (2, .ref (a' o')), (3, .ref bo)]) hx hb dL_law_484 hl (by decide) rfl (fun ls hl => ?_)
  refine lv_aload_n hx hb dL_law_486 rfl (lv_at hl 4 rfl) ?_
  refine lRd (k := 1) C0 hS (lv_at hl 2 rfl) (lv_at hl 1 rfl) (by decide) g1 dL_law_487 dL_law_488 dL_law_490 dL_law_491 dL_law_492 ?_
  refine lRd (k := 2) C0 hS (lv_at hl 2 rfl) (lv_at hl 1 rfl) (by decide) g2 dL_law_493 dL_law_494 dL_law_496 dL_law_497 dL_law_498 ?_
  refine smVi (As := [.int (xs (i + 1).toNatClampNeg), .int (xs (i + 2).toNatClampNeg)]) (rest := []) (ws' := oC cy bo u.2 :: (wX11 cy a o u.1 ++ wX12 cy a' o' T')) (q0 := 0) (ci := 12) (qX12_set l D cy a' o' T (xs (i + 1).toNatClampNeg) (xs (i + 2).toNatClampNeg) H.size (v, T') hr2) ⟨hx, hb, hml, hown, hts⟩ (cwV 2 hts gL_law_X12_set rfl rfl rfl (by decide +kernel) ⟨Nat.le_of_ble_eq_true rfl, Nat.le_of_ble_eq_true rfl⟩) hG hP hD hS hA (pmT cy a o bo u.1 u.2 (wX12 cy a' o' T)) (pmT cy a o bo u.1 u.2 (wX12 cy a' o' T')) rfl rfl rfl hl.1 rfl (Nat.le_of_ble_eq_true rfl) dL_law_499 hc (fun H locs hP hD hS => ?_)
  refine lv_istore (lv' := [(6, .int v), (5, .int r), (4, .int i), (0, .ref b), (1, .ref (a o)), (2, .ref (a' o')), (3, .ref bo)]) hx hb dL_law_502 hl (by decide) rfl (fun ls hl => ?_)
  exact lTail C0 hc hcode hout hP hl dL_law_504 dL_law_505 dL_law_508 dL_law_510 dL_law_515 dL_law_517 dL_law_520 dL_law_521 dL_law_522 dL_law_523 dL_law_525 dL_law_526 dL_law_527 dL_law_532 (by decide) (fun hl => kk u.1 T' u.2 H locs ls hG' hP hD hS hl)
theorem lawC_setRule (C : lX p l s m c b L xs D cy tt) (hc : lC cells slots) (hGG : GG S T) (g1 : vp_in (i + 1) L) (g2 : vp_in (i + 2) L) (g3 : vp_in (i + 3) L) (hP : va_P D vwCl (oC cy bo f :: (wX11 cy a o S ++ wX12 cy a' o' T)) H) (hD : va_D (fun q => s.heap.size ≤ q) (oC cy bo f :: (wX11 cy a o S ++ wX12 cy a' o' T))) (hS : va_S (fun q => s.heap.size ≤ q) s.heap H locs) (hl : lv_has ls 7 [(4, .int i), (0, .ref b), (1, .ref (a o)), (2, .ref (a' o')), (3, .ref bo)]) (kk : lK p l e s m below meth c D cy b a o a' o' bo i cells slots Q) : W p l e room_1 s m #[Value.ref b] below meth c H locs cells slots Q (F0 m 535 ls []) := by
  have C0 := C
  obtain ⟨hx, hb, hml, hown, hts, hX, hbl, hl9, hG, hGX, hN⟩ := C
  have hA : ∀ q : Nat, s.heap.size ≤ q → (fun q : Nat => s.heap.size ≤ q) q := fun _ h => h
  obtain ⟨w1, e1, l1, u1⟩ := i32 (xs (i + 1).toNatClampNeg)
  obtain ⟨w2, e2, l2, u2⟩ := i32 (xs (i + 2).toNatClampNeg)
  obtain ⟨w3, e3, l3, u3⟩ := i32 (xs (i + 3).toNatClampNeg)
  have hk := K_setRule hGG l1 u1 l2 u2 l3 u3
  rw [← e1, ← e2, ← e3] at hk
  obtain ⟨res, v, T', hw, hr2, hcode, hG', hout⟩ := brO hk (by decide) f
  refine lv_aload_n hx hb dL_law_535 rfl (lv_at hl 2 rfl) ?_
  refine lRd (k := 1) C0 hS (lv_at hl 1 rfl) (lv_at hl 0 rfl) (by decide) g1 dL_law_536 dL_law_537 dL_law_539 dL_law_540 dL_law_541 ?_
  refine lRd (k := 2) C0 hS (lv_at hl 1 rfl) (lv_at hl 0 rfl) (by decide) g2 dL_law_542 dL_law_543 dL_law_545 dL_law_546 dL_law_547 ?_
  refine lRd (k := 3) C0 hS (lv_at hl 1 rfl) (lv_at hl 0 rfl) (by decide) g3 dL_law_548 dL_law_549 dL_law_551 dL_law_552 dL_law_553 ?_
  refine lv_aload_n hx hb dL_law_554 rfl (lv_at hl 4 rfl) ?_
  refine lcW hG hGX hN hP hD hS hA (mc := 4) (ms := 24) (fun h1 h2 => vx_runSX (As := [.ref (a o), .int (xs (i + 1).toNatClampNeg), .int (xs (i + 2).toNatClampNeg), .int (xs (i + 3).toNatClampNeg), .ref bo]) (rest := []) ⟨hx, hb, hml, hown, hts⟩ (qL_setRule l hl9 D cy tt a o bo S (xs (i + 1).toNatClampNeg) (xs (i + 2).toNatClampNeg) (xs (i + 3).toNatClampNeg) f H.size res hw) (vx_cwSW 5 hts gL_law_L_setRule rfl rfl rfl (by decide +kernel) ⟨Nat.le_of_ble_eq_true rfl, Nat.le_of_ble_eq_true rfl⟩) ⟨h1, h2⟩ rfl rfl hl.1 rfl (lv_room (Nat.le_of_ble_eq_true rfl)) dL_law_555 (lRm hc (by decide) (by decide))) (c2 := cells + 5) (s2 := slots + 30) (Nat.add_le_add_left (by decide) _) (Nat.add_le_add_left (by decide) _) (fun r u H locs hq hP hD hS => ?_)
  have hq : (r, u) = res := hq
  subst hq
  have hcode : gX12_code T' = r := hcode
  have hG' : GG u.1 T' := hG'
  refine lv_istore (lv' := [(5, .int r), (4, .int i), (0, .ref b), (1, .ref (a o)), (2, .ref (a' o')), (3, .ref bo)]) hx hb dL_law_558 hl (by decide) rfl (fun ls hl => ?_)
  refine lv_aload_n hx hb dL_law_560 rfl (lv_at hl 4 rfl) ?_
  refine lRd (k := 1) C0 hS (lv_at hl 2 rfl) (lv_at hl 1 rfl) (by decide) g1 dL_law_561 dL_law_562 dL_law_564 dL_law_565 dL_law_566 ?_
  refine lRd (k := 2) C0 hS (lv_at hl 2 rfl) (lv_at hl 1 rfl) (by decide) g2 dL_law_567 dL_law_568 dL_law_570 dL_law_571 dL_law_572 ?_
  refine lRd (k := 3) C0 hS (lv_at hl 2 rfl) (lv_at hl 1 rfl) (by decide) g3 dL_law_573 dL_law_574 dL_law_576 dL_law_577 dL_law_578 ?_
  refine smVi (As := [.int (xs (i + 1).toNatClampNeg), .int (xs (i + 2).toNatClampNeg), .int (xs (i + 3).toNatClampNeg)]) (rest := []) (ws' := oC cy bo u.2 :: (wX11 cy a o u.1 ++ wX12 cy a' o' T')) (q0 := 0) (ci := 12) (qX12_setRule l D cy a' o' T (xs (i + 1).toNatClampNeg) (xs (i + 2).toNatClampNeg) (xs (i + 3).toNatClampNeg) H.size (v, T') hr2) ⟨hx, hb, hml, hown, hts⟩ (cwV 3 hts gL_law_X12_setRule rfl rfl rfl (by decide +kernel) ⟨Nat.le_of_ble_eq_true rfl, Nat.le_of_ble_eq_true rfl⟩) hG hP hD hS hA (pmT cy a o bo u.1 u.2 (wX12 cy a' o' T)) (pmT cy a o bo u.1 u.2 (wX12 cy a' o' T')) rfl rfl rfl hl.1 rfl (Nat.le_of_ble_eq_true rfl) dL_law_579 hc (fun H locs hP hD hS => ?_)
  refine lv_istore (lv' := [(6, .int v), (5, .int r), (4, .int i), (0, .ref b), (1, .ref (a o)), (2, .ref (a' o')), (3, .ref bo)]) hx hb dL_law_582 hl (by decide) rfl (fun ls hl => ?_)
  exact lTail C0 hc hcode hout hP hl dL_law_584 dL_law_585 dL_law_588 dL_law_590 dL_law_595 dL_law_597 dL_law_600 dL_law_601 dL_law_602 dL_law_603 dL_law_605 dL_law_606 dL_law_607 dL_law_612 (by decide) (fun hl => kk u.1 T' u.2 H locs ls hG' hP hD hS hl)
theorem lawC_rule (C : lX p l s m c b L xs D cy tt) (hc : lC cells slots) (hGG : GG S T) (g1 : vp_in (i + 1) L) (g2 : vp_in (i + 2) L) (g3 : vp_in (i + 3) L) (hP : va_P D vwCl (oC cy bo f :: (wX11 cy a o S ++ wX12 cy a' o' T)) H) (hD : va_D (fun q => s.heap.size ≤ q) (oC cy bo f :: (wX11 cy a o S ++ wX12 cy a' o' T))) (hS : va_S (fun q => s.heap.size ≤ q) s.heap H locs) (hl : lv_has ls 7 [(4, .int i), (0, .ref b), (1, .ref (a o)), (2, .ref (a' o')), (3, .ref bo)]) (kk : lK p l e s m below meth c D cy b a o a' o' bo i cells slots Q) : W p l e room_1 s m #[Value.ref b] below meth c H locs cells slots Q (F0 m 615 ls []) := by
  have C0 := C
  obtain ⟨hx, hb, hml, hown, hts, hX, hbl, hl9, hG, hGX, hN⟩ := C
  have hA : ∀ q : Nat, s.heap.size ≤ q → (fun q : Nat => s.heap.size ≤ q) q := fun _ h => h
  obtain ⟨w1, e1, l1, u1⟩ := i32 (xs (i + 1).toNatClampNeg)
  obtain ⟨w2, e2, l2, u2⟩ := i32 (xs (i + 2).toNatClampNeg)
  have hk := K_rule hGG l1 u1 l2 u2
  rw [← e1, ← e2] at hk
  obtain ⟨res, v, T', hw, hr2, hcode, hG', hout⟩ := brR hk (by decide) f
  refine lv_aload_n hx hb dL_law_615 rfl (lv_at hl 2 rfl) ?_
  refine lRd (k := 1) C0 hS (lv_at hl 1 rfl) (lv_at hl 0 rfl) (by decide) g1 dL_law_616 dL_law_617 dL_law_619 dL_law_620 dL_law_621 ?_
  refine lRd (k := 2) C0 hS (lv_at hl 1 rfl) (lv_at hl 0 rfl) (by decide) g2 dL_law_622 dL_law_623 dL_law_625 dL_law_626 dL_law_627 ?_
  refine lv_aload_n hx hb dL_law_628 rfl (lv_at hl 4 rfl) ?_
  refine lcW hG hGX hN hP hD hS hA (mc := 2) (ms := 12) (fun h1 h2 => vx_runSX (As := [.ref (a o), .int (xs (i + 1).toNatClampNeg), .int (xs (i + 2).toNatClampNeg), .ref bo]) (rest := []) ⟨hx, hb, hml, hown, hts⟩ (qL_rule l hl9 D cy tt a o bo S (xs (i + 1).toNatClampNeg) (xs (i + 2).toNatClampNeg) f H.size res hw) (vx_cwSW 4 hts gL_law_L_rule rfl rfl rfl (by decide +kernel) ⟨Nat.le_of_ble_eq_true rfl, Nat.le_of_ble_eq_true rfl⟩) ⟨h1, h2⟩ rfl rfl hl.1 rfl (lv_room (Nat.le_of_ble_eq_true rfl)) dL_law_629 (lRm hc (by decide) (by decide))) (c2 := cells + 5) (s2 := slots + 30) (Nat.add_le_add_left (by decide) _) (Nat.add_le_add_left (by decide) _) (fun r u H locs hq hP hD hS => ?_)
  have hq : (r, u) = res := hq
  subst hq
  have hcode : gX12_code T' = r := hcode
  have hG' : GG u.1 T' := hG'
  refine lv_istore (lv' := [(5, .int r), (4, .int i), (0, .ref b), (1, .ref (a o)), (2, .ref (a' o')), (3, .ref bo)]) hx hb dL_law_632 hl (by decide) rfl (fun ls hl => ?_)
  refine lv_aload_n hx hb dL_law_634 rfl (lv_at hl 4 rfl) ?_
  refine lRd (k := 1) C0 hS (lv_at hl 2 rfl) (lv_at hl 1 rfl) (by decide) g1 dL_law_635 dL_law_636 dL_law_638 dL_law_639 dL_law_640 ?_
  refine lRd (k := 2) C0 hS (lv_at hl 2 rfl) (lv_at hl 1 rfl) (by decide) g2 dL_law_641 dL_law_642 dL_law_644 dL_law_645 dL_law_646 ?_
  refine smVi (As := [.int (xs (i + 1).toNatClampNeg), .int (xs (i + 2).toNatClampNeg)]) (rest := []) (ws' := oC cy bo u.2 :: (wX11 cy a o u.1 ++ wX12 cy a' o' T')) (q0 := 0) (ci := 12) (qX12_rule l D cy a' o' T (xs (i + 1).toNatClampNeg) (xs (i + 2).toNatClampNeg) H.size (v, T') hr2) ⟨hx, hb, hml, hown, hts⟩ (cwV 2 hts gL_law_X12_rule rfl rfl rfl (by decide +kernel) ⟨Nat.le_of_ble_eq_true rfl, Nat.le_of_ble_eq_true rfl⟩) hG hP hD hS hA (pmT cy a o bo u.1 u.2 (wX12 cy a' o' T)) (pmT cy a o bo u.1 u.2 (wX12 cy a' o' T')) rfl rfl rfl hl.1 rfl (Nat.le_of_ble_eq_true rfl) dL_law_647 hc (fun H locs hP hD hS => ?_)
  refine lv_istore (lv' := [(6, .int v), (5, .int r), (4, .int i), (0, .ref b), (1, .ref (a o)), (2, .ref (a' o')), (3, .ref bo)]) hx hb dL_law_650 hl (by decide) rfl (fun ls hl => ?_)
  exact lTail C0 hc hcode hout hP hl dL_law_652 dL_law_653 dL_law_656 dL_law_658 dL_law_663 dL_law_665 dL_law_668 dL_law_669 dL_law_670 dL_law_671 dL_law_673 dL_law_674 dL_law_675 dL_law_680 (by decide) (fun hl => kk u.1 T' u.2 H locs ls hG' hP hD hS hl)
theorem lawC_setProgram (C : lX p l s m c b L xs D cy tt) (hc : lC cells slots) (hGG : GG S T) (g1 : vp_in (i + 1) L) (g2 : vp_in (i + 2) L) (g3 : vp_in (i + 3) L) (hP : va_P D vwCl (oC cy bo f :: (wX11 cy a o S ++ wX12 cy a' o' T)) H) (hD : va_D (fun q => s.heap.size ≤ q) (oC cy bo f :: (wX11 cy a o S ++ wX12 cy a' o' T))) (hS : va_S (fun q => s.heap.size ≤ q) s.heap H locs) (hl : lv_has ls 7 [(4, .int i), (0, .ref b), (1, .ref (a o)), (2, .ref (a' o')), (3, .ref bo)]) (kk : lK p l e s m below meth c D cy b a o a' o' bo i cells slots Q) : W p l e room_1 s m #[Value.ref b] below meth c H locs cells slots Q (F0 m 683 ls []) := by
  have C0 := C
  obtain ⟨hx, hb, hml, hown, hts, hX, hbl, hl9, hG, hGX, hN⟩ := C
  have hA : ∀ q : Nat, s.heap.size ≤ q → (fun q : Nat => s.heap.size ≤ q) q := fun _ h => h
  obtain ⟨w1, e1, l1, u1⟩ := i32 (xs (i + 1).toNatClampNeg)
  obtain ⟨w2, e2, l2, u2⟩ := i32 (xs (i + 2).toNatClampNeg)
  have hk := K_setProgram hGG l1 u1 l2 u2
  rw [← e1, ← e2] at hk
  obtain ⟨v, T', hw, hr2, hall⟩ := brS hk f
  refine lv_aload_n hx hb dL_law_683 rfl (lv_at hl 2 rfl) ?_
  refine lRd (k := 1) C0 hS (lv_at hl 1 rfl) (lv_at hl 0 rfl) (by decide) g1 dL_law_684 dL_law_685 dL_law_687 dL_law_688 dL_law_689 ?_
  refine lRd (k := 2) C0 hS (lv_at hl 1 rfl) (lv_at hl 0 rfl) (by decide) g2 dL_law_690 dL_law_691 dL_law_693 dL_law_694 dL_law_695 ?_
  refine lv_aload_n hx hb dL_law_696 rfl (lv_at hl 4 rfl) ?_
  refine lcW hG hGX hN hP hD hS hA (mc := 3) (ms := 18) (fun h1 h2 => vx_runSX (As := [.ref (a o), .int (xs (i + 1).toNatClampNeg), .int (xs (i + 2).toNatClampNeg), .ref bo]) (rest := []) ⟨hx, hb, hml, hown, hts⟩ (qL_setProgram l hl9 D cy tt a o bo S (xs (i + 1).toNatClampNeg) (xs (i + 2).toNatClampNeg) f H.size hw) (vx_cwSW 4 hts gL_law_L_setProgram rfl rfl rfl (by decide +kernel) ⟨Nat.le_of_ble_eq_true rfl, Nat.le_of_ble_eq_true rfl⟩) ⟨h1, h2⟩ rfl rfl hl.1 rfl (lv_room (Nat.le_of_ble_eq_true rfl)) dL_law_697 (lRm hc (by decide) (by decide))) (c2 := cells + 5) (s2 := slots + 30) (Nat.add_le_add_left (by decide) _) (Nat.add_le_add_left (by decide) _) (fun r u H locs hq hP hD hS => ?_)
  obtain ⟨hcode, hG', hout⟩ := hall r u hq
  refine lv_istore (lv' := [(5, .int r), (4, .int i), (0, .ref b), (1, .ref (a o)), (2, .ref (a' o')), (3, .ref bo)]) hx hb dL_law_700 hl (by decide) rfl (fun ls hl => ?_)
  refine lv_aload_n hx hb dL_law_702 rfl (lv_at hl 4 rfl) ?_
  refine lRd (k := 1) C0 hS (lv_at hl 2 rfl) (lv_at hl 1 rfl) (by decide) g1 dL_law_703 dL_law_704 dL_law_706 dL_law_707 dL_law_708 ?_
  refine lRd (k := 2) C0 hS (lv_at hl 2 rfl) (lv_at hl 1 rfl) (by decide) g2 dL_law_709 dL_law_710 dL_law_712 dL_law_713 dL_law_714 ?_
  refine smVi (As := [.int (xs (i + 1).toNatClampNeg), .int (xs (i + 2).toNatClampNeg)]) (rest := []) (ws' := oC cy bo u.2 :: (wX11 cy a o u.1 ++ wX12 cy a' o' T')) (q0 := 0) (ci := 12) (qX12_setProgram l D cy a' o' T (xs (i + 1).toNatClampNeg) (xs (i + 2).toNatClampNeg) H.size (v, T') hr2) ⟨hx, hb, hml, hown, hts⟩ (cwV 2 hts gL_law_X12_setProgram rfl rfl rfl (by decide +kernel) ⟨Nat.le_of_ble_eq_true rfl, Nat.le_of_ble_eq_true rfl⟩) hG hP hD hS hA (pmT cy a o bo u.1 u.2 (wX12 cy a' o' T)) (pmT cy a o bo u.1 u.2 (wX12 cy a' o' T')) rfl rfl rfl hl.1 rfl (Nat.le_of_ble_eq_true rfl) dL_law_715 hc (fun H locs hP hD hS => ?_)
  refine lv_istore (lv' := [(6, .int v), (5, .int r), (4, .int i), (0, .ref b), (1, .ref (a o)), (2, .ref (a' o')), (3, .ref bo)]) hx hb dL_law_718 hl (by decide) rfl (fun ls hl => ?_)
  exact lTail C0 hc hcode hout hP hl dL_law_720 dL_law_721 dL_law_724 dL_law_726 dL_law_731 dL_law_733 dL_law_736 dL_law_737 dL_law_738 dL_law_739 dL_law_741 dL_law_742 dL_law_743 dL_law_748 (by decide) (fun hl => kk u.1 T' u.2 H locs ls hG' hP hD hS hl)
end LT
