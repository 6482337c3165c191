theorem clT (cy : Nat → ClassId) (a : Nat → Nat) (o : Nat) (S : SX11) : (wX11 cy a o S).set 268 (a (o + 268), .inr (8, [.int (gX8_length (gX11_text S)), .ref (a (o + 268 + 1)), .int (gX8_found (gX11_text S)), .ref (a (o + 268 + 2)), .ref (a (o + 268 + 3))].set 0 (.int (0 : Int32)))) = wX11 cy a o (uX11_text S (uX8_length (gX11_text S) (0 : Int32))) := by
  have h1 : ∀ T : SX11, gX11_now T = gX11_now S → gX11_records T = gX11_records S → wX11 cy a o T = (hX11 a o S ++ (wX0 cy a (o + 1) (gX11_now S) ++ wX5 cy a (o + 54) (gX11_records S))) ++ wX8 cy a (o + 268) (gX11_text T) := by
    intro T e1 e2
    unfold wX11
    rw [e1, e2, show hX11 a o T = hX11 a o S from rfl]
    simp only [List.append_assoc]
  have h2 : (hX11 a o S ++ (wX0 cy a (o + 1) (gX11_now S) ++ wX5 cy a (o + 54) (gX11_records S))).length = 268 := by
    simp only [compsW, kW, hX11, wX0, wX5, hX0, hX5, wX10, wX2, wX4, wX3, wX7, wX6, wX1, wX9, hX10, hX2, hX4, hX3, hX7, hX6, hX1, hX9, rowsW, aW, List.length_append, List.length_cons, List.length_nil, List.length_map, List.length_range]
  rw [h1 S rfl rfl, h1 (uX11_text S (uX8_length (gX11_text S) (0 : Int32))) rfl rfl, List.set_append_right _ _ (by rw [h2]; exact Nat.le_refl _), h2]
  rfl
