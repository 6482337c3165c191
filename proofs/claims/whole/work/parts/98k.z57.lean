section BR
variable {xs : List Nat} {T : SX11} {r2 : Option (Int32 × SX12)}
theorem code_ne {i n : Nat} (hx : xs[i]? = some n) (hl : xs.length ≤ 3) : iI ((i : Int) + 1) ≠ iI 0 := by
  have : i < xs.length := (List.getElem?_eq_some_iff.mp hx).1
  intro h
  rw [iI_eq (by omega) (by omega) (by omega) (by omega)] at h
  omega
/-- from both sides' like answers to what the wrapper and the reference tell the law -/
theorem brO {r1 : Option (Nat ⊕ (Int32 × SX11))} (h : Ans xs T r1 r2) (hl : xs.length ≤ 3) (f : Nat → Int64) : ∃ res v S', wrO xs T f r1 res ∧ r2 = some (v, S') ∧ gX12_code S' = res.1 ∧ GG res.2.1 S' ∧ (res.1 = iI 0 → res.2.2 = vp_updL f 0 v.toInt64) := by
  rcases h with ⟨v, T', S', h1, h2, h3, h4⟩ | ⟨n, i, v, S', h1, h2, h3, h4, h5⟩
  · exact ⟨_, v, S', Or.inl ⟨v, T', h1, rfl⟩, h2, h3, h4, fun _ => rfl⟩
  · exact ⟨_, v, S', Or.inr ⟨i, n, h1, h3, rfl⟩, h2, h4, h5, fun h => absurd h (code_ne h3 hl)⟩
theorem brB {r1 : Option (Nat ⊕ (Int32 × SX11))} (h : Ans xs T r1 r2) (hl : xs.length ≤ 3) (f : Nat → Int64) : ∃ res v S', wrB xs T f r1 res ∧ r2 = some (v, S') ∧ gX12_code S' = res.1 ∧ GG res.2.1 S' ∧ (res.1 = iI 0 → res.2.2 = vp_updL f 0 (if v = 0 then (0 : Int64) else 1)) := by
  rcases h with ⟨v, T', S', h1, h2, h3, h4⟩ | ⟨n, i, v, S', h1, h2, h3, h4, h5⟩
  · exact ⟨_, v, S', Or.inl ⟨v, T', h1, rfl⟩, h2, h3, h4, fun _ => rfl⟩
  · exact ⟨_, v, S', Or.inr ⟨i, n, h1, h3, rfl⟩, h2, h4, h5, fun h => absurd h (code_ne h3 hl)⟩
theorem brR {r1 : Option (Nat ⊕ Int32)} (h : AnsR xs T r1 r2) (hl : xs.length ≤ 3) (f : Nat → Int64) : ∃ res v S', wrR xs T f r1 res ∧ r2 = some (v, S') ∧ gX12_code S' = res.1 ∧ GG res.2.1 S' ∧ (res.1 = iI 0 → res.2.2 = vp_updL f 0 v.toInt64) := by
  rcases h with ⟨v, S', h1, h2, h3, h4⟩ | ⟨n, i, v, S', h1, h2, h3, h4, h5⟩
  · exact ⟨_, v, S', Or.inl ⟨v, h1, rfl⟩, h2, h3, h4, fun _ => rfl⟩
  · exact ⟨_, v, S', Or.inr ⟨i, n, h1, h3, rfl⟩, h2, h4, h5, fun h => absurd h (code_ne h3 hl)⟩
theorem brW {S : SX12} {w : Int} (h : GG T S) (hw : -2147483648 ≤ w) (hw' : w < 2147483648) (f : Nat → Int64) : ∃ res v S', wrW [2] T f (DX11_wouldBe (gX11_now T) (iI w)) res ∧ DX12_wouldBe S (iI w) = some (v, S') ∧ gX12_code S' = res.1 ∧ GG res.2.1 S' ∧ (res.1 = iI 0 → res.2.2 = vp_updL f 0 v.toInt64) := by
  rcases K_wouldBe h hw hw' with ⟨v, C', S', h1, h2, h3, h4⟩ | ⟨h1, v, S', h2, h3, h4⟩
  · exact ⟨_, v, S', Or.inl ⟨v, C', h1, rfl⟩, h2, h3, h4, fun _ => rfl⟩
  · exact ⟨_, v, S', Or.inr ⟨0, 2, h1, rfl, rfl⟩, h2, h3, h4, fun h => absurd h (code_ne (xs := [2]) (n := 2) rfl (by decide))⟩
theorem brS {r1 : Option (Nat ⊕ (Int32 × SX11))} (h : AnsS [1, 2] T r1 r2) (f : Nat → Int64) : ∃ v S', ((∃ v T', r1 = some (Sum.inr (v, T'))) ∨ ∃ (i n : Nat), r1 = some (Sum.inl n) ∧ ([1, 2] : List Nat)[i]? = some n) ∧ r2 = some (v, S') ∧ ∀ r u, wrS [1, 2] T f r1 r u → gX12_code S' = r ∧ GG u.1 S' ∧ (r = iI 0 → u.2 = vp_updL f 0 v.toInt64) := by
  rcases h with ⟨v, T', S', h1, h2, h3, h4⟩ | ⟨n, i, v, S', h1, h2, h3, h4, h5⟩
  · refine ⟨v, S', Or.inl ⟨v, T', h1⟩, h2, fun r u hw => ?_⟩
    rcases hw with ⟨v2, T2, e1, e2⟩ | ⟨i2, n2, e1, -⟩
    · rw [h1] at e1
      cases e1
      cases e2
      exact ⟨h3, h4, fun _ => rfl⟩
    · rw [h1] at e1
      cases e1
  · refine ⟨v, S', Or.inr ⟨i, n, h1, h3⟩, h2, fun r u hw => ?_⟩
    rcases hw with ⟨v2, T2, e1, e2⟩ | ⟨i2, n2, e1, e2, e3, e4, e5⟩
    · rw [h1] at e1
      cases e1
    · rw [h1] at e1
      cases e1
      have hi : i2 = i := by
        have l1 : i < 2 := (List.getElem?_eq_some_iff.mp h3).1
        have l2 : i2 < 2 := (List.getElem?_eq_some_iff.mp e2).1
        have c1 : i = 0 ∨ i = 1 := by omega
        have c2 : i2 = 0 ∨ i2 = 1 := by omega
        rcases c1 with rfl | rfl <;> rcases c2 with rfl | rfl
        · rfl
        · cases h3
          cases e2
        · cases h3
          cases e2
        · rfl
      subst hi
      exact ⟨by rw [h4, e3], h5 u.1 e4, fun h9 => absurd (e3.symm.trans h9) (code_ne e2 (by decide))⟩
end BR
