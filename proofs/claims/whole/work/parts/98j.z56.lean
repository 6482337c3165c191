section IG
/-- a new object of the class -/
def re0 : SX5 := (0, (fun _ => co0, fun i => i))
def tx0 : SX8 := (0, (fun _ => 0), 0, (fun _ => 0), fun _ => 0)
def to0 : SX11 := (co0, re0, tx0)
theorem in_GG {S : SX12} (h1 : gX12_m S = mI inZ) (h2 : gX12_saved S = mI (fun _ => 0)) (h3 : gX12_savedCount S = iI 0) (h4 : gX12_textLength S = iI 0) : GG to0 S :=
  ⟨inZ, fun _ => 0, 0, h1, h2, h3, in_nz, in_MK, in_Cp, ⟨id rfl, by omega, fun i hi => hi, fun i j hi hj h => absurd (show i = j from h) (by omega), fun i hi => absurd hi (by omega)⟩, 0, fun _ => 0, id rfl, h4, by omega, fun k a b => absurd b (by omega)⟩
/-- the law's first state: the class's and the reference's are coupled -/
theorem start_GG : ∃ rs, DX12_init (((fun _ => 0), (fun _ => 0), 0, (fun _ => 0), 0, 0, (fun _ => 0), (fun _ => 0), (fun _ => 0), 0, 0, 0) : SX12) = some rs ∧ GG to0 rs := by
  obtain ⟨rs, h, h1, h2, h3, h4⟩ := R_init
  exact ⟨rs, h, in_GG h1 h2 h3 h4⟩
end IG
