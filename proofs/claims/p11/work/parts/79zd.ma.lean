/-! ===== the reference without bounds: contracts of what lies before a call ===== -/
abbrev ma_Vd (mc : Nat) (τ u : Nat → Nat) (tv : Nat) := ab_Vd am_fty am_dfl am_cmp am_lk am_ms am_cx w_kd w_un w_uq (w_G mc) τ u tv (km_K u mc) (fun _ => 0) (fun _ => 0)
def ma_G (C : ab_C) : ab_C := (C.1, C.2.1, C.2.2.1, C.2.2.2.1, (1000, 1000, C.2.2.2.2.2.2.1, C.2.2.2.2.2.2.2))
theorem ma_of {mc : Nat} {τ u : Nat → Nat} {tv j : Nat} {C : ab_C} (hV : md_Vd mc τ u tv j C) : ma_Vd mc τ u tv j (ma_G C) := by
  intro mj hmj ρ h as had hI hK hA hF
  obtain ⟨f, r, hr, e, he, hend, hH, hfb⟩ := hV mj hmj ρ h as had hI hK hA hF
  obtain ⟨i1, i2, i3, i4, -, -, i7, i8⟩ := hH
  exact ⟨f, r, hr, e, he, hend, ⟨i1, i2, i3, i4, Nat.le_refl _, Nat.le_refl _, i7, i8⟩, hfb⟩
