/-! ===== the law's ===== -/
set_option maxRecDepth 100000 in
theorem am_d147_0 : ∀ x ∈ am_c147_0, decode code x.1 = .ok (x.2.1, x.2.2) := by decide +kernel
set_option maxRecDepth 100000 in
theorem am_d147_1 : ∀ x ∈ am_c147_1, decode code x.1 = .ok (x.2.1, x.2.2) := by decide +kernel
set_option maxRecDepth 100000 in
theorem am_d147_2 : ∀ x ∈ am_c147_2, decode code x.1 = .ok (x.2.1, x.2.2) := by decide +kernel
set_option maxRecDepth 100000 in
theorem am_d147_3 : ∀ x ∈ am_c147_3, decode code x.1 = .ok (x.2.1, x.2.2) := by decide +kernel
set_option maxRecDepth 100000 in
theorem am_d147_4 : ∀ x ∈ am_c147_4, decode code x.1 = .ok (x.2.1, x.2.2) := by decide +kernel
set_option maxRecDepth 100000 in
theorem am_d147_5 : ∀ x ∈ am_c147_5, decode code x.1 = .ok (x.2.1, x.2.2) := by decide +kernel
