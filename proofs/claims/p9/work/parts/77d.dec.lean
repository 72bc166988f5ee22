/-! ===== the law's ===== -/
set_option maxRecDepth 100000 in
theorem am_d145_0 : ∀ x ∈ am_c145_0, decode code x.1 = .ok (x.2.1, x.2.2) := by decide +kernel
set_option maxRecDepth 100000 in
theorem am_d145_1 : ∀ x ∈ am_c145_1, decode code x.1 = .ok (x.2.1, x.2.2) := by decide +kernel
set_option maxRecDepth 100000 in
theorem am_d145_2 : ∀ x ∈ am_c145_2, decode code x.1 = .ok (x.2.1, x.2.2) := by decide +kernel
set_option maxRecDepth 100000 in
theorem am_d145_3 : ∀ x ∈ am_c145_3, decode code x.1 = .ok (x.2.1, x.2.2) := by decide +kernel
set_option maxRecDepth 100000 in
theorem am_d145_4 : ∀ x ∈ am_c145_4, decode code x.1 = .ok (x.2.1, x.2.2) := by decide +kernel
set_option maxRecDepth 100000 in
theorem am_d145_5 : ∀ x ∈ am_c145_5, decode code x.1 = .ok (x.2.1, x.2.2) := by decide +kernel
