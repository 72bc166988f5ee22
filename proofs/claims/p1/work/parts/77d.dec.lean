/-! ===== the law's ===== -/
set_option maxRecDepth 100000 in
theorem am_d99_0 : ∀ x ∈ am_c99_0, decode code x.1 = .ok (x.2.1, x.2.2) := by decide +kernel
set_option maxRecDepth 100000 in
theorem am_d99_1 : ∀ x ∈ am_c99_1, decode code x.1 = .ok (x.2.1, x.2.2) := by decide +kernel
set_option maxRecDepth 100000 in
theorem am_d99_2 : ∀ x ∈ am_c99_2, decode code x.1 = .ok (x.2.1, x.2.2) := by decide +kernel
set_option maxRecDepth 100000 in
theorem am_d99_3 : ∀ x ∈ am_c99_3, decode code x.1 = .ok (x.2.1, x.2.2) := by decide +kernel
set_option maxRecDepth 100000 in
theorem am_d99_4 : ∀ x ∈ am_c99_4, decode code x.1 = .ok (x.2.1, x.2.2) := by decide +kernel
set_option maxRecDepth 100000 in
theorem am_d99_5 : ∀ x ∈ am_c99_5, decode code x.1 = .ok (x.2.1, x.2.2) := by decide +kernel
set_option maxRecDepth 100000 in
theorem am_d99_6 : ∀ x ∈ am_c99_6, decode code x.1 = .ok (x.2.1, x.2.2) := by decide +kernel
set_option maxRecDepth 100000 in
theorem am_d99_7 : ∀ x ∈ am_c99_7, decode code x.1 = .ok (x.2.1, x.2.2) := by decide +kernel
set_option maxRecDepth 100000 in
theorem am_d99_8 : ∀ x ∈ am_c99_8, decode code x.1 = .ok (x.2.1, x.2.2) := by decide +kernel
