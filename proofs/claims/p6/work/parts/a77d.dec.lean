/-! ===== the law's ===== -/
set_option maxRecDepth 100000 in
theorem am_d146_0 : ∀ x ∈ am_c146_0, decode code x.1 = .ok (x.2.1, x.2.2) := by decide +kernel
set_option maxRecDepth 100000 in
theorem am_d146_1 : ∀ x ∈ am_c146_1, decode code x.1 = .ok (x.2.1, x.2.2) := by decide +kernel
set_option maxRecDepth 100000 in
theorem am_d146_2 : ∀ x ∈ am_c146_2, decode code x.1 = .ok (x.2.1, x.2.2) := by decide +kernel
set_option maxRecDepth 100000 in
theorem am_d146_3 : ∀ x ∈ am_c146_3, decode code x.1 = .ok (x.2.1, x.2.2) := by decide +kernel
set_option maxRecDepth 100000 in
theorem am_d146_4 : ∀ x ∈ am_c146_4, decode code x.1 = .ok (x.2.1, x.2.2) := by decide +kernel
set_option maxRecDepth 100000 in
theorem am_d146_5 : ∀ x ∈ am_c146_5, decode code x.1 = .ok (x.2.1, x.2.2) := by decide +kernel
