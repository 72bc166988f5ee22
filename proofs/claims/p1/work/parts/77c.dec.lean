/-! ===== the instructions are the bytes' ===== -/
set_option maxRecDepth 100000 in
theorem am_d68 : ∀ x ∈ am_c68, decode prog_11_method_31_code x.1 = .ok (x.2.1, x.2.2) := by decide +kernel
set_option maxRecDepth 100000 in
theorem am_d69 : ∀ x ∈ am_c69, decode prog_11_method_6_code x.1 = .ok (x.2.1, x.2.2) := by decide +kernel
set_option maxRecDepth 100000 in
theorem am_d70 : ∀ x ∈ am_c70, decode prog_11_method_39_code x.1 = .ok (x.2.1, x.2.2) := by decide +kernel
set_option maxRecDepth 100000 in
theorem am_d71 : ∀ x ∈ am_c71, decode prog_11_method_3_code x.1 = .ok (x.2.1, x.2.2) := by decide +kernel
set_option maxRecDepth 100000 in
theorem am_d72 : ∀ x ∈ am_c72, decode prog_11_method_42_code x.1 = .ok (x.2.1, x.2.2) := by decide +kernel
set_option maxRecDepth 100000 in
theorem am_d73 : ∀ x ∈ am_c73, decode prog_11_method_49_code x.1 = .ok (x.2.1, x.2.2) := by decide +kernel
set_option maxRecDepth 100000 in
theorem am_d74 : ∀ x ∈ am_c74, decode prog_11_method_48_code x.1 = .ok (x.2.1, x.2.2) := by decide +kernel
set_option maxRecDepth 100000 in
theorem am_d75 : ∀ x ∈ am_c75, decode prog_11_method_36_code x.1 = .ok (x.2.1, x.2.2) := by decide +kernel
set_option maxRecDepth 100000 in
theorem am_d76 : ∀ x ∈ am_c76, decode prog_11_method_32_code x.1 = .ok (x.2.1, x.2.2) := by decide +kernel
set_option maxRecDepth 100000 in
theorem am_d77 : ∀ x ∈ am_c77, decode prog_11_method_29_code x.1 = .ok (x.2.1, x.2.2) := by decide +kernel
set_option maxRecDepth 100000 in
theorem am_d78 : ∀ x ∈ am_c78, decode prog_11_method_38_code x.1 = .ok (x.2.1, x.2.2) := by decide +kernel
set_option maxRecDepth 100000 in
theorem am_d79 : ∀ x ∈ am_c79, decode prog_11_method_4_code x.1 = .ok (x.2.1, x.2.2) := by decide +kernel
set_option maxRecDepth 100000 in
theorem am_d80 : ∀ x ∈ am_c80, decode prog_11_method_2_code x.1 = .ok (x.2.1, x.2.2) := by decide +kernel
set_option maxRecDepth 100000 in
theorem am_d81 : ∀ x ∈ am_c81, decode prog_11_method_37_code x.1 = .ok (x.2.1, x.2.2) := by decide +kernel
set_option maxRecDepth 100000 in
theorem am_d82 : ∀ x ∈ am_c82, decode prog_11_method_50_code x.1 = .ok (x.2.1, x.2.2) := by decide +kernel
set_option maxRecDepth 100000 in
theorem am_d83 : ∀ x ∈ am_c83, decode prog_11_method_22_code x.1 = .ok (x.2.1, x.2.2) := by decide +kernel
set_option maxRecDepth 100000 in
theorem am_d84 : ∀ x ∈ am_c84, decode method_9_code x.1 = .ok (x.2.1, x.2.2) := by decide +kernel
set_option maxRecDepth 100000 in
theorem am_d85 : ∀ x ∈ am_c85, decode method_12_code x.1 = .ok (x.2.1, x.2.2) := by decide +kernel
set_option maxRecDepth 100000 in
theorem am_d86 : ∀ x ∈ am_c86, decode method_11_code x.1 = .ok (x.2.1, x.2.2) := by decide +kernel
set_option maxRecDepth 100000 in
theorem am_d87 : ∀ x ∈ am_c87, decode method_10_code x.1 = .ok (x.2.1, x.2.2) := by decide +kernel
set_option maxRecDepth 100000 in
theorem am_d88 : ∀ x ∈ am_c88, decode method_13_code x.1 = .ok (x.2.1, x.2.2) := by decide +kernel
set_option maxRecDepth 100000 in
theorem am_d89 : ∀ x ∈ am_c89, decode method_6_code x.1 = .ok (x.2.1, x.2.2) := by decide +kernel
set_option maxRecDepth 100000 in
theorem am_d90 : ∀ x ∈ am_c90, decode method_7_code x.1 = .ok (x.2.1, x.2.2) := by decide +kernel
set_option maxRecDepth 100000 in
theorem am_d91 : ∀ x ∈ am_c91, decode method_3_code x.1 = .ok (x.2.1, x.2.2) := by decide +kernel
set_option maxRecDepth 100000 in
theorem am_d92 : ∀ x ∈ am_c92, decode method_4_code x.1 = .ok (x.2.1, x.2.2) := by decide +kernel
set_option maxRecDepth 100000 in
theorem am_d93 : ∀ x ∈ am_c93, decode method_15_code x.1 = .ok (x.2.1, x.2.2) := by decide +kernel
set_option maxRecDepth 100000 in
theorem am_d94 : ∀ x ∈ am_c94, decode method_14_code x.1 = .ok (x.2.1, x.2.2) := by decide +kernel
set_option maxRecDepth 100000 in
theorem am_d95 : ∀ x ∈ am_c95, decode method_8_code x.1 = .ok (x.2.1, x.2.2) := by decide +kernel
set_option maxRecDepth 100000 in
theorem am_d96 : ∀ x ∈ am_c96, decode method_5_code x.1 = .ok (x.2.1, x.2.2) := by decide +kernel
set_option maxRecDepth 100000 in
theorem am_d97 : ∀ x ∈ am_c97, decode method_16_code x.1 = .ok (x.2.1, x.2.2) := by decide +kernel
set_option maxRecDepth 100000 in
theorem am_d98 : ∀ x ∈ am_c98, decode prog_21_method_103_code x.1 = .ok (x.2.1, x.2.2) := by decide +kernel
