/-! ===== the instructions are the bytes' ===== -/
set_option maxRecDepth 100000 in
theorem am_d34 : ∀ x ∈ am_c34, decode prog_8_method_8_code x.1 = .ok (x.2.1, x.2.2) := by decide +kernel
set_option maxRecDepth 100000 in
theorem am_d35 : ∀ x ∈ am_c35, decode prog_8_method_11_code x.1 = .ok (x.2.1, x.2.2) := by decide +kernel
set_option maxRecDepth 100000 in
theorem am_d36 : ∀ x ∈ am_c36, decode prog_8_method_10_code x.1 = .ok (x.2.1, x.2.2) := by decide +kernel
set_option maxRecDepth 100000 in
theorem am_d37 : ∀ x ∈ am_c37, decode prog_8_method_2_code x.1 = .ok (x.2.1, x.2.2) := by decide +kernel
set_option maxRecDepth 100000 in
theorem am_d38 : ∀ x ∈ am_c38, decode prog_8_method_7_code x.1 = .ok (x.2.1, x.2.2) := by decide +kernel
set_option maxRecDepth 100000 in
theorem am_d39 : ∀ x ∈ am_c39, decode prog_8_method_14_code x.1 = .ok (x.2.1, x.2.2) := by decide +kernel
set_option maxRecDepth 100000 in
theorem am_d40 : ∀ x ∈ am_c40, decode prog_8_method_12_code x.1 = .ok (x.2.1, x.2.2) := by decide +kernel
set_option maxRecDepth 100000 in
theorem am_d41 : ∀ x ∈ am_c41, decode prog_8_method_5_code x.1 = .ok (x.2.1, x.2.2) := by decide +kernel
set_option maxRecDepth 100000 in
theorem am_d42 : ∀ x ∈ am_c42, decode prog_8_method_4_code x.1 = .ok (x.2.1, x.2.2) := by decide +kernel
set_option maxRecDepth 100000 in
theorem am_d43 : ∀ x ∈ am_c43, decode prog_8_method_3_code x.1 = .ok (x.2.1, x.2.2) := by decide +kernel
set_option maxRecDepth 100000 in
theorem am_d44 : ∀ x ∈ am_c44, decode prog_8_method_9_code x.1 = .ok (x.2.1, x.2.2) := by decide +kernel
set_option maxRecDepth 100000 in
theorem am_d45 : ∀ x ∈ am_c45, decode prog_8_method_6_code x.1 = .ok (x.2.1, x.2.2) := by decide +kernel
set_option maxRecDepth 100000 in
theorem am_d46 : ∀ x ∈ am_c46, decode prog_9_method_1_code x.1 = .ok (x.2.1, x.2.2) := by decide +kernel
set_option maxRecDepth 100000 in
theorem am_d47 : ∀ x ∈ am_c47, decode prog_9_method_4_code x.1 = .ok (x.2.1, x.2.2) := by decide +kernel
set_option maxRecDepth 100000 in
theorem am_d48 : ∀ x ∈ am_c48, decode prog_9_method_5_code x.1 = .ok (x.2.1, x.2.2) := by decide +kernel
set_option maxRecDepth 100000 in
theorem am_d49 : ∀ x ∈ am_c49, decode prog_9_method_2_code x.1 = .ok (x.2.1, x.2.2) := by decide +kernel
set_option maxRecDepth 100000 in
theorem am_d50 : ∀ x ∈ am_c50, decode prog_9_method_3_code x.1 = .ok (x.2.1, x.2.2) := by decide +kernel
set_option maxRecDepth 100000 in
theorem am_d51 : ∀ x ∈ am_c51, decode prog_11_method_1_code x.1 = .ok (x.2.1, x.2.2) := by decide +kernel
set_option maxRecDepth 100000 in
theorem am_d52 : ∀ x ∈ am_c52, decode prog_11_method_12_code x.1 = .ok (x.2.1, x.2.2) := by decide +kernel
set_option maxRecDepth 100000 in
theorem am_d53 : ∀ x ∈ am_c53, decode prog_11_method_34_code x.1 = .ok (x.2.1, x.2.2) := by decide +kernel
set_option maxRecDepth 100000 in
theorem am_d54 : ∀ x ∈ am_c54, decode prog_11_method_40_code x.1 = .ok (x.2.1, x.2.2) := by decide +kernel
set_option maxRecDepth 100000 in
theorem am_d55 : ∀ x ∈ am_c55, decode prog_11_method_8_code x.1 = .ok (x.2.1, x.2.2) := by decide +kernel
set_option maxRecDepth 100000 in
theorem am_d56 : ∀ x ∈ am_c56, decode prog_11_method_43_code x.1 = .ok (x.2.1, x.2.2) := by decide +kernel
set_option maxRecDepth 100000 in
theorem am_d57 : ∀ x ∈ am_c57, decode prog_11_method_46_code x.1 = .ok (x.2.1, x.2.2) := by decide +kernel
set_option maxRecDepth 100000 in
theorem am_d58 : ∀ x ∈ am_c58, decode prog_11_method_45_code x.1 = .ok (x.2.1, x.2.2) := by decide +kernel
set_option maxRecDepth 100000 in
theorem am_d59 : ∀ x ∈ am_c59, decode prog_11_method_7_code x.1 = .ok (x.2.1, x.2.2) := by decide +kernel
set_option maxRecDepth 100000 in
theorem am_d60 : ∀ x ∈ am_c60, decode prog_11_method_41_code x.1 = .ok (x.2.1, x.2.2) := by decide +kernel
set_option maxRecDepth 100000 in
theorem am_d61 : ∀ x ∈ am_c61, decode prog_11_method_10_code x.1 = .ok (x.2.1, x.2.2) := by decide +kernel
set_option maxRecDepth 100000 in
theorem am_d62 : ∀ x ∈ am_c62, decode prog_11_method_9_code x.1 = .ok (x.2.1, x.2.2) := by decide +kernel
set_option maxRecDepth 100000 in
theorem am_d63 : ∀ x ∈ am_c63, decode prog_11_method_47_code x.1 = .ok (x.2.1, x.2.2) := by decide +kernel
set_option maxRecDepth 100000 in
theorem am_d64 : ∀ x ∈ am_c64, decode prog_11_method_33_code x.1 = .ok (x.2.1, x.2.2) := by decide +kernel
set_option maxRecDepth 100000 in
theorem am_d65 : ∀ x ∈ am_c65, decode prog_11_method_5_code x.1 = .ok (x.2.1, x.2.2) := by decide +kernel
set_option maxRecDepth 100000 in
theorem am_d66 : ∀ x ∈ am_c66, decode prog_11_method_35_code x.1 = .ok (x.2.1, x.2.2) := by decide +kernel
set_option maxRecDepth 100000 in
theorem am_d67 : ∀ x ∈ am_c67, decode prog_11_method_30_code x.1 = .ok (x.2.1, x.2.2) := by decide +kernel
