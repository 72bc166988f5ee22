/-! ===== the instructions are the bytes' ===== -/
set_option maxRecDepth 100000 in
theorem am_d50 : ∀ x ∈ am_c50, decode prog_6_method_2_code x.1 = .ok (x.2.1, x.2.2) := by decide +kernel
set_option maxRecDepth 100000 in
theorem am_d51 : ∀ x ∈ am_c51, decode prog_6_method_4_code x.1 = .ok (x.2.1, x.2.2) := by decide +kernel
set_option maxRecDepth 100000 in
theorem am_d52 : ∀ x ∈ am_c52, decode prog_6_method_5_code x.1 = .ok (x.2.1, x.2.2) := by decide +kernel
set_option maxRecDepth 100000 in
theorem am_d53 : ∀ x ∈ am_c53, decode prog_6_method_3_code x.1 = .ok (x.2.1, x.2.2) := by decide +kernel
set_option maxRecDepth 100000 in
theorem am_d54 : ∀ x ∈ am_c54, decode prog_6_method_8_code x.1 = .ok (x.2.1, x.2.2) := by decide +kernel
set_option maxRecDepth 100000 in
theorem am_d55 : ∀ x ∈ am_c55, decode prog_6_method_6_code x.1 = .ok (x.2.1, x.2.2) := by decide +kernel
set_option maxRecDepth 100000 in
theorem am_d56 : ∀ x ∈ am_c56, decode prog_6_method_7_code x.1 = .ok (x.2.1, x.2.2) := by decide +kernel
set_option maxRecDepth 100000 in
theorem am_d57 : ∀ x ∈ am_c57, decode prog_7_method_1_code x.1 = .ok (x.2.1, x.2.2) := by decide +kernel
set_option maxRecDepth 100000 in
theorem am_d58 : ∀ x ∈ am_c58, decode prog_7_method_5_code x.1 = .ok (x.2.1, x.2.2) := by decide +kernel
set_option maxRecDepth 100000 in
theorem am_d59 : ∀ x ∈ am_c59, decode prog_7_method_2_code x.1 = .ok (x.2.1, x.2.2) := by decide +kernel
set_option maxRecDepth 100000 in
theorem am_d60 : ∀ x ∈ am_c60, decode prog_7_method_3_code x.1 = .ok (x.2.1, x.2.2) := by decide +kernel
set_option maxRecDepth 100000 in
theorem am_d61 : ∀ x ∈ am_c61, decode prog_7_method_4_code x.1 = .ok (x.2.1, x.2.2) := by decide +kernel
set_option maxRecDepth 100000 in
theorem am_d62 : ∀ x ∈ am_c62, decode prog_8_method_1_code x.1 = .ok (x.2.1, x.2.2) := by decide +kernel
set_option maxRecDepth 100000 in
theorem am_d63 : ∀ x ∈ am_c63, decode prog_8_method_8_code x.1 = .ok (x.2.1, x.2.2) := by decide +kernel
set_option maxRecDepth 100000 in
theorem am_d64 : ∀ x ∈ am_c64, decode prog_8_method_11_code x.1 = .ok (x.2.1, x.2.2) := by decide +kernel
set_option maxRecDepth 100000 in
theorem am_d65 : ∀ x ∈ am_c65, decode prog_8_method_10_code x.1 = .ok (x.2.1, x.2.2) := by decide +kernel
set_option maxRecDepth 100000 in
theorem am_d66 : ∀ x ∈ am_c66, decode prog_8_method_2_code x.1 = .ok (x.2.1, x.2.2) := by decide +kernel
set_option maxRecDepth 100000 in
theorem am_d67 : ∀ x ∈ am_c67, decode prog_8_method_7_code x.1 = .ok (x.2.1, x.2.2) := by decide +kernel
set_option maxRecDepth 100000 in
theorem am_d68 : ∀ x ∈ am_c68, decode prog_8_method_14_code x.1 = .ok (x.2.1, x.2.2) := by decide +kernel
set_option maxRecDepth 100000 in
theorem am_d69 : ∀ x ∈ am_c69, decode prog_8_method_13_code x.1 = .ok (x.2.1, x.2.2) := by decide +kernel
set_option maxRecDepth 100000 in
theorem am_d70 : ∀ x ∈ am_c70, decode prog_8_method_12_code x.1 = .ok (x.2.1, x.2.2) := by decide +kernel
set_option maxRecDepth 100000 in
theorem am_d71 : ∀ x ∈ am_c71, decode prog_8_method_5_code x.1 = .ok (x.2.1, x.2.2) := by decide +kernel
set_option maxRecDepth 100000 in
theorem am_d72 : ∀ x ∈ am_c72, decode prog_8_method_4_code x.1 = .ok (x.2.1, x.2.2) := by decide +kernel
set_option maxRecDepth 100000 in
theorem am_d73 : ∀ x ∈ am_c73, decode prog_8_method_3_code x.1 = .ok (x.2.1, x.2.2) := by decide +kernel
set_option maxRecDepth 100000 in
theorem am_d74 : ∀ x ∈ am_c74, decode prog_8_method_9_code x.1 = .ok (x.2.1, x.2.2) := by decide +kernel
set_option maxRecDepth 100000 in
theorem am_d75 : ∀ x ∈ am_c75, decode prog_8_method_6_code x.1 = .ok (x.2.1, x.2.2) := by decide +kernel
set_option maxRecDepth 100000 in
theorem am_d76 : ∀ x ∈ am_c76, decode prog_9_method_1_code x.1 = .ok (x.2.1, x.2.2) := by decide +kernel
set_option maxRecDepth 100000 in
theorem am_d77 : ∀ x ∈ am_c77, decode prog_9_method_4_code x.1 = .ok (x.2.1, x.2.2) := by decide +kernel
set_option maxRecDepth 100000 in
theorem am_d78 : ∀ x ∈ am_c78, decode prog_9_method_5_code x.1 = .ok (x.2.1, x.2.2) := by decide +kernel
set_option maxRecDepth 100000 in
theorem am_d79 : ∀ x ∈ am_c79, decode prog_9_method_2_code x.1 = .ok (x.2.1, x.2.2) := by decide +kernel
set_option maxRecDepth 100000 in
theorem am_d80 : ∀ x ∈ am_c80, decode prog_9_method_3_code x.1 = .ok (x.2.1, x.2.2) := by decide +kernel
set_option maxRecDepth 100000 in
theorem am_d81 : ∀ x ∈ am_c81, decode prog_11_method_1_code x.1 = .ok (x.2.1, x.2.2) := by decide +kernel
set_option maxRecDepth 100000 in
theorem am_d82 : ∀ x ∈ am_c82, decode prog_11_method_12_code x.1 = .ok (x.2.1, x.2.2) := by decide +kernel
set_option maxRecDepth 100000 in
theorem am_d83 : ∀ x ∈ am_c83, decode prog_11_method_25_code x.1 = .ok (x.2.1, x.2.2) := by decide +kernel
set_option maxRecDepth 100000 in
theorem am_d84 : ∀ x ∈ am_c84, decode prog_11_method_16_code x.1 = .ok (x.2.1, x.2.2) := by decide +kernel
set_option maxRecDepth 100000 in
theorem am_d85 : ∀ x ∈ am_c85, decode prog_11_method_26_code x.1 = .ok (x.2.1, x.2.2) := by decide +kernel
set_option maxRecDepth 100000 in
theorem am_d86 : ∀ x ∈ am_c86, decode prog_11_method_14_code x.1 = .ok (x.2.1, x.2.2) := by decide +kernel
set_option maxRecDepth 100000 in
theorem am_d87 : ∀ x ∈ am_c87, decode prog_11_method_34_code x.1 = .ok (x.2.1, x.2.2) := by decide +kernel
set_option maxRecDepth 100000 in
theorem am_d88 : ∀ x ∈ am_c88, decode prog_11_method_40_code x.1 = .ok (x.2.1, x.2.2) := by decide +kernel
set_option maxRecDepth 100000 in
theorem am_d89 : ∀ x ∈ am_c89, decode prog_11_method_8_code x.1 = .ok (x.2.1, x.2.2) := by decide +kernel
set_option maxRecDepth 100000 in
theorem am_d90 : ∀ x ∈ am_c90, decode prog_11_method_43_code x.1 = .ok (x.2.1, x.2.2) := by decide +kernel
set_option maxRecDepth 100000 in
theorem am_d91 : ∀ x ∈ am_c91, decode prog_11_method_46_code x.1 = .ok (x.2.1, x.2.2) := by decide +kernel
set_option maxRecDepth 100000 in
theorem am_d92 : ∀ x ∈ am_c92, decode prog_11_method_19_code x.1 = .ok (x.2.1, x.2.2) := by decide +kernel
set_option maxRecDepth 100000 in
theorem am_d93 : ∀ x ∈ am_c93, decode prog_11_method_15_code x.1 = .ok (x.2.1, x.2.2) := by decide +kernel
set_option maxRecDepth 100000 in
theorem am_d94 : ∀ x ∈ am_c94, decode prog_11_method_27_code x.1 = .ok (x.2.1, x.2.2) := by decide +kernel
set_option maxRecDepth 100000 in
theorem am_d95 : ∀ x ∈ am_c95, decode prog_11_method_24_code x.1 = .ok (x.2.1, x.2.2) := by decide +kernel
set_option maxRecDepth 100000 in
theorem am_d96 : ∀ x ∈ am_c96, decode prog_11_method_23_code x.1 = .ok (x.2.1, x.2.2) := by decide +kernel
set_option maxRecDepth 100000 in
theorem am_d97 : ∀ x ∈ am_c97, decode prog_11_method_45_code x.1 = .ok (x.2.1, x.2.2) := by decide +kernel
set_option maxRecDepth 100000 in
theorem am_d98 : ∀ x ∈ am_c98, decode prog_11_method_7_code x.1 = .ok (x.2.1, x.2.2) := by decide +kernel
set_option maxRecDepth 100000 in
theorem am_d99 : ∀ x ∈ am_c99, decode prog_11_method_41_code x.1 = .ok (x.2.1, x.2.2) := by decide +kernel
