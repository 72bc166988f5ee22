/-! ===== the instructions are the bytes' ===== -/
set_option maxRecDepth 100000 in
theorem am_d0 : ∀ x ∈ am_c0, decode prog_1_method_1_code x.1 = .ok (x.2.1, x.2.2) := by decide +kernel
set_option maxRecDepth 100000 in
theorem am_d1 : ∀ x ∈ am_c1, decode prog_1_method_25_code x.1 = .ok (x.2.1, x.2.2) := by decide +kernel
set_option maxRecDepth 100000 in
theorem am_d2 : ∀ x ∈ am_c2, decode prog_1_method_6_code x.1 = .ok (x.2.1, x.2.2) := by decide +kernel
set_option maxRecDepth 100000 in
theorem am_d3 : ∀ x ∈ am_c3, decode prog_1_method_10_code x.1 = .ok (x.2.1, x.2.2) := by decide +kernel
set_option maxRecDepth 100000 in
theorem am_d4 : ∀ x ∈ am_c4, decode prog_1_method_13_code x.1 = .ok (x.2.1, x.2.2) := by decide +kernel
set_option maxRecDepth 100000 in
theorem am_d5 : ∀ x ∈ am_c5, decode prog_1_method_15_code x.1 = .ok (x.2.1, x.2.2) := by decide +kernel
set_option maxRecDepth 100000 in
theorem am_d6 : ∀ x ∈ am_c6, decode prog_1_method_34_code x.1 = .ok (x.2.1, x.2.2) := by decide +kernel
set_option maxRecDepth 100000 in
theorem am_d7 : ∀ x ∈ am_c7, decode prog_1_method_32_code x.1 = .ok (x.2.1, x.2.2) := by decide +kernel
set_option maxRecDepth 100000 in
theorem am_d8 : ∀ x ∈ am_c8, decode prog_1_method_35_code x.1 = .ok (x.2.1, x.2.2) := by decide +kernel
set_option maxRecDepth 100000 in
theorem am_d9 : ∀ x ∈ am_c9, decode prog_1_method_29_code x.1 = .ok (x.2.1, x.2.2) := by decide +kernel
set_option maxRecDepth 100000 in
theorem am_d10 : ∀ x ∈ am_c10, decode prog_1_method_14_code x.1 = .ok (x.2.1, x.2.2) := by decide +kernel
set_option maxRecDepth 100000 in
theorem am_d11 : ∀ x ∈ am_c11, decode prog_1_method_11_code x.1 = .ok (x.2.1, x.2.2) := by decide +kernel
set_option maxRecDepth 100000 in
theorem am_d12 : ∀ x ∈ am_c12, decode prog_1_method_30_code x.1 = .ok (x.2.1, x.2.2) := by decide +kernel
set_option maxRecDepth 100000 in
theorem am_d13 : ∀ x ∈ am_c13, decode prog_1_method_20_code x.1 = .ok (x.2.1, x.2.2) := by decide +kernel
set_option maxRecDepth 100000 in
theorem am_d14 : ∀ x ∈ am_c14, decode prog_1_method_21_code x.1 = .ok (x.2.1, x.2.2) := by decide +kernel
set_option maxRecDepth 100000 in
theorem am_d15 : ∀ x ∈ am_c15, decode prog_1_method_22_code x.1 = .ok (x.2.1, x.2.2) := by decide +kernel
set_option maxRecDepth 100000 in
theorem am_d16 : ∀ x ∈ am_c16, decode prog_1_method_33_code x.1 = .ok (x.2.1, x.2.2) := by decide +kernel
set_option maxRecDepth 100000 in
theorem am_d17 : ∀ x ∈ am_c17, decode prog_1_method_16_code x.1 = .ok (x.2.1, x.2.2) := by decide +kernel
set_option maxRecDepth 100000 in
theorem am_d18 : ∀ x ∈ am_c18, decode prog_1_method_5_code x.1 = .ok (x.2.1, x.2.2) := by decide +kernel
set_option maxRecDepth 100000 in
theorem am_d19 : ∀ x ∈ am_c19, decode prog_1_method_7_code x.1 = .ok (x.2.1, x.2.2) := by decide +kernel
set_option maxRecDepth 100000 in
theorem am_d20 : ∀ x ∈ am_c20, decode prog_1_method_2_code x.1 = .ok (x.2.1, x.2.2) := by decide +kernel
set_option maxRecDepth 100000 in
theorem am_d21 : ∀ x ∈ am_c21, decode prog_1_method_23_code x.1 = .ok (x.2.1, x.2.2) := by decide +kernel
set_option maxRecDepth 100000 in
theorem am_d22 : ∀ x ∈ am_c22, decode prog_1_method_3_code x.1 = .ok (x.2.1, x.2.2) := by decide +kernel
set_option maxRecDepth 100000 in
theorem am_d23 : ∀ x ∈ am_c23, decode prog_1_method_9_code x.1 = .ok (x.2.1, x.2.2) := by decide +kernel
set_option maxRecDepth 100000 in
theorem am_d24 : ∀ x ∈ am_c24, decode prog_1_method_26_code x.1 = .ok (x.2.1, x.2.2) := by decide +kernel
set_option maxRecDepth 100000 in
theorem am_d25 : ∀ x ∈ am_c25, decode prog_1_method_12_code x.1 = .ok (x.2.1, x.2.2) := by decide +kernel
set_option maxRecDepth 100000 in
theorem am_d26 : ∀ x ∈ am_c26, decode prog_1_method_31_code x.1 = .ok (x.2.1, x.2.2) := by decide +kernel
set_option maxRecDepth 100000 in
theorem am_d27 : ∀ x ∈ am_c27, decode prog_1_method_18_code x.1 = .ok (x.2.1, x.2.2) := by decide +kernel
set_option maxRecDepth 100000 in
theorem am_d28 : ∀ x ∈ am_c28, decode prog_1_method_17_code x.1 = .ok (x.2.1, x.2.2) := by decide +kernel
set_option maxRecDepth 100000 in
theorem am_d29 : ∀ x ∈ am_c29, decode prog_1_method_8_code x.1 = .ok (x.2.1, x.2.2) := by decide +kernel
set_option maxRecDepth 100000 in
theorem am_d30 : ∀ x ∈ am_c30, decode prog_1_method_4_code x.1 = .ok (x.2.1, x.2.2) := by decide +kernel
set_option maxRecDepth 100000 in
theorem am_d31 : ∀ x ∈ am_c31, decode prog_1_method_28_code x.1 = .ok (x.2.1, x.2.2) := by decide +kernel
set_option maxRecDepth 100000 in
theorem am_d32 : ∀ x ∈ am_c32, decode prog_1_method_27_code x.1 = .ok (x.2.1, x.2.2) := by decide +kernel
set_option maxRecDepth 100000 in
theorem am_d33 : ∀ x ∈ am_c33, decode prog_1_method_24_code x.1 = .ok (x.2.1, x.2.2) := by decide +kernel
set_option maxRecDepth 100000 in
theorem am_d34 : ∀ x ∈ am_c34, decode prog_1_method_19_code x.1 = .ok (x.2.1, x.2.2) := by decide +kernel
set_option maxRecDepth 100000 in
theorem am_d35 : ∀ x ∈ am_c35, decode prog_2_method_1_code x.1 = .ok (x.2.1, x.2.2) := by decide +kernel
set_option maxRecDepth 100000 in
theorem am_d36 : ∀ x ∈ am_c36, decode prog_2_method_2_code x.1 = .ok (x.2.1, x.2.2) := by decide +kernel
set_option maxRecDepth 100000 in
theorem am_d37 : ∀ x ∈ am_c37, decode prog_3_method_1_code x.1 = .ok (x.2.1, x.2.2) := by decide +kernel
set_option maxRecDepth 100000 in
theorem am_d38 : ∀ x ∈ am_c38, decode prog_3_method_6_code x.1 = .ok (x.2.1, x.2.2) := by decide +kernel
set_option maxRecDepth 100000 in
theorem am_d39 : ∀ x ∈ am_c39, decode prog_3_method_4_code x.1 = .ok (x.2.1, x.2.2) := by decide +kernel
set_option maxRecDepth 100000 in
theorem am_d40 : ∀ x ∈ am_c40, decode prog_3_method_5_code x.1 = .ok (x.2.1, x.2.2) := by decide +kernel
set_option maxRecDepth 100000 in
theorem am_d41 : ∀ x ∈ am_c41, decode prog_3_method_3_code x.1 = .ok (x.2.1, x.2.2) := by decide +kernel
set_option maxRecDepth 100000 in
theorem am_d42 : ∀ x ∈ am_c42, decode prog_3_method_2_code x.1 = .ok (x.2.1, x.2.2) := by decide +kernel
set_option maxRecDepth 100000 in
theorem am_d43 : ∀ x ∈ am_c43, decode prog_4_method_1_code x.1 = .ok (x.2.1, x.2.2) := by decide +kernel
set_option maxRecDepth 100000 in
theorem am_d44 : ∀ x ∈ am_c44, decode prog_4_method_2_code x.1 = .ok (x.2.1, x.2.2) := by decide +kernel
set_option maxRecDepth 100000 in
theorem am_d45 : ∀ x ∈ am_c45, decode prog_5_method_1_code x.1 = .ok (x.2.1, x.2.2) := by decide +kernel
set_option maxRecDepth 100000 in
theorem am_d46 : ∀ x ∈ am_c46, decode prog_5_method_3_code x.1 = .ok (x.2.1, x.2.2) := by decide +kernel
set_option maxRecDepth 100000 in
theorem am_d47 : ∀ x ∈ am_c47, decode prog_5_method_2_code x.1 = .ok (x.2.1, x.2.2) := by decide +kernel
set_option maxRecDepth 100000 in
theorem am_d48 : ∀ x ∈ am_c48, decode prog_5_method_4_code x.1 = .ok (x.2.1, x.2.2) := by decide +kernel
set_option maxRecDepth 100000 in
theorem am_d49 : ∀ x ∈ am_c49, decode prog_6_method_1_code x.1 = .ok (x.2.1, x.2.2) := by decide +kernel
