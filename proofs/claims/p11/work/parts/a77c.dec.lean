/-! ===== the instructions are the bytes' ===== -/
set_option maxRecDepth 100000 in
theorem am_d100 : ∀ x ∈ am_c100, decode prog_11_method_10_code x.1 = .ok (x.2.1, x.2.2) := by decide +kernel
set_option maxRecDepth 100000 in
theorem am_d101 : ∀ x ∈ am_c101, decode prog_11_method_11_code x.1 = .ok (x.2.1, x.2.2) := by decide +kernel
set_option maxRecDepth 100000 in
theorem am_d102 : ∀ x ∈ am_c102, decode prog_11_method_9_code x.1 = .ok (x.2.1, x.2.2) := by decide +kernel
set_option maxRecDepth 100000 in
theorem am_d103 : ∀ x ∈ am_c103, decode prog_11_method_47_code x.1 = .ok (x.2.1, x.2.2) := by decide +kernel
set_option maxRecDepth 100000 in
theorem am_d104 : ∀ x ∈ am_c104, decode prog_11_method_17_code x.1 = .ok (x.2.1, x.2.2) := by decide +kernel
set_option maxRecDepth 100000 in
theorem am_d105 : ∀ x ∈ am_c105, decode prog_11_method_28_code x.1 = .ok (x.2.1, x.2.2) := by decide +kernel
set_option maxRecDepth 100000 in
theorem am_d106 : ∀ x ∈ am_c106, decode prog_11_method_33_code x.1 = .ok (x.2.1, x.2.2) := by decide +kernel
set_option maxRecDepth 100000 in
theorem am_d107 : ∀ x ∈ am_c107, decode prog_11_method_5_code x.1 = .ok (x.2.1, x.2.2) := by decide +kernel
set_option maxRecDepth 100000 in
theorem am_d108 : ∀ x ∈ am_c108, decode prog_11_method_35_code x.1 = .ok (x.2.1, x.2.2) := by decide +kernel
set_option maxRecDepth 100000 in
theorem am_d109 : ∀ x ∈ am_c109, decode prog_11_method_30_code x.1 = .ok (x.2.1, x.2.2) := by decide +kernel
set_option maxRecDepth 100000 in
theorem am_d110 : ∀ x ∈ am_c110, decode prog_11_method_31_code x.1 = .ok (x.2.1, x.2.2) := by decide +kernel
set_option maxRecDepth 100000 in
theorem am_d111 : ∀ x ∈ am_c111, decode prog_11_method_6_code x.1 = .ok (x.2.1, x.2.2) := by decide +kernel
set_option maxRecDepth 100000 in
theorem am_d112 : ∀ x ∈ am_c112, decode prog_11_method_39_code x.1 = .ok (x.2.1, x.2.2) := by decide +kernel
set_option maxRecDepth 100000 in
theorem am_d113 : ∀ x ∈ am_c113, decode prog_11_method_3_code x.1 = .ok (x.2.1, x.2.2) := by decide +kernel
set_option maxRecDepth 100000 in
theorem am_d114 : ∀ x ∈ am_c114, decode prog_11_method_18_code x.1 = .ok (x.2.1, x.2.2) := by decide +kernel
set_option maxRecDepth 100000 in
theorem am_d115 : ∀ x ∈ am_c115, decode prog_11_method_42_code x.1 = .ok (x.2.1, x.2.2) := by decide +kernel
set_option maxRecDepth 100000 in
theorem am_d116 : ∀ x ∈ am_c116, decode prog_11_method_13_code x.1 = .ok (x.2.1, x.2.2) := by decide +kernel
set_option maxRecDepth 100000 in
theorem am_d117 : ∀ x ∈ am_c117, decode prog_11_method_49_code x.1 = .ok (x.2.1, x.2.2) := by decide +kernel
set_option maxRecDepth 100000 in
theorem am_d118 : ∀ x ∈ am_c118, decode prog_11_method_48_code x.1 = .ok (x.2.1, x.2.2) := by decide +kernel
set_option maxRecDepth 100000 in
theorem am_d119 : ∀ x ∈ am_c119, decode prog_11_method_36_code x.1 = .ok (x.2.1, x.2.2) := by decide +kernel
set_option maxRecDepth 100000 in
theorem am_d120 : ∀ x ∈ am_c120, decode prog_11_method_20_code x.1 = .ok (x.2.1, x.2.2) := by decide +kernel
set_option maxRecDepth 100000 in
theorem am_d121 : ∀ x ∈ am_c121, decode prog_11_method_32_code x.1 = .ok (x.2.1, x.2.2) := by decide +kernel
set_option maxRecDepth 100000 in
theorem am_d122 : ∀ x ∈ am_c122, decode prog_11_method_21_code x.1 = .ok (x.2.1, x.2.2) := by decide +kernel
set_option maxRecDepth 100000 in
theorem am_d123 : ∀ x ∈ am_c123, decode prog_11_method_29_code x.1 = .ok (x.2.1, x.2.2) := by decide +kernel
set_option maxRecDepth 100000 in
theorem am_d124 : ∀ x ∈ am_c124, decode prog_11_method_38_code x.1 = .ok (x.2.1, x.2.2) := by decide +kernel
set_option maxRecDepth 100000 in
theorem am_d125 : ∀ x ∈ am_c125, decode prog_11_method_4_code x.1 = .ok (x.2.1, x.2.2) := by decide +kernel
set_option maxRecDepth 100000 in
theorem am_d126 : ∀ x ∈ am_c126, decode prog_11_method_37_code x.1 = .ok (x.2.1, x.2.2) := by decide +kernel
set_option maxRecDepth 100000 in
theorem am_d127 : ∀ x ∈ am_c127, decode prog_11_method_50_code x.1 = .ok (x.2.1, x.2.2) := by decide +kernel
set_option maxRecDepth 100000 in
theorem am_d128 : ∀ x ∈ am_c128, decode prog_11_method_22_code x.1 = .ok (x.2.1, x.2.2) := by decide +kernel
set_option maxRecDepth 100000 in
theorem am_d129 : ∀ x ∈ am_c129, decode prog_11_method_44_code x.1 = .ok (x.2.1, x.2.2) := by decide +kernel
set_option maxRecDepth 100000 in
theorem am_d130 : ∀ x ∈ am_c130, decode method_9_code x.1 = .ok (x.2.1, x.2.2) := by decide +kernel
set_option maxRecDepth 100000 in
theorem am_d131 : ∀ x ∈ am_c131, decode method_12_code x.1 = .ok (x.2.1, x.2.2) := by decide +kernel
set_option maxRecDepth 100000 in
theorem am_d132 : ∀ x ∈ am_c132, decode method_11_code x.1 = .ok (x.2.1, x.2.2) := by decide +kernel
set_option maxRecDepth 100000 in
theorem am_d133 : ∀ x ∈ am_c133, decode method_10_code x.1 = .ok (x.2.1, x.2.2) := by decide +kernel
set_option maxRecDepth 100000 in
theorem am_d134 : ∀ x ∈ am_c134, decode method_13_code x.1 = .ok (x.2.1, x.2.2) := by decide +kernel
set_option maxRecDepth 100000 in
theorem am_d135 : ∀ x ∈ am_c135, decode method_6_code x.1 = .ok (x.2.1, x.2.2) := by decide +kernel
set_option maxRecDepth 100000 in
theorem am_d136 : ∀ x ∈ am_c136, decode method_7_code x.1 = .ok (x.2.1, x.2.2) := by decide +kernel
set_option maxRecDepth 100000 in
theorem am_d137 : ∀ x ∈ am_c137, decode method_3_code x.1 = .ok (x.2.1, x.2.2) := by decide +kernel
set_option maxRecDepth 100000 in
theorem am_d138 : ∀ x ∈ am_c138, decode method_4_code x.1 = .ok (x.2.1, x.2.2) := by decide +kernel
set_option maxRecDepth 100000 in
theorem am_d139 : ∀ x ∈ am_c139, decode method_15_code x.1 = .ok (x.2.1, x.2.2) := by decide +kernel
set_option maxRecDepth 100000 in
theorem am_d140 : ∀ x ∈ am_c140, decode method_14_code x.1 = .ok (x.2.1, x.2.2) := by decide +kernel
set_option maxRecDepth 100000 in
theorem am_d141 : ∀ x ∈ am_c141, decode method_8_code x.1 = .ok (x.2.1, x.2.2) := by decide +kernel
set_option maxRecDepth 100000 in
theorem am_d142 : ∀ x ∈ am_c142, decode method_5_code x.1 = .ok (x.2.1, x.2.2) := by decide +kernel
set_option maxRecDepth 100000 in
theorem am_d143 : ∀ x ∈ am_c143, decode method_16_code x.1 = .ok (x.2.1, x.2.2) := by decide +kernel
set_option maxRecDepth 100000 in
theorem am_d144 : ∀ x ∈ am_c144, decode prog_21_method_103_code x.1 = .ok (x.2.1, x.2.2) := by decide +kernel
set_option maxRecDepth 100000 in
theorem am_d145 : ∀ x ∈ am_c145, decode prog_15_method_49_code x.1 = .ok (x.2.1, x.2.2) := by decide +kernel
set_option maxRecDepth 100000 in
theorem am_d146 : ∀ x ∈ am_c146, decode prog_11_method_2_code x.1 = .ok (x.2.1, x.2.2) := by decide +kernel
