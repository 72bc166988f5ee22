/-! ===== the law's ===== -/
set_option maxRecDepth 100000 in
theorem am_d145_6 : ∀ x ∈ am_c145_6, decode code x.1 = .ok (x.2.1, x.2.2) := by decide +kernel
set_option maxRecDepth 100000 in
theorem am_d145_7 : ∀ x ∈ am_c145_7, decode code x.1 = .ok (x.2.1, x.2.2) := by decide +kernel
set_option maxRecDepth 100000 in
theorem am_d145_8 : ∀ x ∈ am_c145_8, decode code x.1 = .ok (x.2.1, x.2.2) := by decide +kernel
set_option maxRecDepth 100000 in
theorem am_d145_9 : ∀ x ∈ am_c145_9, decode code x.1 = .ok (x.2.1, x.2.2) := by decide +kernel
set_option maxRecDepth 100000 in
theorem am_d145_10 : ∀ x ∈ am_c145_10, decode code x.1 = .ok (x.2.1, x.2.2) := by decide +kernel
set_option maxRecDepth 100000 in
theorem am_d145_11 : ∀ x ∈ am_c145_11, decode code x.1 = .ok (x.2.1, x.2.2) := by decide +kernel
theorem am_d145 : ∀ x ∈ am_c145, decode code x.1 = .ok (x.2.1, x.2.2) := List.forall_mem_append.mpr ⟨am_d145_0, List.forall_mem_append.mpr ⟨am_d145_1, List.forall_mem_append.mpr ⟨am_d145_2, List.forall_mem_append.mpr ⟨am_d145_3, List.forall_mem_append.mpr ⟨am_d145_4, List.forall_mem_append.mpr ⟨am_d145_5, List.forall_mem_append.mpr ⟨am_d145_6, List.forall_mem_append.mpr ⟨am_d145_7, List.forall_mem_append.mpr ⟨am_d145_8, List.forall_mem_append.mpr ⟨am_d145_9, List.forall_mem_append.mpr ⟨am_d145_10, am_d145_11⟩⟩⟩⟩⟩⟩⟩⟩⟩⟩⟩
