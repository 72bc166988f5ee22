/-! ===== the law's ===== -/
set_option maxRecDepth 100000 in
theorem am_d99_9 : ∀ x ∈ am_c99_9, decode code x.1 = .ok (x.2.1, x.2.2) := by decide +kernel
set_option maxRecDepth 100000 in
theorem am_d99_10 : ∀ x ∈ am_c99_10, decode code x.1 = .ok (x.2.1, x.2.2) := by decide +kernel
set_option maxRecDepth 100000 in
theorem am_d99_11 : ∀ x ∈ am_c99_11, decode code x.1 = .ok (x.2.1, x.2.2) := by decide +kernel
set_option maxRecDepth 100000 in
theorem am_d99_12 : ∀ x ∈ am_c99_12, decode code x.1 = .ok (x.2.1, x.2.2) := by decide +kernel
set_option maxRecDepth 100000 in
theorem am_d99_13 : ∀ x ∈ am_c99_13, decode code x.1 = .ok (x.2.1, x.2.2) := by decide +kernel
set_option maxRecDepth 100000 in
theorem am_d99_14 : ∀ x ∈ am_c99_14, decode code x.1 = .ok (x.2.1, x.2.2) := by decide +kernel
set_option maxRecDepth 100000 in
theorem am_d99_15 : ∀ x ∈ am_c99_15, decode code x.1 = .ok (x.2.1, x.2.2) := by decide +kernel
set_option maxRecDepth 100000 in
theorem am_d99_16 : ∀ x ∈ am_c99_16, decode code x.1 = .ok (x.2.1, x.2.2) := by decide +kernel
set_option maxRecDepth 100000 in
theorem am_d99_17 : ∀ x ∈ am_c99_17, decode code x.1 = .ok (x.2.1, x.2.2) := by decide +kernel
theorem am_d99 : ∀ x ∈ am_c99, decode code x.1 = .ok (x.2.1, x.2.2) := List.forall_mem_append.mpr ⟨am_d99_0, List.forall_mem_append.mpr ⟨am_d99_1, List.forall_mem_append.mpr ⟨am_d99_2, List.forall_mem_append.mpr ⟨am_d99_3, List.forall_mem_append.mpr ⟨am_d99_4, List.forall_mem_append.mpr ⟨am_d99_5, List.forall_mem_append.mpr ⟨am_d99_6, List.forall_mem_append.mpr ⟨am_d99_7, List.forall_mem_append.mpr ⟨am_d99_8, List.forall_mem_append.mpr ⟨am_d99_9, List.forall_mem_append.mpr ⟨am_d99_10, List.forall_mem_append.mpr ⟨am_d99_11, List.forall_mem_append.mpr ⟨am_d99_12, List.forall_mem_append.mpr ⟨am_d99_13, List.forall_mem_append.mpr ⟨am_d99_14, List.forall_mem_append.mpr ⟨am_d99_15, List.forall_mem_append.mpr ⟨am_d99_16, am_d99_17⟩⟩⟩⟩⟩⟩⟩⟩⟩⟩⟩⟩⟩⟩⟩⟩⟩
