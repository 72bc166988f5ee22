/-! ===== the law's ===== -/
set_option maxRecDepth 100000 in
theorem am_d147_6 : ∀ x ∈ am_c147_6, decode code x.1 = .ok (x.2.1, x.2.2) := by decide +kernel
set_option maxRecDepth 100000 in
theorem am_d147_7 : ∀ x ∈ am_c147_7, decode code x.1 = .ok (x.2.1, x.2.2) := by decide +kernel
set_option maxRecDepth 100000 in
theorem am_d147_8 : ∀ x ∈ am_c147_8, decode code x.1 = .ok (x.2.1, x.2.2) := by decide +kernel
set_option maxRecDepth 100000 in
theorem am_d147_9 : ∀ x ∈ am_c147_9, decode code x.1 = .ok (x.2.1, x.2.2) := by decide +kernel
set_option maxRecDepth 100000 in
theorem am_d147_10 : ∀ x ∈ am_c147_10, decode code x.1 = .ok (x.2.1, x.2.2) := by decide +kernel
set_option maxRecDepth 100000 in
theorem am_d147_11 : ∀ x ∈ am_c147_11, decode code x.1 = .ok (x.2.1, x.2.2) := by decide +kernel
set_option maxRecDepth 100000 in
theorem am_d147_12 : ∀ x ∈ am_c147_12, decode code x.1 = .ok (x.2.1, x.2.2) := by decide +kernel
theorem am_d147 : ∀ x ∈ am_c147, decode code x.1 = .ok (x.2.1, x.2.2) := List.forall_mem_append.mpr ⟨am_d147_0, List.forall_mem_append.mpr ⟨am_d147_1, List.forall_mem_append.mpr ⟨am_d147_2, List.forall_mem_append.mpr ⟨am_d147_3, List.forall_mem_append.mpr ⟨am_d147_4, List.forall_mem_append.mpr ⟨am_d147_5, List.forall_mem_append.mpr ⟨am_d147_6, List.forall_mem_append.mpr ⟨am_d147_7, List.forall_mem_append.mpr ⟨am_d147_8, List.forall_mem_append.mpr ⟨am_d147_9, List.forall_mem_append.mpr ⟨am_d147_10, List.forall_mem_append.mpr ⟨am_d147_11, am_d147_12⟩⟩⟩⟩⟩⟩⟩⟩⟩⟩⟩⟩
