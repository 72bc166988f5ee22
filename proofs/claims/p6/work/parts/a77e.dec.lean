/-! ===== the law's ===== -/
set_option maxRecDepth 100000 in
theorem am_d146_6 : ∀ x ∈ am_c146_6, decode code x.1 = .ok (x.2.1, x.2.2) := by decide +kernel
set_option maxRecDepth 100000 in
theorem am_d146_7 : ∀ x ∈ am_c146_7, decode code x.1 = .ok (x.2.1, x.2.2) := by decide +kernel
set_option maxRecDepth 100000 in
theorem am_d146_8 : ∀ x ∈ am_c146_8, decode code x.1 = .ok (x.2.1, x.2.2) := by decide +kernel
set_option maxRecDepth 100000 in
theorem am_d146_9 : ∀ x ∈ am_c146_9, decode code x.1 = .ok (x.2.1, x.2.2) := by decide +kernel
set_option maxRecDepth 100000 in
theorem am_d146_10 : ∀ x ∈ am_c146_10, decode code x.1 = .ok (x.2.1, x.2.2) := by decide +kernel
set_option maxRecDepth 100000 in
theorem am_d146_11 : ∀ x ∈ am_c146_11, decode code x.1 = .ok (x.2.1, x.2.2) := by decide +kernel
theorem am_d146 : ∀ x ∈ am_c146, decode code x.1 = .ok (x.2.1, x.2.2) := List.forall_mem_append.mpr ⟨am_d146_0, List.forall_mem_append.mpr ⟨am_d146_1, List.forall_mem_append.mpr ⟨am_d146_2, List.forall_mem_append.mpr ⟨am_d146_3, List.forall_mem_append.mpr ⟨am_d146_4, List.forall_mem_append.mpr ⟨am_d146_5, List.forall_mem_append.mpr ⟨am_d146_6, List.forall_mem_append.mpr ⟨am_d146_7, List.forall_mem_append.mpr ⟨am_d146_8, List.forall_mem_append.mpr ⟨am_d146_9, List.forall_mem_append.mpr ⟨am_d146_10, am_d146_11⟩⟩⟩⟩⟩⟩⟩⟩⟩⟩⟩
