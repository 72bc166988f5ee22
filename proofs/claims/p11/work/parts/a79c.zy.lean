/-! ===== what the state keeps, where the law begins ===== -/
set_option maxRecDepth 100000
theorem st_Zy {b0 : Addr} {s : State} (hts : ∀ w ∈ lw_tbl, w.before #[Value.ref b0] s = true) (hg : (Jvm.Cond.and given_1 narrow_1).before #[Value.ref b0] s = true) : am_Zy s.heap.size s := by
  have hs := flat_of_before _ hg
  obtain ⟨cur, kC, hcur, -⟩ := Cond.instantiable_spec (hts _ (st_tbl st_in0))
  refine ⟨⟨fun x hx => ?_, fun w hw => va_Nw.of (st_nwt w hw) (hts w (st_tbl (st_nws w hw))), fun C hC => va_AO.of (hts _ (st_tbl (st_aos C hC))), ?_, ?_, ?_, ?_⟩, st_Fa hts⟩
  · have h1 := hts _ (st_tbl (st_sts x hx))
    have ho := st_own x hx
    rw [ho] at h1 ⊢
    obtain ⟨-, -, -, sa, -, -, -, -, -, hev⟩ := Cond.stringRef_spec hcur h1
    exact ⟨sa, vk_R.of h1 hev⟩
  · exact hts _ (st_tbl st_ai)
  · exact am_St.of (hts _ (st_tbl st_ls1)) (by first | exact hs _ (by decide +kernel) | exact hts _ (st_tbl (by decide +kernel))) (Nat.le_refl _)
  · exact am_St.of (hts _ (st_tbl st_ls2)) (by first | exact hs _ (by decide +kernel) | exact hts _ (st_tbl (by decide +kernel))) (Nat.le_refl _)
  · intro x hx
    simp only [am_ncs, List.mem_cons, List.not_mem_nil, or_false] at hx
    rcases hx with rfl | rfl | rfl | rfl | rfl | rfl <;> exact va_Nc.of (by first | exact hs _ (by decide +kernel) | exact hts _ (st_tbl (by decide +kernel)))
