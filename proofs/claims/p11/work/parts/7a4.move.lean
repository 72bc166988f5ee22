/-! ===== the reference: move ===== -/
theorem j_hV {mc : Nat} {τ u : Nat → Nat} {tv : Nat} (hmc0 : mc ≠ 0) (hmc : mc < 9) (htv : 2147483648 ≤ tv ∧ tv ≤ 2147523647) (hU : ab_U w_uq τ u) (hut : ∀ k, w_uq k = true → τ (u k) = k) : md_hV mc τ u tv j_mr := by
  have hcase : mc = 1 ∨ mc = 2 ∨ mc = 3 ∨ mc = 4 ∨ mc = 5 ∨ mc = 6 ∨ mc = 7 ∨ mc = 8 := by omega
  rcases hcase with rfl | rfl | rfl | rfl | rfl | rfl | rfl | rfl
  · exact ⟨wgc_161.2.2.2.1, wgc_163.2.2.2.1, wgc_165.2.2.2.1, wgc_167.2.2.2.1, wgc_169.2.2.2.1, wgc_171.2.2.2.1, md_all hmc0 hmc htv hU hut 96 [] wgc_161 List.mem_cons_self, md_all hmc0 hmc htv hU hut 96 [] wgc_163 (List.mem_cons_of_mem _ List.mem_cons_self), md_all hmc0 hmc htv hU hut 96 [] wgc_165 (List.mem_cons_of_mem _ (List.mem_cons_of_mem _ List.mem_cons_self)), md_all hmc0 hmc htv hU hut 96 [] wgc_167 (List.mem_cons_of_mem _ (List.mem_cons_of_mem _ (List.mem_cons_of_mem _ List.mem_cons_self))), md_all hmc0 hmc htv hU hut 96 [] wgc_169 (List.mem_cons_of_mem _ (List.mem_cons_of_mem _ (List.mem_cons_of_mem _ (List.mem_cons_of_mem _ List.mem_cons_self)))), md_all hmc0 hmc htv hU hut 96 [] wgc_171 (List.mem_cons_of_mem _ (List.mem_cons_of_mem _ (List.mem_cons_of_mem _ (List.mem_cons_of_mem _ (List.mem_cons_of_mem _ List.mem_cons_self))))), by decide +kernel, by decide +kernel, by decide +kernel, by decide +kernel, by decide +kernel, by decide +kernel⟩
  · exact ⟨wgc_269.2.2.2.1, wgc_271.2.2.2.1, wgc_273.2.2.2.1, wgc_275.2.2.2.1, wgc_277.2.2.2.1, wgc_279.2.2.2.1, md_all hmc0 hmc htv hU hut 96 [] wgc_269 List.mem_cons_self, md_all hmc0 hmc htv hU hut 96 [] wgc_271 (List.mem_cons_of_mem _ List.mem_cons_self), md_all hmc0 hmc htv hU hut 96 [] wgc_273 (List.mem_cons_of_mem _ (List.mem_cons_of_mem _ List.mem_cons_self)), md_all hmc0 hmc htv hU hut 96 [] wgc_275 (List.mem_cons_of_mem _ (List.mem_cons_of_mem _ (List.mem_cons_of_mem _ List.mem_cons_self))), md_all hmc0 hmc htv hU hut 96 [] wgc_277 (List.mem_cons_of_mem _ (List.mem_cons_of_mem _ (List.mem_cons_of_mem _ (List.mem_cons_of_mem _ List.mem_cons_self)))), md_all hmc0 hmc htv hU hut 96 [] wgc_279 (List.mem_cons_of_mem _ (List.mem_cons_of_mem _ (List.mem_cons_of_mem _ (List.mem_cons_of_mem _ (List.mem_cons_of_mem _ List.mem_cons_self))))), by decide +kernel, by decide +kernel, by decide +kernel, by decide +kernel, by decide +kernel, by decide +kernel⟩
  · exact ⟨wgc_382.2.2.2.1, wgc_384.2.2.2.1, wgc_386.2.2.2.1, wgc_388.2.2.2.1, wgc_390.2.2.2.1, wgc_392.2.2.2.1, md_all hmc0 hmc htv hU hut 96 [] wgc_382 List.mem_cons_self, md_all hmc0 hmc htv hU hut 96 [] wgc_384 (List.mem_cons_of_mem _ List.mem_cons_self), md_all hmc0 hmc htv hU hut 96 [] wgc_386 (List.mem_cons_of_mem _ (List.mem_cons_of_mem _ List.mem_cons_self)), md_all hmc0 hmc htv hU hut 96 [] wgc_388 (List.mem_cons_of_mem _ (List.mem_cons_of_mem _ (List.mem_cons_of_mem _ List.mem_cons_self))), md_all hmc0 hmc htv hU hut 96 [] wgc_390 (List.mem_cons_of_mem _ (List.mem_cons_of_mem _ (List.mem_cons_of_mem _ (List.mem_cons_of_mem _ List.mem_cons_self)))), md_all hmc0 hmc htv hU hut 96 [] wgc_392 (List.mem_cons_of_mem _ (List.mem_cons_of_mem _ (List.mem_cons_of_mem _ (List.mem_cons_of_mem _ (List.mem_cons_of_mem _ List.mem_cons_self))))), by decide +kernel, by decide +kernel, by decide +kernel, by decide +kernel, by decide +kernel, by decide +kernel⟩
  · exact ⟨wgc_503.2.2.2.1, wgc_505.2.2.2.1, wgc_507.2.2.2.1, wgc_509.2.2.2.1, wgc_511.2.2.2.1, wgc_513.2.2.2.1, md_all hmc0 hmc htv hU hut 96 [] wgc_503 List.mem_cons_self, md_all hmc0 hmc htv hU hut 96 [] wgc_505 (List.mem_cons_of_mem _ List.mem_cons_self), md_all hmc0 hmc htv hU hut 96 [] wgc_507 (List.mem_cons_of_mem _ (List.mem_cons_of_mem _ List.mem_cons_self)), md_all hmc0 hmc htv hU hut 96 [] wgc_509 (List.mem_cons_of_mem _ (List.mem_cons_of_mem _ (List.mem_cons_of_mem _ List.mem_cons_self))), md_all hmc0 hmc htv hU hut 96 [] wgc_511 (List.mem_cons_of_mem _ (List.mem_cons_of_mem _ (List.mem_cons_of_mem _ (List.mem_cons_of_mem _ List.mem_cons_self)))), md_all hmc0 hmc htv hU hut 96 [] wgc_513 (List.mem_cons_of_mem _ (List.mem_cons_of_mem _ (List.mem_cons_of_mem _ (List.mem_cons_of_mem _ (List.mem_cons_of_mem _ List.mem_cons_self))))), by decide +kernel, by decide +kernel, by decide +kernel, by decide +kernel, by decide +kernel, by decide +kernel⟩
  · exact ⟨wgc_631.2.2.2.1, wgc_633.2.2.2.1, wgc_635.2.2.2.1, wgc_637.2.2.2.1, wgc_639.2.2.2.1, wgc_641.2.2.2.1, md_all hmc0 hmc htv hU hut 96 [] wgc_631 List.mem_cons_self, md_all hmc0 hmc htv hU hut 96 [] wgc_633 (List.mem_cons_of_mem _ List.mem_cons_self), md_all hmc0 hmc htv hU hut 96 [] wgc_635 (List.mem_cons_of_mem _ (List.mem_cons_of_mem _ List.mem_cons_self)), md_all hmc0 hmc htv hU hut 96 [] wgc_637 (List.mem_cons_of_mem _ (List.mem_cons_of_mem _ (List.mem_cons_of_mem _ List.mem_cons_self))), md_all hmc0 hmc htv hU hut 96 [] wgc_639 (List.mem_cons_of_mem _ (List.mem_cons_of_mem _ (List.mem_cons_of_mem _ (List.mem_cons_of_mem _ List.mem_cons_self)))), md_all hmc0 hmc htv hU hut 96 [] wgc_641 (List.mem_cons_of_mem _ (List.mem_cons_of_mem _ (List.mem_cons_of_mem _ (List.mem_cons_of_mem _ (List.mem_cons_of_mem _ List.mem_cons_self))))), by decide +kernel, by decide +kernel, by decide +kernel, by decide +kernel, by decide +kernel, by decide +kernel⟩
  · exact ⟨wgc_768.2.2.2.1, wgc_770.2.2.2.1, wgc_772.2.2.2.1, wgc_774.2.2.2.1, wgc_776.2.2.2.1, wgc_778.2.2.2.1, md_all hmc0 hmc htv hU hut 96 [] wgc_768 List.mem_cons_self, md_all hmc0 hmc htv hU hut 96 [] wgc_770 (List.mem_cons_of_mem _ List.mem_cons_self), md_all hmc0 hmc htv hU hut 96 [] wgc_772 (List.mem_cons_of_mem _ (List.mem_cons_of_mem _ List.mem_cons_self)), md_all hmc0 hmc htv hU hut 96 [] wgc_774 (List.mem_cons_of_mem _ (List.mem_cons_of_mem _ (List.mem_cons_of_mem _ List.mem_cons_self))), md_all hmc0 hmc htv hU hut 96 [] wgc_776 (List.mem_cons_of_mem _ (List.mem_cons_of_mem _ (List.mem_cons_of_mem _ (List.mem_cons_of_mem _ List.mem_cons_self)))), md_all hmc0 hmc htv hU hut 96 [] wgc_778 (List.mem_cons_of_mem _ (List.mem_cons_of_mem _ (List.mem_cons_of_mem _ (List.mem_cons_of_mem _ (List.mem_cons_of_mem _ List.mem_cons_self))))), by decide +kernel, by decide +kernel, by decide +kernel, by decide +kernel, by decide +kernel, by decide +kernel⟩
  · exact ⟨wgc_913.2.2.2.1, wgc_915.2.2.2.1, wgc_917.2.2.2.1, wgc_919.2.2.2.1, wgc_921.2.2.2.1, wgc_923.2.2.2.1, md_all hmc0 hmc htv hU hut 96 [] wgc_913 List.mem_cons_self, md_all hmc0 hmc htv hU hut 96 [] wgc_915 (List.mem_cons_of_mem _ List.mem_cons_self), md_all hmc0 hmc htv hU hut 96 [] wgc_917 (List.mem_cons_of_mem _ (List.mem_cons_of_mem _ List.mem_cons_self)), md_all hmc0 hmc htv hU hut 96 [] wgc_919 (List.mem_cons_of_mem _ (List.mem_cons_of_mem _ (List.mem_cons_of_mem _ List.mem_cons_self))), md_all hmc0 hmc htv hU hut 96 [] wgc_921 (List.mem_cons_of_mem _ (List.mem_cons_of_mem _ (List.mem_cons_of_mem _ (List.mem_cons_of_mem _ List.mem_cons_self)))), md_all hmc0 hmc htv hU hut 96 [] wgc_923 (List.mem_cons_of_mem _ (List.mem_cons_of_mem _ (List.mem_cons_of_mem _ (List.mem_cons_of_mem _ (List.mem_cons_of_mem _ List.mem_cons_self))))), by decide +kernel, by decide +kernel, by decide +kernel, by decide +kernel, by decide +kernel, by decide +kernel⟩
  · exact ⟨wgc_1066.2.2.2.1, wgc_1068.2.2.2.1, wgc_1070.2.2.2.1, wgc_1072.2.2.2.1, wgc_1074.2.2.2.1, wgc_1076.2.2.2.1, md_all hmc0 hmc htv hU hut 96 [] wgc_1066 List.mem_cons_self, md_all hmc0 hmc htv hU hut 96 [] wgc_1068 (List.mem_cons_of_mem _ List.mem_cons_self), md_all hmc0 hmc htv hU hut 96 [] wgc_1070 (List.mem_cons_of_mem _ (List.mem_cons_of_mem _ List.mem_cons_self)), md_all hmc0 hmc htv hU hut 96 [] wgc_1072 (List.mem_cons_of_mem _ (List.mem_cons_of_mem _ (List.mem_cons_of_mem _ List.mem_cons_self))), md_all hmc0 hmc htv hU hut 96 [] wgc_1074 (List.mem_cons_of_mem _ (List.mem_cons_of_mem _ (List.mem_cons_of_mem _ (List.mem_cons_of_mem _ List.mem_cons_self)))), md_all hmc0 hmc htv hU hut 96 [] wgc_1076 (List.mem_cons_of_mem _ (List.mem_cons_of_mem _ (List.mem_cons_of_mem _ (List.mem_cons_of_mem _ (List.mem_cons_of_mem _ List.mem_cons_self))))), by decide +kernel, by decide +kernel, by decide +kernel, by decide +kernel, by decide +kernel, by decide +kernel⟩
theorem j_k123 : ∀ mc, mc < 9 → mc ≠ 0 → j_ok1 j_mr 0 0 0 [(1, 640, 0), w_mm mc] (wa_Ct mc 123 [(1, 640, 0), w_mm mc]) = true := by decide +kernel
set_option maxRecDepth 100000 in
/-- the first that waits -/
theorem jm_say {mc : Nat} {τ u : Nat → Nat} {tv wr : Nat} (hmc0 : Nat.beq mc 0 = false) (hU : ab_U w_uq τ u) (hut : ∀ k, w_uq k = true → τ (u k) = k) (hwr : ∀ k, k ∈ [54, 55, 56, 57, 58] → ab_tb wr (ab_bt w_kd k 0) = true) (hwr19 : ab_tb wr (ab_bt w_kd 40 19) = true) {h0 h : am_H} (hP : cl_H mc τ tv wr h0 h 0) {zw zk zs zr za zb : Int32} (hzw : ab_sl h (u 40) 19 = some (.int zw)) (hw0 : ab_b zw = 2147483648) (gk : ∃ v ∈ w_G mc 54 0, ab_gc τ tv v (.int zk)) (gs : ∃ v ∈ w_G mc 55 0, ab_gc τ tv v (.int zs)) (gr : ∃ v ∈ w_G mc 56 0, ab_gc τ tv v (.int zr)) {Q : am_R → Prop} (hQ : ∀ h', cl_H mc τ tv wr h0 h' 0 → (∀ k, w_uq k = true → ∀ i, ab_sl h' (u k) i = if k = 40 ∧ i = 19 then some (.int 1) else if i = 0 then (if k = 54 then some (.int zk) else if k = 55 then some (.int zs) else if k = 56 then some (.int zr) else if k = 57 then some (.int za) else if k = 58 then some (.int zb) else ab_sl h (u k) i) else ab_sl h (u k) i) → Q (.inl none, h', 0, 0)) : cl_Rn am_m120 (0, [some (.ref (u 40)), some (.int zk), some (.int zs), some (.int zr), some (.int za), some (.int zb)], [], h, 0, 0) Q := by
  have hu : τ (u 40) = 40 := hut 40 (by decide +kernel)
  have hu0 : τ (u 40) ≠ 0 := by rw [hu]; decide
  have hk40 : (w_kd (τ (u 40))).1 = 9 := by rw [hu]; rfl
  have hud := md_ud hut
  have gt : ∀ z : Int32, ab_gc τ tv ab_top (.int z) := fun z => ⟨z, rfl, Nat.zero_le _, Nat.le_of_lt_succ (ab_b_lt z)⟩
  have hG19 : w_G mc 40 19 = [w_r 0 64] := by
    show (bif Nat.beq mc 0 then [w_e 0] else [w_r 0 64]) = _
    rw [hmc0]
    rfl
  have z1 : 2147483648 ≤ ab_b zw := by omega
  have z2 : ab_b zw - 2147483648 = 0 := by rw [hw0]
  have zz : zw = 0 := ab_b_inj (by rw [hw0, ab_b_0])
  refine rs_st (cmp := am_cmp) wk_q120 (show wk_at wk_m120 0 3 0 1 0 0 = true by decide +kernel) rfl ?_
  refine md_get hut wk_q120 (show wk_at wk_m120 1 25 9 20 0 0 = true by decide +kernel) hP.1 (v := .ref (u 54)) (md_row hU hut hP.1 (i := 20) (k := 54) (by decide) rfl (by decide +kernel)) ?_
  refine rs_st (cmp := am_cmp) wk_q120 (show wk_at wk_m120 4 3 0 1 0 0 = true by decide +kernel) rfl ?_
  refine md_get hut wk_q120 (show wk_at wk_m120 5 25 9 19 0 0 = true by decide +kernel) hP.1 (v := .int zw) hzw ?_
  refine rs_st (cmp := am_cmp) wk_q120 (show wk_at wk_m120 8 2 1 1 0 0 = true by decide +kernel) rfl ?_
  refine md_ias hut wk_q120 (show wk_at wk_m120 9 31 0 0 0 0 = true by decide +kernel) hP (k := 54) (by decide +kernel) (by decide) (by decide +kernel) rfl z1 z2 (by decide) (hwr 54 (by decide)) (gk) (fun h1 hP1 e1 => ?_)
  have w1 : ab_sl h1 (u 40) 19 = some (.int zw) := by rw [e1, if_neg (fun z => hud 40 54 (by decide +kernel) (by decide +kernel) (by decide) z.1)]; exact hzw
  refine rs_st (cmp := am_cmp) wk_q120 (show wk_at wk_m120 10 3 0 1 0 0 = true by decide +kernel) rfl ?_
  refine md_get hut wk_q120 (show wk_at wk_m120 11 25 9 21 0 0 = true by decide +kernel) hP1.1 (v := .ref (u 55)) (md_row hU hut hP1.1 (i := 21) (k := 55) (by decide) rfl (by decide +kernel)) ?_
  refine rs_st (cmp := am_cmp) wk_q120 (show wk_at wk_m120 14 3 0 1 0 0 = true by decide +kernel) rfl ?_
  refine md_get hut wk_q120 (show wk_at wk_m120 15 25 9 19 0 0 = true by decide +kernel) hP1.1 (v := .int zw) w1 ?_
  refine rs_st (cmp := am_cmp) wk_q120 (show wk_at wk_m120 18 2 2 1 0 0 = true by decide +kernel) rfl ?_
  refine md_ias hut wk_q120 (show wk_at wk_m120 19 31 0 0 0 0 = true by decide +kernel) hP1 (k := 55) (by decide +kernel) (by decide) (by decide +kernel) rfl z1 z2 (by decide) (hwr 55 (by decide)) (gs) (fun h2 hP2 e2 => ?_)
  have w2 : ab_sl h2 (u 40) 19 = some (.int zw) := by rw [e2, if_neg (fun z => hud 40 55 (by decide +kernel) (by decide +kernel) (by decide) z.1)]; exact w1
  refine rs_st (cmp := am_cmp) wk_q120 (show wk_at wk_m120 20 3 0 1 0 0 = true by decide +kernel) rfl ?_
  refine md_get hut wk_q120 (show wk_at wk_m120 21 25 9 22 0 0 = true by decide +kernel) hP2.1 (v := .ref (u 56)) (md_row hU hut hP2.1 (i := 22) (k := 56) (by decide) rfl (by decide +kernel)) ?_
  refine rs_st (cmp := am_cmp) wk_q120 (show wk_at wk_m120 24 3 0 1 0 0 = true by decide +kernel) rfl ?_
  refine md_get hut wk_q120 (show wk_at wk_m120 25 25 9 19 0 0 = true by decide +kernel) hP2.1 (v := .int zw) w2 ?_
  refine rs_st (cmp := am_cmp) wk_q120 (show wk_at wk_m120 28 2 3 1 0 0 = true by decide +kernel) rfl ?_
  refine md_ias hut wk_q120 (show wk_at wk_m120 29 31 0 0 0 0 = true by decide +kernel) hP2 (k := 56) (by decide +kernel) (by decide) (by decide +kernel) rfl z1 z2 (by decide) (hwr 56 (by decide)) (gr) (fun h3 hP3 e3 => ?_)
  have w3 : ab_sl h3 (u 40) 19 = some (.int zw) := by rw [e3, if_neg (fun z => hud 40 56 (by decide +kernel) (by decide +kernel) (by decide) z.1)]; exact w2
  refine rs_st (cmp := am_cmp) wk_q120 (show wk_at wk_m120 30 3 0 1 0 0 = true by decide +kernel) rfl ?_
  refine md_get hut wk_q120 (show wk_at wk_m120 31 25 9 23 0 0 = true by decide +kernel) hP3.1 (v := .ref (u 57)) (md_row hU hut hP3.1 (i := 23) (k := 57) (by decide) rfl (by decide +kernel)) ?_
  refine rs_st (cmp := am_cmp) wk_q120 (show wk_at wk_m120 34 3 0 1 0 0 = true by decide +kernel) rfl ?_
  refine md_get hut wk_q120 (show wk_at wk_m120 35 25 9 19 0 0 = true by decide +kernel) hP3.1 (v := .int zw) w3 ?_
  refine rs_st (cmp := am_cmp) wk_q120 (show wk_at wk_m120 38 2 4 2 0 0 = true by decide +kernel) rfl ?_
  refine md_ias hut wk_q120 (show wk_at wk_m120 40 31 0 0 0 0 = true by decide +kernel) hP3 (k := 57) (by decide +kernel) (by decide) (by decide +kernel) rfl z1 z2 (by decide) (hwr 57 (by decide)) (⟨ab_top, List.mem_singleton_self _, gt _⟩) (fun h4 hP4 e4 => ?_)
  have w4 : ab_sl h4 (u 40) 19 = some (.int zw) := by rw [e4, if_neg (fun z => hud 40 57 (by decide +kernel) (by decide +kernel) (by decide) z.1)]; exact w3
  refine rs_st (cmp := am_cmp) wk_q120 (show wk_at wk_m120 41 3 0 1 0 0 = true by decide +kernel) rfl ?_
  refine md_get hut wk_q120 (show wk_at wk_m120 42 25 9 24 0 0 = true by decide +kernel) hP4.1 (v := .ref (u 58)) (md_row hU hut hP4.1 (i := 24) (k := 58) (by decide) rfl (by decide +kernel)) ?_
  refine rs_st (cmp := am_cmp) wk_q120 (show wk_at wk_m120 45 3 0 1 0 0 = true by decide +kernel) rfl ?_
  refine md_get hut wk_q120 (show wk_at wk_m120 46 25 9 19 0 0 = true by decide +kernel) hP4.1 (v := .int zw) w4 ?_
  refine rs_st (cmp := am_cmp) wk_q120 (show wk_at wk_m120 49 2 5 2 0 0 = true by decide +kernel) rfl ?_
  refine md_ias hut wk_q120 (show wk_at wk_m120 51 31 0 0 0 0 = true by decide +kernel) hP4 (k := 58) (by decide +kernel) (by decide) (by decide +kernel) rfl z1 z2 (by decide) (hwr 58 (by decide)) (⟨ab_top, List.mem_singleton_self _, gt _⟩) (fun h5 hP5 e5 => ?_)
  have w5 : ab_sl h5 (u 40) 19 = some (.int zw) := by rw [e5, if_neg (fun z => hud 40 58 (by decide +kernel) (by decide +kernel) (by decide) z.1)]; exact w4
  refine rs_st (cmp := am_cmp) wk_q120 (show wk_at wk_m120 52 3 0 1 0 0 = true by decide +kernel) rfl ?_
  refine rs_st (cmp := am_cmp) wk_q120 (show wk_at wk_m120 53 18 0 0 0 0 = true by decide +kernel) rfl ?_
  refine md_get hut wk_q120 (show wk_at wk_m120 54 25 9 19 0 0 = true by decide +kernel) hP5.1 (v := .int zw) w5 ?_
  refine rs_st (cmp := am_cmp) wk_q120 (show wk_at wk_m120 57 1 9 1 0 0 = true by decide +kernel) rfl ?_
  refine rs_st (cmp := am_cmp) wk_q120 (show wk_at wk_m120 58 7 0 0 0 0 = true by decide +kernel) rfl ?_
  refine md_put hut wk_q120 (show wk_at wk_m120 59 26 9 19 0 0 = true by decide +kernel) hP5 (by decide) hwr19 (by rw [hG19]; exact ⟨_, List.mem_singleton_self _, _, rfl, by rw [zz]; decide, by rw [zz]; decide⟩) (fun h6 hP6 e6 => ?_)
  refine rs_en (cmp := am_cmp) wk_q120 (show wk_at wk_m120 62 46 0 0 0 0 = true by decide +kernel) rfl (hQ h6 hP6 (fun k hk i => ?_))
  have hne : ∀ k', w_uq k' = true → (u k = u k' ↔ k = k') := fun k' hk' => ⟨fun e => by by_cases ek : k = k'; exact ek; exact absurd e (hud k k' hk hk' ek), fun e => by rw [e]⟩
  rw [e6, e5, e4, e3, e2, e1, zz]
  have n40 := hne 40 (by decide +kernel)
  have n54 := hne 54 (by decide +kernel)
  have n55 := hne 55 (by decide +kernel)
  have n56 := hne 56 (by decide +kernel)
  have n57 := hne 57 (by decide +kernel)
  have n58 := hne 58 (by decide +kernel)
  simp only [n40, n54, n55, n56, n57, n58]
  by_cases a40 : k = 40
  · subst a40
    by_cases i19 : i = 19
    · subst i19; rfl
    · simp [i19]
  · by_cases i0 : i = 0
    · subst i0
      simp only [a40, false_and, if_false, and_true, if_true]
      by_cases b8 : k = 58
      · subst b8; rfl
      by_cases b7 : k = 57
      · subst b7; rfl
      by_cases b6 : k = 56
      · subst b6; rfl
      by_cases b5 : k = 55
      · subst b5; rfl
      simp [b8, b7, b6, b5]
    · simp [a40, i0]
set_option maxRecDepth 100000 in
theorem jm_move {τ u : Nat → Nat} {mc Tc Tm : Nat} (hmc : mc < 9) (hU : ab_U w_uq τ u) (hut : ∀ k, w_uq k = true → τ (u k) = k) {h : am_H} (hJ : j_J τ u mc Tc Tm h) (zm zl : Int32) : cl_Rn am_m110 (0, [some (.ref (u 40)), some (.int zm), some (.int zl), none], [], h, 0, 0) (fun r => ∃ h', r = (.inl none, h', 0, 0) ∧ j_J τ u mc Tc Tm h' ∧ h'.length = h.length) := by
  have hu : τ (u 40) = 40 := hut 40 (by decide +kernel)
  have hu0 : τ (u 40) ≠ 0 := by rw [hu]; decide
  have hk40 : (w_kd (τ (u 40))).1 = 9 := by rw [hu]; rfl
  have c0 : ab_b (Int32.ofNat (1 / 8)) = 2147483648 := by decide
  have c1 : ab_b (Int32.ofNat (9 / 8)) = 2147483649 := by decide
  have c4 : ab_b (Int32.ofNat (33 / 8)) = 2147483652 := by decide
  have c8 : ab_b (Int32.ofNat (65 / 8)) = 2147483656 := by decide
  have c15 : ab_b (Int32.ofNat (121 / 8)) = 2147483663 := by decide
  obtain ⟨zc, hzc, q1, q2⟩ := md_fld hut hJ.1 (i := 25) (lo := Nat.add 2147483648 mc) (hi := Nat.add 2147483648 mc) (by decide) rfl
  rw [md_a] at q1 q2
  have bad : cl_Rn am_m110 (19, [some (.ref (u 40)), some (.int zm), some (.int zl), none], [], h, 0, 0) (fun r => ∃ h', r = (.inl none, h', 0, 0) ∧ j_J τ u mc Tc Tm h' ∧ h'.length = h.length) := by
    refine rs_st (cmp := am_cmp) wk_q110 (show wk_at wk_m110 19 1 9 1 0 0 = true by decide +kernel) rfl ?_
    refine rs_st (cmp := am_cmp) wk_q110 (show wk_at wk_m110 20 21 24 0 0 0 = true by decide +kernel) rfl ?_
    refine rs_st (cmp := am_cmp) wk_q110 (show wk_at wk_m110 24 4 3 1 0 0 = true by decide +kernel) rfl ?_
    refine rs_st (cmp := am_cmp) wk_q110 (show wk_at wk_m110 25 3 0 1 0 0 = true by decide +kernel) rfl ?_
    refine rs_st (cmp := am_cmp) wk_q110 (show wk_at wk_m110 26 2 3 1 0 0 = true by decide +kernel) rfl ?_
    refine rs_st (cmp := am_cmp) wk_q110 (show wk_at wk_m110 27 2 3 1 0 0 = true by decide +kernel) rfl ?_
    refine rs_ift wk_q110 (show wk_at wk_m110 28 22 1 45 0 0 = true by decide +kernel) (by decide +kernel) ?_
    refine rs_st (cmp := am_cmp) wk_q110 (show wk_at wk_m110 45 1 1 1 0 0 = true by decide +kernel) rfl ?_
    refine rs_iv (as := [.int (Int32.ofNat (9 / 8)), .int (Int32.ofNat (1 / 8))]) (r := []) wk_q110 (show wk_at wk_m110 46 40 125 2 2 9 = true by decide +kernel) hJ.1 hu0 hk40 rfl rfl (Nat.le_of_ble_eq_true rfl) (mj := am_m125) rfl ⟨by decide, by decide, Nat.le_of_ble_eq_true rfl⟩ ?_
    refine j_thr hmc hU hut hJ (fun h' hJ' hl _ _ _ => ⟨_, h', 0, 0, rfl, ?_⟩)
    rw [if_neg (by decide)]
    refine rs_iff wk_q110 (show wk_at wk_m110 49 22 0 53 0 0 = true by decide +kernel) (by decide +kernel) ?_
    exact rs_en (cmp := am_cmp) wk_q110 (show wk_at wk_m110 52 46 0 0 0 0 = true by decide +kernel) rfl ⟨h', rfl, hJ', hl⟩
  refine rs_st (cmp := am_cmp) wk_q110 (show wk_at wk_m110 0 2 1 1 0 0 = true by decide +kernel) rfl ?_
  refine rs_st (cmp := am_cmp) wk_q110 (show wk_at wk_m110 1 3 0 1 0 0 = true by decide +kernel) rfl ?_
  refine rs_get (cmp := am_cmp) wk_q110 (show wk_at wk_m110 2 25 9 25 0 0 = true by decide +kernel) hJ.1 hu0 hk40 hzc ?_
  refine rs_is (as := [.int zm, .int zc]) (r := []) wk_q110 (show wk_at wk_m110 5 40 113 2 0 0 = true by decide +kernel) rfl rfl (Nat.le_of_ble_eq_true rfl) (mj := am_m113) rfl ⟨by decide, by decide, Nat.le_of_ble_eq_true rfl⟩ ?_
  refine jm_out (fun i1 => ⟨_, h, 0, 0, rfl, ?_⟩) (fun _ => ⟨_, h, 0, 0, rfl, ?_⟩)
  rotate_left
  · refine rs_ift wk_q110 (show wk_at wk_m110 8 22 1 19 0 0 = true by decide +kernel) (by decide +kernel) ?_
    exact bad
  refine rs_iff wk_q110 (show wk_at wk_m110 8 22 1 19 0 0 = true by decide +kernel) (by decide +kernel) ?_
  refine rs_st (cmp := am_cmp) wk_q110 (show wk_at wk_m110 11 2 2 1 0 0 = true by decide +kernel) rfl ?_
  refine rs_st (cmp := am_cmp) wk_q110 (show wk_at wk_m110 12 1 33 1 0 0 = true by decide +kernel) rfl ?_
  refine rs_is (as := [.int zl, .int (Int32.ofNat (33 / 8))]) (r := []) wk_q110 (show wk_at wk_m110 13 40 113 2 0 0 = true by decide +kernel) rfl rfl (Nat.le_of_ble_eq_true rfl) (mj := am_m113) rfl ⟨by decide, by decide, Nat.le_of_ble_eq_true rfl⟩ ?_
  refine jm_out (fun i2 => ⟨_, h, 0, 0, rfl, ?_⟩) (fun _ => ⟨_, h, 0, 0, rfl, ?_⟩)
  rotate_left
  · refine rs_iff wk_q110 (show wk_at wk_m110 16 22 0 23 0 0 = true by decide +kernel) (by decide +kernel) ?_
    exact bad
  refine rs_ift wk_q110 (show wk_at wk_m110 16 22 0 23 0 0 = true by decide +kernel) (by decide +kernel) ?_
  obtain ⟨a1, a2⟩ := i1
  obtain ⟨l1, l2⟩ := i2
  rw [c4] at l2
  obtain ⟨m, hm⟩ : ∃ m, ab_b zm = 2147483648 + m := ⟨ab_b zm - 2147483648, by omega⟩
  have m8 : m < 8 := by omega
  have mmc : m < mc := by omega
  have mix : ab_b zm - 2147483648 = m := by rw [hm]; exact Nat.add_sub_cancel_left ..
  have hmc0 : mc ≠ 0 := by omega
  have hmb : Nat.beq mc 0 = false := by
    cases hb : Nat.beq mc 0 with
    | false => rfl
    | true => exact absurd (ab_beq hb) hmc0
  obtain ⟨zo, hzo, vo, hvo, gvo⟩ := md_int hut hJ.1 (k := 61) (i := m) (by decide +kernel) (by decide) (by decide +kernel) (by show m < 8; exact m8) rfl
  have := List.mem_singleton.mp hvo
  subst this
  obtain ⟨zo', ezo, o1, o2⟩ := gvo
  cases ezo
  have o1 : 2147483648 ≤ ab_b zo := o1
  have o2 : ab_b zo ≤ 2147483651 := o2
  refine rs_st (cmp := am_cmp) wk_q110 (show wk_at wk_m110 23 1 1 1 0 0 = true by decide +kernel) rfl ?_
  refine rs_st (cmp := am_cmp) wk_q110 (show wk_at wk_m110 24 4 3 1 0 0 = true by decide +kernel) rfl ?_
  refine rs_st (cmp := am_cmp) wk_q110 (show wk_at wk_m110 25 3 0 1 0 0 = true by decide +kernel) rfl ?_
  refine rs_st (cmp := am_cmp) wk_q110 (show wk_at wk_m110 26 2 3 1 0 0 = true by decide +kernel) rfl ?_
  refine rs_st (cmp := am_cmp) wk_q110 (show wk_at wk_m110 27 2 3 1 0 0 = true by decide +kernel) rfl ?_
  refine rs_iff wk_q110 (show wk_at wk_m110 28 22 1 45 0 0 = true by decide +kernel) (by decide +kernel) ?_
  refine rs_st (cmp := am_cmp) wk_q110 (show wk_at wk_m110 31 3 0 1 0 0 = true by decide +kernel) rfl ?_
  refine rs_get (cmp := am_cmp) wk_q110 (show wk_at wk_m110 32 25 9 28 0 0 = true by decide +kernel) hJ.1 hu0 hk40 (md_row hU hut hJ.1 (i := 28) (k := 61) (by decide) rfl (by decide +kernel)) ?_
  refine rs_st (cmp := am_cmp) wk_q110 (show wk_at wk_m110 35 2 1 1 0 0 = true by decide +kernel) rfl ?_
  refine md_ial hut wk_q110 (show wk_at wk_m110 36 27 0 0 0 0 = true by decide +kernel) hJ.1 (k := 61) (by decide +kernel) (by decide) rfl a1 mix (v := zo) hzo ?_
  refine rs_st (cmp := am_cmp) wk_q110 (show wk_at wk_m110 37 2 2 1 0 0 = true by decide +kernel) rfl ?_
  by_cases eo : zo = zl
  · refine rs_icf wk_q110 (show wk_at wk_m110 38 23 1 45 0 0 = true by decide +kernel) (by show (!decide (zo = zl)) = false; rw [decide_eq_true eo]; rfl) ?_
    refine rs_st (cmp := am_cmp) wk_q110 (show wk_at wk_m110 41 1 9 1 0 0 = true by decide +kernel) rfl ?_
    refine rs_st (cmp := am_cmp) wk_q110 (show wk_at wk_m110 42 21 46 0 0 0 = true by decide +kernel) rfl ?_
    refine rs_iv (as := [.int (Int32.ofNat (1 / 8)), .int (Int32.ofNat (9 / 8))]) (r := []) wk_q110 (show wk_at wk_m110 46 40 125 2 2 9 = true by decide +kernel) hJ.1 hu0 hk40 rfl rfl (Nat.le_of_ble_eq_true rfl) (mj := am_m125) rfl ⟨by decide, by decide, Nat.le_of_ble_eq_true rfl⟩ ?_
    refine j_thr hmc hU hut hJ (fun h' hJ' hl _ _ _ => ⟨_, h', 0, 0, rfl, ?_⟩)
    rw [if_neg (by decide)]
    refine rs_iff wk_q110 (show wk_at wk_m110 49 22 0 53 0 0 = true by decide +kernel) (by decide +kernel) ?_
    exact rs_en (cmp := am_cmp) wk_q110 (show wk_at wk_m110 52 46 0 0 0 0 = true by decide +kernel) rfl ⟨h', rfl, hJ', hl⟩
  refine rs_ict wk_q110 (show wk_at wk_m110 38 23 1 45 0 0 = true by decide +kernel) (by show (!decide (zo = zl)) = true; rw [decide_eq_false eo]; rfl) ?_
  refine rs_st (cmp := am_cmp) wk_q110 (show wk_at wk_m110 45 1 1 1 0 0 = true by decide +kernel) rfl ?_
  refine rs_iv (as := [.int (Int32.ofNat (1 / 8)), .int (Int32.ofNat (1 / 8))]) (r := []) wk_q110 (show wk_at wk_m110 46 40 125 2 2 9 = true by decide +kernel) hJ.1 hu0 hk40 rfl rfl (Nat.le_of_ble_eq_true rfl) (mj := am_m125) rfl ⟨by decide, by decide, Nat.le_of_ble_eq_true rfl⟩ ?_
  refine j_thr hmc hU hut hJ (fun h1 hJ1 hl1 hP1 hs1 _ => ⟨_, h1, 0, 0, rfl, ?_⟩)
  rw [if_pos (by decide)]
  refine rs_ift wk_q110 (show wk_at wk_m110 49 22 0 53 0 0 = true by decide +kernel) (by decide +kernel) ?_
  have hud := md_ud hut
  have zo1 : ab_sl h1 (u 61) m = some (.int zo) := by rw [hs1 _ _ (fun e => absurd e (hud 61 40 (by decide +kernel) (by decide +kernel) (by decide)))]; exact hzo
  refine rs_st (cmp := am_cmp) wk_q110 (show wk_at wk_m110 53 3 0 1 0 0 = true by decide +kernel) rfl ?_
  refine md_get hut wk_q110 (show wk_at wk_m110 54 25 9 38 0 0 = true by decide +kernel) hP1.1 (v := .ref (u 71)) (md_row hU hut hP1.1 (i := 38) (k := 71) (by decide) rfl (by decide +kernel)) ?_
  refine rs_st (cmp := am_cmp) wk_q110 (show wk_at wk_m110 57 1 65 2 0 0 = true by decide +kernel) rfl ?_
  refine rs_st (cmp := am_cmp) wk_q110 (show wk_at wk_m110 59 3 0 1 0 0 = true by decide +kernel) rfl ?_
  refine md_get hut wk_q110 (show wk_at wk_m110 60 25 9 28 0 0 = true by decide +kernel) hP1.1 (v := .ref (u 61)) (md_row hU hut hP1.1 (i := 28) (k := 61) (by decide) rfl (by decide +kernel)) ?_
  refine rs_st (cmp := am_cmp) wk_q110 (show wk_at wk_m110 63 2 1 1 0 0 = true by decide +kernel) rfl ?_
  refine md_ial hut wk_q110 (show wk_at wk_m110 64 27 0 0 0 0 = true by decide +kernel) hP1.1 (k := 61) (by decide +kernel) (by decide) rfl a1 mix (v := zo) zo1 ?_
  refine rs_st (cmp := am_cmp) wk_q110 (show wk_at wk_m110 65 9 0 0 0 0 = true by decide +kernel) rfl ?_
  refine rs_st (cmp := am_cmp) wk_q110 (show wk_at wk_m110 66 2 1 1 0 0 = true by decide +kernel) rfl ?_
  refine rs_st (cmp := am_cmp) wk_q110 (show wk_at wk_m110 67 7 0 0 0 0 = true by decide +kernel) rfl ?_
  refine rs_st (cmp := am_cmp) wk_q110 (show wk_at wk_m110 68 1 34359738361 1 0 0 = true by decide +kernel) rfl ?_
  have hmul := ab_b_mul (x := Int32.ofNat (65 / 8)) (y := zo) (by rw [c8]; decide) o1 (by rw [c8]; omega)
  rw [c8] at hmul
  obtain ⟨o, ho⟩ : ∃ o, ab_b zo = 2147483648 + o := ⟨ab_b zo - 2147483648, by omega⟩
  have hox : ab_b zo - 2147483648 = o := by rw [ho]; exact Nat.add_sub_cancel_left ..
  rw [hox] at hmul
  have o3 : o ≤ 3 := by omega
  have h88 : (2147483656 - 2147483648) * o = 8 * o := by rfl
  rw [h88] at hmul
  have hidx := ab_b_add (x := Int32.ofNat (65 / 8) * zo) (y := zm) (by omega) (by omega)
  have hidx : ab_b (Int32.ofNat (65 / 8) * zo + zm) = 2147483648 + (8 * o + m) := by omega
  have hidn : ab_b (Int32.ofNat (65 / 8) * zo + zm) - 2147483648 = 8 * o + m := by rw [hidx]; exact Nat.add_sub_cancel_left ..
  refine md_ias hut wk_q110 (show wk_at wk_m110 69 31 0 0 0 0 = true by decide +kernel) hP1 (k := 71) (by decide +kernel) (by decide) (by decide +kernel) rfl (by omega) hidn (by show 8 * o + m < 40; omega) (by decide +kernel) (⟨w_m 0, List.mem_cons_self, _, rfl, by decide, by decide⟩) (fun h2 hP2 e2 => ?_)
  refine rs_st (cmp := am_cmp) wk_q110 (show wk_at wk_m110 70 3 0 1 0 0 = true by decide +kernel) rfl ?_
  refine md_get hut wk_q110 (show wk_at wk_m110 71 25 9 28 0 0 = true by decide +kernel) hP2.1 (v := .ref (u 61)) (md_row hU hut hP2.1 (i := 28) (k := 61) (by decide) rfl (by decide +kernel)) ?_
  refine rs_st (cmp := am_cmp) wk_q110 (show wk_at wk_m110 74 2 1 1 0 0 = true by decide +kernel) rfl ?_
  refine rs_st (cmp := am_cmp) wk_q110 (show wk_at wk_m110 75 2 2 1 0 0 = true by decide +kernel) rfl ?_
  refine md_ias hut wk_q110 (show wk_at wk_m110 76 31 0 0 0 0 = true by decide +kernel) hP2 (k := 61) (by decide +kernel) (by decide) (by decide +kernel) rfl a1 mix (by show m < 8; exact m8) (by decide +kernel) (⟨w_r 0 3, List.mem_singleton_self _, _, rfl, l1, by show _ ≤ 2147483651; omega⟩) (fun h3 hP3 e3 => ?_)
  refine rs_st (cmp := am_cmp) wk_q110 (show wk_at wk_m110 77 3 0 1 0 0 = true by decide +kernel) rfl ?_
  refine md_get hut wk_q110 (show wk_at wk_m110 78 25 9 29 0 0 = true by decide +kernel) hP3.1 (v := .ref (u 62)) (md_row hU hut hP3.1 (i := 29) (k := 62) (by decide) rfl (by decide +kernel)) ?_
  refine rs_st (cmp := am_cmp) wk_q110 (show wk_at wk_m110 81 2 1 1 0 0 = true by decide +kernel) rfl ?_
  refine rs_st (cmp := am_cmp) wk_q110 (show wk_at wk_m110 82 19 0 0 0 0 = true by decide +kernel) rfl ?_
  obtain ⟨zv, hzv, -⟩ := md_int hut hP3.1 (k := 62) (i := m) (by decide +kernel) (by decide) (by decide +kernel) (by show m < 8; exact m8) rfl
  refine md_ial hut wk_q110 (show wk_at wk_m110 83 27 0 0 0 0 = true by decide +kernel) hP3.1 (k := 62) (by decide +kernel) (by decide) rfl a1 mix (v := zv) hzv ?_
  refine rs_st (cmp := am_cmp) wk_q110 (show wk_at wk_m110 84 1 9 1 0 0 = true by decide +kernel) rfl ?_
  refine rs_st (cmp := am_cmp) wk_q110 (show wk_at wk_m110 85 7 0 0 0 0 = true by decide +kernel) rfl ?_
  refine md_ias hut wk_q110 (show wk_at wk_m110 86 31 0 0 0 0 = true by decide +kernel) hP3 (k := 62) (by decide +kernel) (by decide) (by decide +kernel) rfl a1 mix (by show m < 8; exact m8) (by decide +kernel) (⟨ab_top, List.mem_singleton_self _, _, rfl, Nat.zero_le _, Nat.le_of_lt_succ (ab_b_lt _)⟩) (fun h4 hP4 e4 => ?_)
  refine rs_st (cmp := am_cmp) wk_q110 (show wk_at wk_m110 87 3 0 1 0 0 = true by decide +kernel) rfl ?_
  refine rs_st (cmp := am_cmp) wk_q110 (show wk_at wk_m110 88 2 1 1 0 0 = true by decide +kernel) rfl ?_
  have k4 : ∀ k i, w_uq k = true → k ≠ 71 → k ≠ 61 → k ≠ 62 → ab_sl h4 (u k) i = ab_sl h1 (u k) i := fun k i hk x1 x2 x3 => by rw [e4, if_neg (fun z => hud k 62 hk (by decide +kernel) x3 z.1), e3, if_neg (fun z => hud k 61 hk (by decide +kernel) x2 z.1), e2, if_neg (fun z => hud k 71 hk (by decide +kernel) x1 z.1)]
  have ht : ∀ {k i T}, w_uq k = true → k ≠ 71 → k ≠ 61 → k ≠ 62 → j_t h1 (u k) i T → j_t h4 (u k) i T := fun {k i T} hk x1 x2 x3 ⟨z, hz, hT⟩ => ⟨z, by rw [k4 k i hk x1 x2 x3]; exact hz, hT⟩
  have K4 : km_K u mc h4 := by
    refine km_same (fun k hk i => ?_) (k4 40 19 (by decide +kernel) (by decide) (by decide) (by decide)) hJ1.2.2.1
    simp only [List.mem_cons, List.not_mem_nil, or_false] at hk
    rcases hk with rfl | rfl | rfl | rfl | rfl | rfl | rfl | rfl | rfl <;> exact k4 _ _ (by decide +kernel) (by decide) (by decide) (by decide)
  have hJ4 : j_J τ u mc Tc Tm h4 := by
    refine j_ref hmc hut hJ hP4.1 K4 (j_sub (by decide +kernel) hP4.2.1) (ht (by decide +kernel) (by decide) (by decide) (by decide) hJ1.2.2.2.1) (ht (by decide +kernel) (by decide) (by decide) (by decide) hJ1.2.2.2.2.2.1)
  refine rs_iv (as := [.int zm]) (r := []) wk_q110 (show wk_at wk_m110 89 40 123 1 2 9 = true by decide +kernel) hJ4.1 hu0 hk40 rfl rfl (Nat.le_of_ble_eq_true rfl) (mj := am_m123) rfl ⟨by decide, by decide, Nat.le_of_ble_eq_true rfl⟩ ?_
  refine Rn_mono (j_api (xs := [.ref (u 40), .int zm]) hmc hU hut (j_k123 mc hmc hmc0) rfl hJ4 ⟨Or.inr ⟨rfl, hu, by decide⟩, Or.inr (ab_g_0.mpr ⟨zm, rfl, a1, by show _ ≤ Nat.add 2147483648 (Nat.sub mc 1); rw [md_a, md_s]; omega⟩), trivial⟩) (fun r hr => ?_)
  obtain ⟨v, h5, k5, q5, rfl, hv, hJ5, hk5, hq5, hl5⟩ := hr
  obtain rfl : k5 = 0 := Nat.le_zero.mp hk5
  obtain rfl : q5 = 0 := Nat.le_zero.mp hq5
  rcases hv with ⟨-, rfl⟩ | ⟨hv, -⟩
  rotate_left
  · exact absurd hv (by decide)
  refine ⟨none, h5, 0, 0, rfl, ?_⟩
  have hl50 : h5.length = h.length := by rw [hl5]; exact hP4.2.2
  refine rs_st (cmp := am_cmp) wk_q110 (show wk_at wk_m110 92 3 0 1 0 0 = true by decide +kernel) rfl ?_
  refine rs_st (cmp := am_cmp) wk_q110 (show wk_at wk_m110 93 1 25 1 0 0 = true by decide +kernel) rfl ?_
  refine rs_st (cmp := am_cmp) wk_q110 (show wk_at wk_m110 94 2 1 1 0 0 = true by decide +kernel) rfl ?_
  refine rs_st (cmp := am_cmp) wk_q110 (show wk_at wk_m110 95 1 121 2 0 0 = true by decide +kernel) rfl ?_
  refine rs_st (cmp := am_cmp) wk_q110 (show wk_at wk_m110 97 3 0 1 0 0 = true by decide +kernel) rfl ?_
  obtain ⟨zA, hzA, vA, hvA, gvA⟩ := md_int hut hJ5.1 (k := 60) (i := m) (by decide +kernel) (by decide) (by decide +kernel) (by show m < 8; exact m8) rfl
  have := List.mem_singleton.mp hvA
  subst this
  obtain ⟨zA', ezA, A1, A2⟩ := gvA
  cases ezA
  have A1 : 2147483648 ≤ ab_b zA := A1
  have A2 : ab_b zA ≤ 2147483655 := A2
  refine md_get hut wk_q110 (show wk_at wk_m110 98 25 9 27 0 0 = true by decide +kernel) hJ5.1 (v := .ref (u 60)) (md_row hU hut hJ5.1 (i := 27) (k := 60) (by decide) rfl (by decide +kernel)) ?_
  refine rs_st (cmp := am_cmp) wk_q110 (show wk_at wk_m110 101 2 1 1 0 0 = true by decide +kernel) rfl ?_
  refine md_ial hut wk_q110 (show wk_at wk_m110 102 27 0 0 0 0 = true by decide +kernel) hJ5.1 (k := 60) (by decide +kernel) (by decide) rfl a1 mix (v := zA) hzA ?_
  refine rs_st (cmp := am_cmp) wk_q110 (show wk_at wk_m110 103 2 1 1 0 0 = true by decide +kernel) rfl ?_
  obtain ⟨zw, hzw, hw0⟩ := hJ5.2.2.2.1
  have hw5 : ∀ k, k ∈ [54, 55, 56, 57, 58] → ab_tb j_mr (ab_bt w_kd k 0) = true := by
    intro k hk
    simp only [List.mem_cons, List.not_mem_nil, or_false] at hk
    rcases hk with rfl | rfl | rfl | rfl | rfl <;> decide +kernel
  have hw19 : ab_tb j_mr (ab_bt w_kd 40 19) = true := by decide +kernel
  refine rs_iv (as := [.int (Int32.ofNat (25 / 8)), .int zm, .int (Int32.ofNat (121 / 8)), .int zA, .int zm]) (r := []) wk_q110 (show wk_at wk_m110 104 40 120 5 2 9 = true by decide +kernel) hJ5.1 hu0 hk40 rfl rfl (Nat.le_of_ble_eq_true rfl) (mj := am_m120) rfl ⟨by decide, by decide, Nat.le_of_ble_eq_true rfl⟩ ?_
  refine jm_say hmb hU hut hw5 hw19 (cl_0 (wr := j_mr) hJ5.1) hzw hw0 ⟨w_r 0 3, List.mem_singleton_self _, _, rfl, by decide, by decide⟩ ⟨w_mm mc, List.mem_singleton_self _, zm, rfl, a1, by show _ ≤ Nat.add 2147483648 (Nat.sub mc 1); rw [md_a, md_s]; omega⟩ ⟨w_e 15, List.mem_cons_of_mem _ List.mem_cons_self, _, rfl, by decide, by decide⟩ (fun h6 hP6 e6 => ⟨none, h6, 0, 0, rfl, ?_⟩)
  have x54 : ab_sl h6 (u 54) 0 = some (.int (Int32.ofNat (25 / 8))) := by rw [e6 54 (by decide +kernel)]; rfl
  have x56 : ab_sl h6 (u 56) 0 = some (.int (Int32.ofNat (121 / 8))) := by rw [e6 56 (by decide +kernel)]; rfl
  have x57 : ab_sl h6 (u 57) 0 = some (.int zA) := by rw [e6 57 (by decide +kernel)]; rfl
  have x58 : ab_sl h6 (u 58) 0 = some (.int zm) := by rw [e6 58 (by decide +kernel)]; rfl
  have x19 : ab_sl h6 (u 40) 19 = some (.int 1) := by rw [e6 40 (by decide +kernel)]; rfl
  have c3 : ab_b (Int32.ofNat (25 / 8)) = 2147483651 := by decide
  have same : ∀ k, w_uq k = true → k ∉ [40, 54, 55, 56, 57, 58] → ∀ i, ab_sl h6 (u k) i = ab_sl h5 (u k) i := fun k hk hn i => by
    simp only [List.mem_cons, List.not_mem_nil, or_false, not_or] at hn
    rw [e6 k hk i]
    simp [hn.1, hn.2.1, hn.2.2.1, hn.2.2.2.1, hn.2.2.2.2.1, hn.2.2.2.2.2]
  have later : ∀ k, w_uq k = true → k ≠ 40 → ∀ i, i ≠ 0 → ab_sl h6 (u k) i = ab_sl h5 (u k) i := fun k hk h4 i hi => by
    rw [e6 k hk i]
    simp [h4, hi]
  have hK6 : km_K0 u mc 1 h6 := by
    obtain ⟨k1, k2, k3, -⟩ := hJ5.2.2.1
    refine ⟨fun i hi => ?_, fun i hi => ?_, fun m m' h1 h2 => ?_, fun i h1 h2 => ?_⟩
    · rw [same 49 (by decide +kernel) (by decide), same 52 (by decide +kernel) (by decide), same 53 (by decide +kernel) (by decide)]
      exact k1 i hi
    · by_cases i0 : i = 0
      · subst i0
        rw [x54, x57, x58]
        refine ⟨⟨_, rfl, Or.inr (Or.inr (Or.inr ⟨rfl, ⟨zA, rfl, A1, A2⟩, zm, rfl, a1, by omega⟩))⟩, fun hle => ?_⟩
        rw [md_v_int x54, c3] at hle
        exact absurd hle (by decide)
      · rw [later 54 (by decide +kernel) (by decide) i i0, later 57 (by decide +kernel) (by decide) i i0, later 58 (by decide +kernel) (by decide) i i0, md_v_eq (later 54 (by decide +kernel) (by decide) i i0), md_v_eq (later 56 (by decide +kernel) (by decide) i i0)]
        exact k2 i hi
    · rw [md_v_eq (same 59 (by decide +kernel) (by decide) m), md_v_eq (same 59 (by decide +kernel) (by decide) m'), md_v_eq (same 60 (by decide +kernel) (by decide) m), md_v_eq (same 60 (by decide +kernel) (by decide) m')]
      exact k3 m m' h1 h2
    · exfalso
      have : km_n u h6 = 1 := by
        unfold km_n
        rw [md_v_int x19]
        decide
      omega
  refine rs_st (cmp := am_cmp) wk_q110 (show wk_at wk_m110 107 3 0 1 0 0 = true by decide +kernel) rfl ?_
  refine rs_iv (as := []) (r := []) wk_q110 (show wk_at wk_m110 108 40 122 0 2 9 = true by decide +kernel) hP6.1 hu0 hk40 rfl rfl (Nat.le_of_ble_eq_true rfl) (mj := am_m122) rfl ⟨by decide, by decide, Nat.le_of_ble_eq_true rfl⟩ ?_
  have hVh := j_hV hmc0 hmc (tv := 2147483648) ⟨Nat.le_refl _, by decide⟩ hU hut
  refine md_step hU hut hmb (by omega) hVh hw5 hw19 (cl_0 hP6.1) hK6 x19 (n := 0) (by decide) (by decide) (fun _ _ => rfl) (fun h7 hP7 hK7 hF7 hQ7 hw7 p1 p2 p3 p4 p5 p6 => ?_)
  refine md_sett_loop hU hut hmb (by omega) hVh hw5 hw19 (h0 := h7) (fun h8 z8 hP8 hK8 hF8 hQ8 hz8 hz80 => ?_) (km_F u h7) h7 (Nat.le_refl _) (cl_0 hP7.1) hK7 (Nat.le_refl _) (Nat.le_refl _) hw7 p1 p2 p3 p4 p5 p6
  refine ⟨none, h8, 0, 0, rfl, ?_⟩
  have hF6 : ab_Fr w_kd τ j_mr h5 h8 := by
    intro a ha
    have l6 : h6.length = h5.length := hP6.2.2
    have l7 : h7.length = h6.length := hP7.2.2
    obtain ⟨f1, f2⟩ := hP6.2.1 a ha
    obtain ⟨g1, g2⟩ := hP7.2.1 a (by omega)
    obtain ⟨p1, p2⟩ := hP8.2.1 a (by omega)
    exact ⟨fun e => (p1 e).trans ((g1 e).trans (f1 e)), fun e i hb => (p2 e i hb).trans ((g2 e i hb).trans (f2 e i hb))⟩
  exact rs_en (cmp := am_cmp) wk_q110 (show wk_at wk_m110 111 46 0 0 0 0 = true by decide +kernel) rfl ⟨h8, rfl, j_ref hmc hut hJ5 hP8.1 hK8 (j_sub (by decide +kernel) hF6) ⟨z8, hz8, hz80⟩ (j_tk hut hJ5.1 hF6 (by decide +kernel) (by decide) (by decide +kernel) hJ5.2.2.2.2.2.1), by have l6 : h6.length = h5.length := hP6.2.2; have l7 : h7.length = h6.length := hP7.2.2; have l8 : h8.length = h7.length := hP8.2.2; omega⟩
