/-! ===== the class: all contracts hold, with 4 machines ===== -/
set_option maxRecDepth 100000 in
set_option maxHeartbeats 4000000 in
theorem cl_v4 {τ u : Nat → Nat} {tv : Nat} (htv : 2147483648 ≤ tv ∧ tv ≤ 2147523647) (hU : ab_U w_uq τ u) (hut : ∀ k, w_uq k = true → τ (u k) = k) (n : Nat) (ih : ∀ j as C mj, C ∈ w_Ct 4 j as → wk_ms j = some mj → mj.2.2.2.1 < n → cl_Vd 4 τ u tv j C) : ∀ j as C mj, C ∈ w_Ct 4 j as → wk_ms j = some mj → mj.2.2.2.1 = n → cl_Vd 4 τ u tv j C := by
  intro j as C mj hC hmj hn
  have hj : j < 146 := by
    unfold wk_ms at hmj
    exact ab_blt (ab_bt_ hmj).1
  have hnf : ∀ mf, wk_ms j = some mf → mf.2.2.2.1 ≤ n := fun mf hmf => by
    rw [hmj] at hmf
    cases hmf
    exact Nat.le_of_eq hn
  have un : ∀ {C : ab_C} {tk cut : Nat} {bn : List (Nat × Nat)} {es : List ab_E} {l : List Nat}, 4 ∈ l → l.all (fun mc => ab_unit w_kd w_un w_uq (w_G mc) am_cmp wk_tls am_cx wk_ms (w_Ct mc) (w_cr mc) j C 0x190000000000000000000000000000000000000000000000000000000000000000000000000000000000000000000000000000000000000000000000000000000000000000000000000000000000000000000000000000000000000000000000000000000000000000000000000000000000000000000000000000000000000000000000000000000400000000000000000000000000000000000000000000000000000000000000000000000000000000 tk bn cut es) = true → cl_Vd 4 τ u tv j C := fun hm hu => ab_unit_ok wk_cmp_ok htv hU (kc_pm hut) wk_ms_ok ih (kc_R hut) (List.all_eq_true.mp hu _ hm) hnf
  have hop : C ∈ wh_C j as → j = 68 ∨ j = 69 ∨ j = 70 → cl_Vd 4 τ u tv j C := fun hC hj3 => by
    rcases wh_C_mem hC with ⟨rfl, n', t, b, h1, h2, h3, rfl⟩ | ⟨rfl, n', t, b, k, h1, h2, h3, h4, rfl⟩ | ⟨j1, j2, n', t, b, h1, h2, h3, rfl⟩
    · exact ab_unit_ok wk_cmp_ok htv hU (kc_pm hut) wk_ms_ok ih (kc_R hut) ((wh_use (wh_all 4 n' t (by decide) h1 h2)).1 b h3).1 hnf
    · exact ab_unit_ok wk_cmp_ok htv hU (kc_pm hut) wk_ms_ok ih (kc_R hut) (((wh_use (wh_all 4 n' t (by decide) h1 h2)).1 b h3).2 k h4) hnf
    · have : j = 68 := by omega
      subst this
      exact ab_unit_ok wk_cmp_ok htv hU (kc_pm hut) wk_ms_ok ih (kc_R hut) ((wh_use (wh_all 4 n' t (by decide) h1 h2)).2 b h3) hnf
  match j, hj with
  | 0, _ =>
    have hC : C ∈ ([] : List ab_C) := hC
    cases hC
  | 1, _ =>
    have hC : C ∈ ([wc_213] : List ab_C) := hC
    rcases List.mem_cons.mp hC with rfl | hC
    · exact un (by decide) wu_219_ok
    cases hC
  | 2, _ =>
    have hC : C ∈ ([wc_169] : List ab_C) := hC
    rcases List.mem_cons.mp hC with rfl | hC
    · exact un (by decide) wu_170_ok
    cases hC
  | 3, _ =>
    have hC : C ∈ ([wc_173] : List ab_C) := hC
    rcases List.mem_cons.mp hC with rfl | hC
    · exact un (by decide) wu_174_ok
    cases hC
  | 4, _ =>
    have hC : C ∈ ([wc_172] : List ab_C) := hC
    rcases List.mem_cons.mp hC with rfl | hC
    · exact un (by decide) wu_173_ok
    cases hC
  | 5, _ =>
    have hC : C ∈ ([wc_221] : List ab_C) := hC
    rcases List.mem_cons.mp hC with rfl | hC
    · exact un (by decide) wu_302_ok
    cases hC
  | 6, _ =>
    have hC : C ∈ ([wc_207] : List ab_C) := hC
    rcases List.mem_cons.mp hC with rfl | hC
    · exact un (by decide) wu_291_ok
    cases hC
  | 7, _ =>
    have hC : C ∈ ([wc_208] : List ab_C) := hC
    rcases List.mem_cons.mp hC with rfl | hC
    · exact un (by decide) wu_292_ok
    cases hC
  | 8, _ =>
    have hC : C ∈ ([wc_206] : List ab_C) := hC
    rcases List.mem_cons.mp hC with rfl | hC
    · exact un (by decide) wu_212_ok
    cases hC
  | 9, _ =>
    have hC : C ∈ ([wc_211] : List ab_C) := hC
    rcases List.mem_cons.mp hC with rfl | hC
    · exact un (by decide) wu_295_ok
    cases hC
  | 10, _ =>
    have hC : C ∈ ([wc_222] : List ab_C) := hC
    rcases List.mem_cons.mp hC with rfl | hC
    · exact un (by decide) wu_229_ok
    cases hC
  | 11, _ =>
    have hC : C ∈ ([wc_174] : List ab_C) := hC
    rcases List.mem_cons.mp hC with rfl | hC
    · exact un (by decide) wu_175_ok
    cases hC
  | 12, _ =>
    have hC : C ∈ ([wc_210] : List ab_C) := hC
    rcases List.mem_cons.mp hC with rfl | hC
    · exact un (by decide) wu_294_ok
    cases hC
  | 13, _ =>
    have hC : C ∈ ([wc_0, wc_1, wc_2, wc_3, wc_4, wc_5, wc_6, wc_7, wc_8, wc_9, wc_10, wc_11, wc_12, wc_13, wc_14, wc_15, wc_16, wc_17, wc_18, wc_19, wc_20, wc_21, wc_22, wc_23, wc_24, wc_25, wc_26, wc_27, wc_28] : List ab_C) := hC
    rcases List.mem_cons.mp hC with rfl | hC
    · exact un (by decide) wu_0_ok
    rcases List.mem_cons.mp hC with rfl | hC
    · exact un (by decide) wu_1_ok
    rcases List.mem_cons.mp hC with rfl | hC
    · exact un (by decide) wu_2_ok
    rcases List.mem_cons.mp hC with rfl | hC
    · exact un (by decide) wu_3_ok
    rcases List.mem_cons.mp hC with rfl | hC
    · exact un (by decide) wu_4_ok
    rcases List.mem_cons.mp hC with rfl | hC
    · exact un (by decide) wu_5_ok
    rcases List.mem_cons.mp hC with rfl | hC
    · exact un (by decide) wu_6_ok
    rcases List.mem_cons.mp hC with rfl | hC
    · exact un (by decide) wu_7_ok
    rcases List.mem_cons.mp hC with rfl | hC
    · exact un (by decide) wu_8_ok
    rcases List.mem_cons.mp hC with rfl | hC
    · exact un (by decide) wu_9_ok
    rcases List.mem_cons.mp hC with rfl | hC
    · exact un (by decide) wu_10_ok
    rcases List.mem_cons.mp hC with rfl | hC
    · exact un (by decide) wu_11_ok
    rcases List.mem_cons.mp hC with rfl | hC
    · exact un (by decide) wu_12_ok
    rcases List.mem_cons.mp hC with rfl | hC
    · exact un (by decide) wu_13_ok
    rcases List.mem_cons.mp hC with rfl | hC
    · exact un (by decide) wu_14_ok
    rcases List.mem_cons.mp hC with rfl | hC
    · exact un (by decide) wu_15_ok
    rcases List.mem_cons.mp hC with rfl | hC
    · exact un (by decide) wu_16_ok
    rcases List.mem_cons.mp hC with rfl | hC
    · exact un (by decide) wu_17_ok
    rcases List.mem_cons.mp hC with rfl | hC
    · exact un (by decide) wu_18_ok
    rcases List.mem_cons.mp hC with rfl | hC
    · exact un (by decide) wu_19_ok
    rcases List.mem_cons.mp hC with rfl | hC
    · exact un (by decide) wu_20_ok
    rcases List.mem_cons.mp hC with rfl | hC
    · exact un (by decide) wu_21_ok
    rcases List.mem_cons.mp hC with rfl | hC
    · exact un (by decide) wu_22_ok
    rcases List.mem_cons.mp hC with rfl | hC
    · exact un (by decide) wu_23_ok
    rcases List.mem_cons.mp hC with rfl | hC
    · exact un (by decide) wu_24_ok
    rcases List.mem_cons.mp hC with rfl | hC
    · exact un (by decide) wu_25_ok
    rcases List.mem_cons.mp hC with rfl | hC
    · exact un (by decide) wu_26_ok
    rcases List.mem_cons.mp hC with rfl | hC
    · exact un (by decide) wu_27_ok
    rcases List.mem_cons.mp hC with rfl | hC
    · exact un (by decide) wu_28_ok
    cases hC
  | 14, _ =>
    have hC : C ∈ ([wc_29, wc_30, wc_31] : List ab_C) := hC
    rcases List.mem_cons.mp hC with rfl | hC
    · exact un (by decide) wu_29_ok
    rcases List.mem_cons.mp hC with rfl | hC
    · exact un (by decide) wu_30_ok
    rcases List.mem_cons.mp hC with rfl | hC
    · exact un (by decide) wu_31_ok
    cases hC
  | 15, _ =>
    have hC : C ∈ ([wc_32, wc_262, wc_263] : List ab_C) := hC
    rcases List.mem_cons.mp hC with rfl | hC
    · exact un (by decide) wu_32_ok
    rcases List.mem_cons.mp hC with rfl | hC
    · exact un (by decide) wu_284_ok
    rcases List.mem_cons.mp hC with rfl | hC
    · exact un (by decide) wu_285_ok
    cases hC
  | 16, _ =>
    have hC : C ∈ ([wc_165] : List ab_C) := hC
    rcases List.mem_cons.mp hC with rfl | hC
    · exact un (by decide) wu_248_ok
    cases hC
  | 17, _ =>
    have hC : C ∈ ([wc_270] : List ab_C) := hC
    rcases List.mem_cons.mp hC with rfl | hC
    · exact un (by decide) wu_301_ok
    cases hC
  | 18, _ =>
    have hC : C ∈ ([wc_217] : List ab_C) := hC
    rcases List.mem_cons.mp hC with rfl | hC
    · exact un (by decide) wu_223_ok
    cases hC
  | 19, _ =>
    have hC : C ∈ ([wc_180] : List ab_C) := hC
    rcases List.mem_cons.mp hC with rfl | hC
    · exact un (by decide) wu_183_ok
    cases hC
  | 20, _ =>
    have hC : C ∈ ([] : List ab_C) := hC
    cases hC
  | 21, _ =>
    have hC : C ∈ ([wc_264] : List ab_C) := hC
    rcases List.mem_cons.mp hC with rfl | hC
    · exact un (by decide) wu_286_ok
    cases hC
  | 22, _ =>
    have hC : C ∈ ([wc_223] : List ab_C) := hC
    rcases List.mem_cons.mp hC with rfl | hC
    · exact un (by decide) wu_303_ok
    cases hC
  | 23, _ =>
    have hC : C ∈ ([wc_170] : List ab_C) := hC
    rcases List.mem_cons.mp hC with rfl | hC
    · exact un (by decide) wu_171_ok
    cases hC
  | 24, _ =>
    have hC : C ∈ ([wc_212] : List ab_C) := hC
    rcases List.mem_cons.mp hC with rfl | hC
    · exact un (by decide) wu_218_ok
    cases hC
  | 25, _ =>
    have hC : C ∈ ([wc_216] : List ab_C) := hC
    rcases List.mem_cons.mp hC with rfl | hC
    · exact un (by decide) wu_222_ok
    cases hC
  | 26, _ =>
    have hC : C ∈ ([wc_268, wc_166] : List ab_C) := hC
    rcases List.mem_cons.mp hC with rfl | hC
    · exact un (by decide) wu_293_ok
    rcases List.mem_cons.mp hC with rfl | hC
    · exact un (by decide) wu_167_ok
    cases hC
  | 27, _ =>
    have hC : C ∈ ([wc_173] : List ab_C) := hC
    rcases List.mem_cons.mp hC with rfl | hC
    · exact un (by decide) wu_299_ok
    cases hC
  | 28, _ =>
    have hC : C ∈ ([wc_218] : List ab_C) := hC
    rcases List.mem_cons.mp hC with rfl | hC
    · exact un (by decide) wu_298_ok
    cases hC
  | 29, _ =>
    have hC : C ∈ ([] : List ab_C) := hC
    cases hC
  | 30, _ =>
    have hC : C ∈ ([wc_224] : List ab_C) := hC
    rcases List.mem_cons.mp hC with rfl | hC
    · exact un (by decide) wu_304_ok
    cases hC
  | 31, _ =>
    have hC : C ∈ ([wc_235] : List ab_C) := hC
    rcases List.mem_cons.mp hC with rfl | hC
    · exact (have e31 : n = 6 := by (have := Option.some.inj hmj; rw [← hn, ← this]; rfl)
      kc_sett_ok (wh := 0x8000000000000000800000000000000080000000000000008000000000000000800000000000000080000000000000000000000000001080000000000000000000000000000000000000000000000000000000000000000000000000000000000000000000000000000000000000000000000000000000000000000000000000000000000000001f00000000000001fe000000000000000000000000000000000000000000000000000000000000000000000000000000000000000000000000000000000000000000000000000000000000000000000000000000000000000000000000000000000000000000000000000000000000000000000000000000000000000000000000000000000000000400000000000000000000000000000000000000000000007000000000000000800000000000000000) rfl hut hU (by decide +kernel) (by decide +kernel) (by decide +kernel) (ih 46 [] wc_151 wk_m46 List.mem_cons_self rfl (by rw [e31]; decide)) (ih 9 [] wc_211 wk_m9 List.mem_cons_self rfl (by rw [e31]; decide)) (ih 48 [] wc_230 wk_m48 List.mem_cons_self rfl (by rw [e31]; decide)))
    cases hC
  | 32, _ =>
    have hC : C ∈ ([wc_214] : List ab_C) := hC
    rcases List.mem_cons.mp hC with rfl | hC
    · exact un (by decide) wu_296_ok
    cases hC
  | 33, _ =>
    have hC : C ∈ ([wc_269] : List ab_C) := hC
    rcases List.mem_cons.mp hC with rfl | hC
    · exact un (by decide) wu_297_ok
    cases hC
  | 34, _ =>
    have hC : C ∈ ([wc_219] : List ab_C) := hC
    rcases List.mem_cons.mp hC with rfl | hC
    · exact un (by decide) wu_300_ok
    cases hC
  | 35, _ =>
    have hC : C ∈ ([] : List ab_C) := hC
    cases hC
  | 36, _ =>
    have hC : C ∈ ([wc_164] : List ab_C) := hC
    rcases List.mem_cons.mp hC with rfl | hC
    · exact un (by decide) wu_165_ok
    cases hC
  | 37, _ =>
    have hC : C ∈ ([] : List ab_C) := hC
    cases hC
  | 38, _ =>
    have hC : C ∈ ([wc_204] : List ab_C) := hC
    rcases List.mem_cons.mp hC with rfl | hC
    · exact un (by decide) wu_210_ok
    cases hC
  | 39, _ =>
    have hC : C ∈ ([wc_196, wc_197, wc_198, wc_199, wc_200, wc_201] : List ab_C) := hC
    rcases List.mem_cons.mp hC with rfl | hC
    · exact un (by decide) wu_202_ok
    rcases List.mem_cons.mp hC with rfl | hC
    · exact un (by decide) wu_203_ok
    rcases List.mem_cons.mp hC with rfl | hC
    · exact un (by decide) wu_204_ok
    rcases List.mem_cons.mp hC with rfl | hC
    · exact un (by decide) wu_205_ok
    rcases List.mem_cons.mp hC with rfl | hC
    · exact un (by decide) wu_206_ok
    rcases List.mem_cons.mp hC with rfl | hC
    · exact un (by decide) wu_207_ok
    cases hC
  | 40, _ =>
    have hC : C ∈ ([wc_195] : List ab_C) := hC
    rcases List.mem_cons.mp hC with rfl | hC
    · exact un (by decide) wu_201_ok
    cases hC
  | 41, _ =>
    have hC : C ∈ ([wc_202] : List ab_C) := hC
    rcases List.mem_cons.mp hC with rfl | hC
    · exact un (by decide) wu_208_ok
    cases hC
  | 42, _ =>
    have hC : C ∈ ([wc_203] : List ab_C) := hC
    rcases List.mem_cons.mp hC with rfl | hC
    · exact un (by decide) wu_209_ok
    cases hC
  | 43, _ =>
    have hC : C ∈ ([] : List ab_C) := hC
    cases hC
  | 44, _ =>
    have hC : C ∈ ([wc_191] : List ab_C) := hC
    rcases List.mem_cons.mp hC with rfl | hC
    · exact kc_copy_ok hut
    cases hC
  | 45, _ =>
    have hC : C ∈ ([] : List ab_C) := hC
    cases hC
  | 46, _ =>
    have hC : C ∈ ([wc_151] : List ab_C) := hC
    rcases List.mem_cons.mp hC with rfl | hC
    · exact un (by decide) wu_151_ok
    cases hC
  | 47, _ =>
    have hC : C ∈ ([wc_271, wc_272, wc_273, wc_274] : List ab_C) := hC
    rcases List.mem_cons.mp hC with rfl | hC
    · exact kc_put_ok (k := w_r 0 1) (r := w_mm 4) (f := ab_top) (s := ab_top) rfl rfl rfl rfl rfl ⟨by decide, by decide⟩ (Or.inl rfl) (kc_al01 4)
    rcases List.mem_cons.mp hC with rfl | hC
    · exact kc_put_ok (k := w_e 2) (r := w_e 15) (f := w_r 0 7) (s := ab_top) rfl rfl rfl rfl rfl ⟨by decide, by decide⟩ (Or.inr rfl) (kc_al2 4)
    rcases List.mem_cons.mp hC with rfl | hC
    · exact kc_put_ok (k := w_e 3) (r := w_mm 4) (f := w_r 0 7) (s := w_mm 4) rfl rfl rfl rfl rfl ⟨by decide, by decide⟩ (Or.inl rfl) (kc_al3 4)
    rcases List.mem_cons.mp hC with rfl | hC
    · exact kc_put_ok (k := w_e 3) (r := w_e 15) (f := w_r 0 7) (s := w_mm 4) rfl rfl rfl rfl rfl ⟨by decide, by decide⟩ (Or.inr rfl) (kc_al3 4)
    cases hC
  | 48, _ =>
    have hC : C ∈ ([wc_230] : List ab_C) := hC
    rcases List.mem_cons.mp hC with rfl | hC
    · exact kc_rmf_ok rfl
    cases hC
  | 49, _ =>
    have hC : C ∈ ([] : List ab_C) := hC
    cases hC
  | 50, _ =>
    have hC : C ∈ ([wc_152] : List ab_C) := hC
    rcases List.mem_cons.mp hC with rfl | hC
    · exact un (by decide) wu_152_ok
    cases hC
  | 51, _ =>
    have hC : C ∈ ([wc_205] : List ab_C) := hC
    rcases List.mem_cons.mp hC with rfl | hC
    · exact un (by decide) wu_287_ok
    cases hC
  | 52, _ =>
    have hC : C ∈ ([wc_154] : List ab_C) := hC
    rcases List.mem_cons.mp hC with rfl | hC
    · exact un (by decide) wu_154_ok
    cases hC
  | 53, _ =>
    have hC : C ∈ ([wc_153] : List ab_C) := hC
    rcases List.mem_cons.mp hC with rfl | hC
    · exact un (by decide) wu_153_ok
    cases hC
  | 54, _ =>
    have hC : C ∈ ([wc_267] : List ab_C) := hC
    rcases List.mem_cons.mp hC with rfl | hC
    · exact un (by decide) wu_290_ok
    cases hC
  | 55, _ =>
    have hC : C ∈ ([wc_265] : List ab_C) := hC
    rcases List.mem_cons.mp hC with rfl | hC
    · exact un (by decide) wu_288_ok
    cases hC
  | 56, _ =>
    have hC : C ∈ ([wc_266] : List ab_C) := hC
    rcases List.mem_cons.mp hC with rfl | hC
    · exact un (by decide) wu_289_ok
    cases hC
  | 57, _ =>
    have hC : C ∈ ([] : List ab_C) := hC
    cases hC
  | 58, _ =>
    have hC : C ∈ ([wc_159] : List ab_C) := hC
    rcases List.mem_cons.mp hC with rfl | hC
    · exact un (by decide) wu_159_ok
    cases hC
  | 59, _ =>
    have hC : C ∈ ([wc_148] : List ab_C) := hC
    rcases List.mem_cons.mp hC with rfl | hC
    · exact un (by decide) wu_148_ok
    cases hC
  | 60, _ =>
    have hC : C ∈ ([wc_158] : List ab_C) := hC
    rcases List.mem_cons.mp hC with rfl | hC
    · exact un (by decide) wu_160_ok
    cases hC
  | 61, _ =>
    have hC : C ∈ ([wc_158] : List ab_C) := hC
    rcases List.mem_cons.mp hC with rfl | hC
    · exact un (by decide) wu_158_ok
    cases hC
  | 62, _ =>
    have hC : C ∈ ([] : List ab_C) := hC
    cases hC
  | 63, _ =>
    have hC : C ∈ ([wc_120] : List ab_C) := hC
    rcases List.mem_cons.mp hC with rfl | hC
    · exact un (by decide) wu_120_ok
    cases hC
  | 64, _ =>
    have hC : C ∈ ([wc_50, wc_58, wc_66, wc_74, wc_82, wc_90] : List ab_C) := hC
    rcases List.mem_cons.mp hC with rfl | hC
    · exact un (by decide) wu_50_ok
    rcases List.mem_cons.mp hC with rfl | hC
    · exact un (by decide) wu_58_ok
    rcases List.mem_cons.mp hC with rfl | hC
    · exact un (by decide) wu_66_ok
    rcases List.mem_cons.mp hC with rfl | hC
    · exact un (by decide) wu_74_ok
    rcases List.mem_cons.mp hC with rfl | hC
    · exact un (by decide) wu_82_ok
    rcases List.mem_cons.mp hC with rfl | hC
    · exact un (by decide) wu_90_ok
    cases hC
  | 65, _ =>
    have hC : C ∈ ([wc_51, wc_59, wc_67, wc_75, wc_83, wc_91] : List ab_C) := hC
    rcases List.mem_cons.mp hC with rfl | hC
    · exact un (by decide) wu_51_ok
    rcases List.mem_cons.mp hC with rfl | hC
    · exact un (by decide) wu_59_ok
    rcases List.mem_cons.mp hC with rfl | hC
    · exact un (by decide) wu_67_ok
    rcases List.mem_cons.mp hC with rfl | hC
    · exact un (by decide) wu_75_ok
    rcases List.mem_cons.mp hC with rfl | hC
    · exact un (by decide) wu_83_ok
    rcases List.mem_cons.mp hC with rfl | hC
    · exact un (by decide) wu_91_ok
    cases hC
  | 66, _ =>
    have hC : C ∈ ([wc_35, wc_37, wc_39, wc_41, wc_43, wc_45] : List ab_C) := hC
    rcases List.mem_cons.mp hC with rfl | hC
    · exact un (by decide) wu_35_ok
    rcases List.mem_cons.mp hC with rfl | hC
    · exact un (by decide) wu_37_ok
    rcases List.mem_cons.mp hC with rfl | hC
    · exact un (by decide) wu_39_ok
    rcases List.mem_cons.mp hC with rfl | hC
    · exact un (by decide) wu_41_ok
    rcases List.mem_cons.mp hC with rfl | hC
    · exact un (by decide) wu_43_ok
    rcases List.mem_cons.mp hC with rfl | hC
    · exact un (by decide) wu_45_ok
    cases hC
  | 67, _ =>
    have hC : C ∈ ([wc_98, wc_99, wc_100, wc_101, wc_102, wc_103] : List ab_C) := hC
    rcases List.mem_cons.mp hC with rfl | hC
    · exact un (by decide) wu_98_ok
    rcases List.mem_cons.mp hC with rfl | hC
    · exact un (by decide) wu_99_ok
    rcases List.mem_cons.mp hC with rfl | hC
    · exact un (by decide) wu_100_ok
    rcases List.mem_cons.mp hC with rfl | hC
    · exact un (by decide) wu_101_ok
    rcases List.mem_cons.mp hC with rfl | hC
    · exact un (by decide) wu_102_ok
    rcases List.mem_cons.mp hC with rfl | hC
    · exact un (by decide) wu_103_ok
    cases hC
  | 68, _ =>
    have hC : C ∈ wh_C 68 as ++ [wc_141, wc_142, wc_143, wc_144, wc_145, wc_146] := hC
    rcases List.mem_append.mp hC with hC | hC
    · exact hop hC (by decide)
    · rcases List.mem_cons.mp hC with rfl | hC
      · exact un (by decide) wu_141_ok
      rcases List.mem_cons.mp hC with rfl | hC
      · exact un (by decide) wu_142_ok
      rcases List.mem_cons.mp hC with rfl | hC
      · exact un (by decide) wu_143_ok
      rcases List.mem_cons.mp hC with rfl | hC
      · exact un (by decide) wu_144_ok
      rcases List.mem_cons.mp hC with rfl | hC
      · exact un (by decide) wu_145_ok
      rcases List.mem_cons.mp hC with rfl | hC
      · exact un (by decide) wu_146_ok
      cases hC
  | 69, _ =>
    have hC : C ∈ wh_C 69 as ++ [] := hC
    rcases List.mem_append.mp hC with hC | hC
    · exact hop hC (by decide)
    · cases hC
  | 70, _ =>
    have hC : C ∈ wh_C 70 as ++ [wc_52, wc_53, wc_54, wc_55, wc_56, wc_57, wc_60, wc_61, wc_62, wc_63, wc_64, wc_65, wc_68, wc_69, wc_70, wc_71, wc_72, wc_73, wc_76, wc_77, wc_78, wc_79, wc_80, wc_81, wc_84, wc_85, wc_86, wc_87, wc_88, wc_89, wc_92, wc_93, wc_94, wc_95, wc_96, wc_97] := hC
    rcases List.mem_append.mp hC with hC | hC
    · exact hop hC (by decide)
    · rcases List.mem_cons.mp hC with rfl | hC
      · exact un (by decide) wu_52_ok
      rcases List.mem_cons.mp hC with rfl | hC
      · exact un (by decide) wu_53_ok
      rcases List.mem_cons.mp hC with rfl | hC
      · exact un (by decide) wu_54_ok
      rcases List.mem_cons.mp hC with rfl | hC
      · exact un (by decide) wu_55_ok
      rcases List.mem_cons.mp hC with rfl | hC
      · exact un (by decide) wu_56_ok
      rcases List.mem_cons.mp hC with rfl | hC
      · exact un (by decide) wu_57_ok
      rcases List.mem_cons.mp hC with rfl | hC
      · exact un (by decide) wu_60_ok
      rcases List.mem_cons.mp hC with rfl | hC
      · exact un (by decide) wu_61_ok
      rcases List.mem_cons.mp hC with rfl | hC
      · exact un (by decide) wu_62_ok
      rcases List.mem_cons.mp hC with rfl | hC
      · exact un (by decide) wu_63_ok
      rcases List.mem_cons.mp hC with rfl | hC
      · exact un (by decide) wu_64_ok
      rcases List.mem_cons.mp hC with rfl | hC
      · exact un (by decide) wu_65_ok
      rcases List.mem_cons.mp hC with rfl | hC
      · exact un (by decide) wu_68_ok
      rcases List.mem_cons.mp hC with rfl | hC
      · exact un (by decide) wu_69_ok
      rcases List.mem_cons.mp hC with rfl | hC
      · exact un (by decide) wu_70_ok
      rcases List.mem_cons.mp hC with rfl | hC
      · exact un (by decide) wu_71_ok
      rcases List.mem_cons.mp hC with rfl | hC
      · exact un (by decide) wu_72_ok
      rcases List.mem_cons.mp hC with rfl | hC
      · exact un (by decide) wu_73_ok
      rcases List.mem_cons.mp hC with rfl | hC
      · exact un (by decide) wu_76_ok
      rcases List.mem_cons.mp hC with rfl | hC
      · exact un (by decide) wu_77_ok
      rcases List.mem_cons.mp hC with rfl | hC
      · exact un (by decide) wu_78_ok
      rcases List.mem_cons.mp hC with rfl | hC
      · exact un (by decide) wu_79_ok
      rcases List.mem_cons.mp hC with rfl | hC
      · exact un (by decide) wu_80_ok
      rcases List.mem_cons.mp hC with rfl | hC
      · exact un (by decide) wu_81_ok
      rcases List.mem_cons.mp hC with rfl | hC
      · exact un (by decide) wu_84_ok
      rcases List.mem_cons.mp hC with rfl | hC
      · exact un (by decide) wu_85_ok
      rcases List.mem_cons.mp hC with rfl | hC
      · exact un (by decide) wu_86_ok
      rcases List.mem_cons.mp hC with rfl | hC
      · exact un (by decide) wu_87_ok
      rcases List.mem_cons.mp hC with rfl | hC
      · exact un (by decide) wu_88_ok
      rcases List.mem_cons.mp hC with rfl | hC
      · exact un (by decide) wu_89_ok
      rcases List.mem_cons.mp hC with rfl | hC
      · exact un (by decide) wu_92_ok
      rcases List.mem_cons.mp hC with rfl | hC
      · exact un (by decide) wu_93_ok
      rcases List.mem_cons.mp hC with rfl | hC
      · exact un (by decide) wu_94_ok
      rcases List.mem_cons.mp hC with rfl | hC
      · exact un (by decide) wu_95_ok
      rcases List.mem_cons.mp hC with rfl | hC
      · exact un (by decide) wu_96_ok
      rcases List.mem_cons.mp hC with rfl | hC
      · exact un (by decide) wu_97_ok
      cases hC
  | 71, _ =>
    have hC : C ∈ ([wc_49] : List ab_C) := hC
    rcases List.mem_cons.mp hC with rfl | hC
    · exact un (by decide) wu_49_ok
    cases hC
  | 72, _ =>
    have hC : C ∈ ([wc_47, wc_48] : List ab_C) := hC
    rcases List.mem_cons.mp hC with rfl | hC
    · exact un (by decide) wu_47_ok
    rcases List.mem_cons.mp hC with rfl | hC
    · exact un (by decide) wu_48_ok
    cases hC
  | 73, _ =>
    have hC : C ∈ ([wc_36, wc_38, wc_40, wc_42, wc_44, wc_46] : List ab_C) := hC
    rcases List.mem_cons.mp hC with rfl | hC
    · exact un (by decide) wu_36_ok
    rcases List.mem_cons.mp hC with rfl | hC
    · exact un (by decide) wu_38_ok
    rcases List.mem_cons.mp hC with rfl | hC
    · exact un (by decide) wu_40_ok
    rcases List.mem_cons.mp hC with rfl | hC
    · exact un (by decide) wu_42_ok
    rcases List.mem_cons.mp hC with rfl | hC
    · exact un (by decide) wu_44_ok
    rcases List.mem_cons.mp hC with rfl | hC
    · exact un (by decide) wu_46_ok
    cases hC
  | 74, _ =>
    have hC : C ∈ ([wc_104, wc_105, wc_106, wc_107, wc_108, wc_109, wc_110, wc_111, wc_112, wc_113, wc_114, wc_115, wc_116, wc_117, wc_118, wc_119] : List ab_C) := hC
    rcases List.mem_cons.mp hC with rfl | hC
    · exact un (by decide) wu_104_ok
    rcases List.mem_cons.mp hC with rfl | hC
    · exact un (by decide) wu_105_ok
    rcases List.mem_cons.mp hC with rfl | hC
    · exact un (by decide) wu_106_ok
    rcases List.mem_cons.mp hC with rfl | hC
    · exact un (by decide) wu_107_ok
    rcases List.mem_cons.mp hC with rfl | hC
    · exact un (by decide) wu_108_ok
    rcases List.mem_cons.mp hC with rfl | hC
    · exact un (by decide) wu_109_ok
    rcases List.mem_cons.mp hC with rfl | hC
    · exact un (by decide) wu_110_ok
    rcases List.mem_cons.mp hC with rfl | hC
    · exact un (by decide) wu_111_ok
    rcases List.mem_cons.mp hC with rfl | hC
    · exact un (by decide) wu_112_ok
    rcases List.mem_cons.mp hC with rfl | hC
    · exact un (by decide) wu_113_ok
    rcases List.mem_cons.mp hC with rfl | hC
    · exact un (by decide) wu_114_ok
    rcases List.mem_cons.mp hC with rfl | hC
    · exact un (by decide) wu_115_ok
    rcases List.mem_cons.mp hC with rfl | hC
    · exact un (by decide) wu_116_ok
    rcases List.mem_cons.mp hC with rfl | hC
    · exact un (by decide) wu_117_ok
    rcases List.mem_cons.mp hC with rfl | hC
    · exact un (by decide) wu_118_ok
    rcases List.mem_cons.mp hC with rfl | hC
    · exact un (by decide) wu_119_ok
    cases hC
  | 75, _ =>
    have hC : C ∈ ([wc_121] : List ab_C) := hC
    rcases List.mem_cons.mp hC with rfl | hC
    · exact un (by decide) wu_121_ok
    cases hC
  | 76, _ =>
    have hC : C ∈ ([] : List ab_C) := hC
    cases hC
  | 77, _ =>
    have hC : C ∈ ([wc_162] : List ab_C) := hC
    rcases List.mem_cons.mp hC with rfl | hC
    · exact un (by decide) wu_163_ok
    cases hC
  | 78, _ =>
    have hC : C ∈ ([wc_163] : List ab_C) := hC
    rcases List.mem_cons.mp hC with rfl | hC
    · exact un (by decide) wu_164_ok
    cases hC
  | 79, _ =>
    have hC : C ∈ ([wc_160] : List ab_C) := hC
    rcases List.mem_cons.mp hC with rfl | hC
    · exact un (by decide) wu_161_ok
    cases hC
  | 80, _ =>
    have hC : C ∈ ([wc_161] : List ab_C) := hC
    rcases List.mem_cons.mp hC with rfl | hC
    · exact un (by decide) wu_162_ok
    cases hC
  | 81, _ =>
    have hC : C ∈ ([] : List ab_C) := hC
    cases hC
  | 82, _ =>
    have hC : C ∈ ([] : List ab_C) := hC
    cases hC
  | 83, _ =>
    have hC : C ∈ ([] : List ab_C) := hC
    cases hC
  | 84, _ =>
    have hC : C ∈ ([] : List ab_C) := hC
    cases hC
  | 85, _ =>
    have hC : C ∈ ([] : List ab_C) := hC
    cases hC
  | 86, _ =>
    have hC : C ∈ ([] : List ab_C) := hC
    cases hC
  | 87, _ =>
    have hC : C ∈ ([] : List ab_C) := hC
    cases hC
  | 88, _ =>
    have hC : C ∈ ([] : List ab_C) := hC
    cases hC
  | 89, _ =>
    have hC : C ∈ ([] : List ab_C) := hC
    cases hC
  | 90, _ =>
    have hC : C ∈ ([] : List ab_C) := hC
    cases hC
  | 91, _ =>
    have hC : C ∈ ([] : List ab_C) := hC
    cases hC
  | 92, _ =>
    have hC : C ∈ ([] : List ab_C) := hC
    cases hC
  | 93, _ =>
    have hC : C ∈ ([] : List ab_C) := hC
    cases hC
  | 94, _ =>
    have hC : C ∈ ([] : List ab_C) := hC
    cases hC
  | 95, _ =>
    have hC : C ∈ ([] : List ab_C) := hC
    cases hC
  | 96, _ =>
    have hC : C ∈ ([] : List ab_C) := hC
    cases hC
  | 97, _ =>
    have hC : C ∈ ([] : List ab_C) := hC
    cases hC
  | 98, _ =>
    have hC : C ∈ ([] : List ab_C) := hC
    cases hC
  | 99, _ =>
    have hC : C ∈ ([] : List ab_C) := hC
    cases hC
  | 100, _ =>
    have hC : C ∈ ([] : List ab_C) := hC
    cases hC
  | 101, _ =>
    have hC : C ∈ ([] : List ab_C) := hC
    cases hC
  | 102, _ =>
    have hC : C ∈ ([] : List ab_C) := hC
    cases hC
  | 103, _ =>
    have hC : C ∈ ([] : List ab_C) := hC
    cases hC
  | 104, _ =>
    have hC : C ∈ ([] : List ab_C) := hC
    cases hC
  | 105, _ =>
    have hC : C ∈ ([] : List ab_C) := hC
    cases hC
  | 106, _ =>
    have hC : C ∈ ([] : List ab_C) := hC
    cases hC
  | 107, _ =>
    have hC : C ∈ ([] : List ab_C) := hC
    cases hC
  | 108, _ =>
    have hC : C ∈ ([] : List ab_C) := hC
    cases hC
  | 109, _ =>
    have hC : C ∈ ([] : List ab_C) := hC
    cases hC
  | 110, _ =>
    have hC : C ∈ ([] : List ab_C) := hC
    cases hC
  | 111, _ =>
    have hC : C ∈ ([] : List ab_C) := hC
    cases hC
  | 112, _ =>
    have hC : C ∈ ([] : List ab_C) := hC
    cases hC
  | 113, _ =>
    have hC : C ∈ ([] : List ab_C) := hC
    cases hC
  | 114, _ =>
    have hC : C ∈ ([] : List ab_C) := hC
    cases hC
  | 115, _ =>
    have hC : C ∈ ([] : List ab_C) := hC
    cases hC
  | 116, _ =>
    have hC : C ∈ ([] : List ab_C) := hC
    cases hC
  | 117, _ =>
    have hC : C ∈ ([] : List ab_C) := hC
    cases hC
  | 118, _ =>
    have hC : C ∈ ([] : List ab_C) := hC
    cases hC
  | 119, _ =>
    have hC : C ∈ ([] : List ab_C) := hC
    cases hC
  | 120, _ =>
    have hC : C ∈ ([] : List ab_C) := hC
    cases hC
  | 121, _ =>
    have hC : C ∈ ([] : List ab_C) := hC
    cases hC
  | 122, _ =>
    have hC : C ∈ ([] : List ab_C) := hC
    cases hC
  | 123, _ =>
    have hC : C ∈ ([] : List ab_C) := hC
    cases hC
  | 124, _ =>
    have hC : C ∈ ([] : List ab_C) := hC
    cases hC
  | 125, _ =>
    have hC : C ∈ ([] : List ab_C) := hC
    cases hC
  | 126, _ =>
    have hC : C ∈ ([] : List ab_C) := hC
    cases hC
  | 127, _ =>
    have hC : C ∈ ([] : List ab_C) := hC
    cases hC
  | 128, _ =>
    have hC : C ∈ ([] : List ab_C) := hC
    cases hC
  | 129, _ =>
    have hC : C ∈ ([] : List ab_C) := hC
    cases hC
  | 130, _ =>
    have hC : C ∈ ([wc_184] : List ab_C) := hC
    rcases List.mem_cons.mp hC with rfl | hC
    · exact un (by decide) wu_189_ok
    cases hC
  | 131, _ =>
    have hC : C ∈ ([wc_185] : List ab_C) := hC
    rcases List.mem_cons.mp hC with rfl | hC
    · exact un (by decide) wu_235_ok
    cases hC
  | 132, _ =>
    have hC : C ∈ ([wc_227] : List ab_C) := hC
    rcases List.mem_cons.mp hC with rfl | hC
    · exact un (by decide) wu_234_ok
    cases hC
  | 133, _ =>
    have hC : C ∈ ([wc_185] : List ab_C) := hC
    rcases List.mem_cons.mp hC with rfl | hC
    · exact un (by decide) wu_190_ok
    cases hC
  | 134, _ =>
    have hC : C ∈ ([wc_227] : List ab_C) := hC
    rcases List.mem_cons.mp hC with rfl | hC
    · exact un (by decide) wu_236_ok
    cases hC
  | 135, _ =>
    have hC : C ∈ ([wc_229] : List ab_C) := hC
    rcases List.mem_cons.mp hC with rfl | hC
    · exact un (by decide) wu_240_ok
    cases hC
  | 136, _ =>
    have hC : C ∈ ([wc_183] : List ab_C) := hC
    rcases List.mem_cons.mp hC with rfl | hC
    · exact un (by decide) wu_188_ok
    cases hC
  | 137, _ =>
    have hC : C ∈ ([] : List ab_C) := hC
    cases hC
  | 138, _ =>
    have hC : C ∈ ([wc_225] : List ab_C) := hC
    rcases List.mem_cons.mp hC with rfl | hC
    · exact un (by decide) wu_232_ok
    cases hC
  | 139, _ =>
    have hC : C ∈ ([wc_184] : List ab_C) := hC
    rcases List.mem_cons.mp hC with rfl | hC
    · exact un (by decide) wu_238_ok
    cases hC
  | 140, _ =>
    have hC : C ∈ ([wc_228] : List ab_C) := hC
    rcases List.mem_cons.mp hC with rfl | hC
    · exact un (by decide) wu_237_ok
    cases hC
  | 141, _ =>
    have hC : C ∈ ([] : List ab_C) := hC
    cases hC
  | 142, _ =>
    have hC : C ∈ ([wc_226] : List ab_C) := hC
    rcases List.mem_cons.mp hC with rfl | hC
    · exact un (by decide) wu_233_ok
    cases hC
  | 143, _ =>
    have hC : C ∈ ([wc_227] : List ab_C) := hC
    rcases List.mem_cons.mp hC with rfl | hC
    · exact un (by decide) wu_239_ok
    cases hC
  | 144, _ =>
    have hC : C ∈ ([] : List ab_C) := hC
    cases hC
  | 145, _ =>
    have hC : C ∈ ([wc_122, wc_123, wc_124, wc_125, wc_126, wc_127, wc_128, wc_129, wc_130, wc_131, wc_132, wc_133, wc_134, wc_135, wc_136, wc_137, wc_138, wc_139, wc_140] : List ab_C) := hC
    rcases List.mem_cons.mp hC with rfl | hC
    · exact un (by decide) wu_122_ok
    rcases List.mem_cons.mp hC with rfl | hC
    · exact un (by decide) wu_123_ok
    rcases List.mem_cons.mp hC with rfl | hC
    · exact un (by decide) wu_124_ok
    rcases List.mem_cons.mp hC with rfl | hC
    · exact un (by decide) wu_125_ok
    rcases List.mem_cons.mp hC with rfl | hC
    · exact un (by decide) wu_126_ok
    rcases List.mem_cons.mp hC with rfl | hC
    · exact un (by decide) wu_127_ok
    rcases List.mem_cons.mp hC with rfl | hC
    · exact un (by decide) wu_128_ok
    rcases List.mem_cons.mp hC with rfl | hC
    · exact un (by decide) wu_129_ok
    rcases List.mem_cons.mp hC with rfl | hC
    · exact un (by decide) wu_130_ok
    rcases List.mem_cons.mp hC with rfl | hC
    · exact un (by decide) wu_131_ok
    rcases List.mem_cons.mp hC with rfl | hC
    · exact un (by decide) wu_132_ok
    rcases List.mem_cons.mp hC with rfl | hC
    · exact un (by decide) wu_133_ok
    rcases List.mem_cons.mp hC with rfl | hC
    · exact un (by decide) wu_134_ok
    rcases List.mem_cons.mp hC with rfl | hC
    · exact un (by decide) wu_135_ok
    rcases List.mem_cons.mp hC with rfl | hC
    · exact un (by decide) wu_136_ok
    rcases List.mem_cons.mp hC with rfl | hC
    · exact un (by decide) wu_137_ok
    rcases List.mem_cons.mp hC with rfl | hC
    · exact un (by decide) wu_138_ok
    rcases List.mem_cons.mp hC with rfl | hC
    · exact un (by decide) wu_139_ok
    rcases List.mem_cons.mp hC with rfl | hC
    · exact un (by decide) wu_140_ok
    cases hC
  | n + 146, hj => exact absurd hj (by omega)
