/-! ===== the reference without bounds, with 0 machines ===== -/
set_option maxRecDepth 100000 in
set_option maxHeartbeats 4000000 in
theorem ma_v0 {τ u : Nat → Nat} {tv : Nat} (htv : 2147483648 ≤ tv ∧ tv ≤ 2147523647) (hU : ab_U w_uq τ u) (hut : ∀ k, w_uq k = true → τ (u k) = k) (n : Nat) (ih : ∀ j as C mj, C ∈ wa_Ct 0 j as → wk_ms j = some mj → mj.2.2.2.1 < n → ma_Vd 0 τ u tv j C) : ∀ j as C mj, C ∈ wa_Ct 0 j as → wk_ms j = some mj → mj.2.2.2.1 = n → ma_Vd 0 τ u tv j C := by
  intro j as C mj hC hmj hn
  have hj : j < 146 := by
    unfold wk_ms at hmj
    exact ab_blt (ab_bt_ hmj).1
  have hnf : ∀ mf, wk_ms j = some mf → mf.2.2.2.1 ≤ n := fun mf hmf => by
    rw [hmj] at hmf
    cases hmf
    exact Nat.le_of_eq hn
  have un : ∀ {C : ab_C} {tk cut : Nat} {bn : List (Nat × Nat)} {es : List ab_E} {l : List Nat}, 0 ∈ l → l.all (fun mc => ab_unit w_kd w_un w_uq (w_G mc) am_cmp wk_tls am_cx wk_ms (wa_Ct mc) (w_crm mc) j C 0x8000000000000000800000000000000080000000000000008000000000000000800000000000000000000000000000008000000000000000800000000000000080000000000000000000000000000000000000000000000080000000000000000000000000000000000000000000000000000000000000000000000000000000000000000000000000000000000000000000000000000000000000000000000000000000000800000000000000000000000000000000000000000000000000000000000000000000000000000000000000000000000000000000000000000000000000000000000000000000000000000000000000000000000000000000000000000000000000000000000000000000000000000000000000000000000000000000000000000000000000000000000000000000000000000000000000000000000000000000000000000000000000000000000000000000000000000000000000000000000000000000000000000000000000000000000000000000000000000000000000000000000000000000000000000000000000000000000000000000000000000000000000000000000000000000000000000000000000000000000000000000000000000000000000000000000000000000000000000000000000000000000000000000 tk bn cut es) = true → ma_Vd 0 τ u tv j C := fun hm hu => ab_unit_ok wk_cmp_ok htv hU (km_pmK hut) wk_ms_ok ih (km_R hut) (List.all_eq_true.mp hu _ hm) hnf
  match j, hj with
  | 0, _ =>
    have hC : C ∈ ([] : List ab_C) := hC
    cases hC
  | 1, _ =>
    have hC : C ∈ ([] : List ab_C) := hC
    cases hC
  | 2, _ =>
    have hC : C ∈ ([] : List ab_C) := hC
    cases hC
  | 3, _ =>
    have hC : C ∈ ([] : List ab_C) := hC
    cases hC
  | 4, _ =>
    have hC : C ∈ ([] : List ab_C) := hC
    cases hC
  | 5, _ =>
    have hC : C ∈ ([] : List ab_C) := hC
    cases hC
  | 6, _ =>
    have hC : C ∈ ([] : List ab_C) := hC
    cases hC
  | 7, _ =>
    have hC : C ∈ ([] : List ab_C) := hC
    cases hC
  | 8, _ =>
    have hC : C ∈ ([] : List ab_C) := hC
    cases hC
  | 9, _ =>
    have hC : C ∈ ([] : List ab_C) := hC
    cases hC
  | 10, _ =>
    have hC : C ∈ ([] : List ab_C) := hC
    cases hC
  | 11, _ =>
    have hC : C ∈ ([] : List ab_C) := hC
    cases hC
  | 12, _ =>
    have hC : C ∈ ([] : List ab_C) := hC
    cases hC
  | 13, _ =>
    have hC : C ∈ ([] : List ab_C) := hC
    cases hC
  | 14, _ =>
    have hC : C ∈ ([] : List ab_C) := hC
    cases hC
  | 15, _ =>
    have hC : C ∈ ([] : List ab_C) := hC
    cases hC
  | 16, _ =>
    have hC : C ∈ ([] : List ab_C) := hC
    cases hC
  | 17, _ =>
    have hC : C ∈ ([] : List ab_C) := hC
    cases hC
  | 18, _ =>
    have hC : C ∈ ([] : List ab_C) := hC
    cases hC
  | 19, _ =>
    have hC : C ∈ ([] : List ab_C) := hC
    cases hC
  | 20, _ =>
    have hC : C ∈ ([] : List ab_C) := hC
    cases hC
  | 21, _ =>
    have hC : C ∈ ([] : List ab_C) := hC
    cases hC
  | 22, _ =>
    have hC : C ∈ ([] : List ab_C) := hC
    cases hC
  | 23, _ =>
    have hC : C ∈ ([] : List ab_C) := hC
    cases hC
  | 24, _ =>
    have hC : C ∈ ([] : List ab_C) := hC
    cases hC
  | 25, _ =>
    have hC : C ∈ ([] : List ab_C) := hC
    cases hC
  | 26, _ =>
    have hC : C ∈ ([] : List ab_C) := hC
    cases hC
  | 27, _ =>
    have hC : C ∈ ([] : List ab_C) := hC
    cases hC
  | 28, _ =>
    have hC : C ∈ ([] : List ab_C) := hC
    cases hC
  | 29, _ =>
    have hC : C ∈ ([] : List ab_C) := hC
    cases hC
  | 30, _ =>
    have hC : C ∈ ([] : List ab_C) := hC
    cases hC
  | 31, _ =>
    have hC : C ∈ ([] : List ab_C) := hC
    cases hC
  | 32, _ =>
    have hC : C ∈ ([] : List ab_C) := hC
    cases hC
  | 33, _ =>
    have hC : C ∈ ([] : List ab_C) := hC
    cases hC
  | 34, _ =>
    have hC : C ∈ ([] : List ab_C) := hC
    cases hC
  | 35, _ =>
    have hC : C ∈ ([] : List ab_C) := hC
    cases hC
  | 36, _ =>
    have hC : C ∈ ([] : List ab_C) := hC
    cases hC
  | 37, _ =>
    have hC : C ∈ ([] : List ab_C) := hC
    cases hC
  | 38, _ =>
    have hC : C ∈ ([] : List ab_C) := hC
    cases hC
  | 39, _ =>
    have hC : C ∈ ([] : List ab_C) := hC
    cases hC
  | 40, _ =>
    have hC : C ∈ ([] : List ab_C) := hC
    cases hC
  | 41, _ =>
    have hC : C ∈ ([] : List ab_C) := hC
    cases hC
  | 42, _ =>
    have hC : C ∈ ([] : List ab_C) := hC
    cases hC
  | 43, _ =>
    have hC : C ∈ ([] : List ab_C) := hC
    cases hC
  | 44, _ =>
    have hC : C ∈ ([] : List ab_C) := hC
    cases hC
  | 45, _ =>
    have hC : C ∈ ([] : List ab_C) := hC
    cases hC
  | 46, _ =>
    have hC : C ∈ ([] : List ab_C) := hC
    cases hC
  | 47, _ =>
    have hC : C ∈ ([] : List ab_C) := hC
    cases hC
  | 48, _ =>
    have hC : C ∈ ([] : List ab_C) := hC
    cases hC
  | 49, _ =>
    have hC : C ∈ ([] : List ab_C) := hC
    cases hC
  | 50, _ =>
    have hC : C ∈ ([] : List ab_C) := hC
    cases hC
  | 51, _ =>
    have hC : C ∈ ([] : List ab_C) := hC
    cases hC
  | 52, _ =>
    have hC : C ∈ ([] : List ab_C) := hC
    cases hC
  | 53, _ =>
    have hC : C ∈ ([] : List ab_C) := hC
    cases hC
  | 54, _ =>
    have hC : C ∈ ([] : List ab_C) := hC
    cases hC
  | 55, _ =>
    have hC : C ∈ ([] : List ab_C) := hC
    cases hC
  | 56, _ =>
    have hC : C ∈ ([] : List ab_C) := hC
    cases hC
  | 57, _ =>
    have hC : C ∈ ([] : List ab_C) := hC
    cases hC
  | 58, _ =>
    have hC : C ∈ ([] : List ab_C) := hC
    cases hC
  | 59, _ =>
    have hC : C ∈ ([] : List ab_C) := hC
    cases hC
  | 60, _ =>
    have hC : C ∈ ([] : List ab_C) := hC
    cases hC
  | 61, _ =>
    have hC : C ∈ ([] : List ab_C) := hC
    cases hC
  | 62, _ =>
    have hC : C ∈ ([] : List ab_C) := hC
    cases hC
  | 63, _ =>
    have hC : C ∈ ([] : List ab_C) := hC
    cases hC
  | 64, _ =>
    have hC : C ∈ ([] : List ab_C) := hC
    cases hC
  | 65, _ =>
    have hC : C ∈ ([] : List ab_C) := hC
    cases hC
  | 66, _ =>
    have hC : C ∈ ([] : List ab_C) := hC
    cases hC
  | 67, _ =>
    have hC : C ∈ ([] : List ab_C) := hC
    cases hC
  | 68, _ =>
    have hC : C ∈ ([] : List ab_C) := hC
    cases hC
  | 69, _ =>
    have hC : C ∈ ([] : List ab_C) := hC
    cases hC
  | 70, _ =>
    have hC : C ∈ ([] : List ab_C) := hC
    cases hC
  | 71, _ =>
    have hC : C ∈ ([] : List ab_C) := hC
    cases hC
  | 72, _ =>
    have hC : C ∈ ([] : List ab_C) := hC
    cases hC
  | 73, _ =>
    have hC : C ∈ ([] : List ab_C) := hC
    cases hC
  | 74, _ =>
    have hC : C ∈ ([] : List ab_C) := hC
    cases hC
  | 75, _ =>
    have hC : C ∈ ([] : List ab_C) := hC
    cases hC
  | 76, _ =>
    have hC : C ∈ ([] : List ab_C) := hC
    cases hC
  | 77, _ =>
    have hC : C ∈ ([] : List ab_C) := hC
    cases hC
  | 78, _ =>
    have hC : C ∈ ([] : List ab_C) := hC
    cases hC
  | 79, _ =>
    have hC : C ∈ ([] : List ab_C) := hC
    cases hC
  | 80, _ =>
    have hC : C ∈ ([] : List ab_C) := hC
    cases hC
  | 81, _ =>
    have hC : C ∈ ([] : List ab_C) := hC
    cases hC
  | 82, _ =>
    have hC : C ∈ ([wac_126] : List ab_C) := hC
    rcases List.mem_cons.mp hC with rfl | hC
    · exact un (by decide) wau_126_ok
    cases hC
  | 83, _ =>
    have hC : C ∈ ([wac_120] : List ab_C) := hC
    rcases List.mem_cons.mp hC with rfl | hC
    · exact un (by decide) wau_120_ok
    cases hC
  | 84, _ =>
    have hC : C ∈ ([] : List ab_C) := hC
    cases hC
  | 85, _ =>
    have hC : C ∈ ([] : List ab_C) := hC
    cases hC
  | 86, _ =>
    have hC : C ∈ ([wac_151] : List ab_C) := hC
    rcases List.mem_cons.mp hC with rfl | hC
    · exact ma_of (md_copy_ok hU hut)
    cases hC
  | 87, _ =>
    have hC : C ∈ ([wac_133] : List ab_C) := hC
    rcases List.mem_cons.mp hC with rfl | hC
    · exact un (by decide) wau_133_ok
    cases hC
  | 88, _ =>
    have hC : C ∈ ([wac_138] : List ab_C) := hC
    rcases List.mem_cons.mp hC with rfl | hC
    · exact un (by decide) wau_138_ok
    cases hC
  | 89, _ =>
    have hC : C ∈ ([wac_58, wac_66, wac_74, wac_82, wac_92, wac_106] : List ab_C) := hC
    rcases List.mem_cons.mp hC with rfl | hC
    · exact un (by decide) wau_58_ok
    rcases List.mem_cons.mp hC with rfl | hC
    · exact un (by decide) wau_66_ok
    rcases List.mem_cons.mp hC with rfl | hC
    · exact un (by decide) wau_74_ok
    rcases List.mem_cons.mp hC with rfl | hC
    · exact un (by decide) wau_82_ok
    rcases List.mem_cons.mp hC with rfl | hC
    · exact un (by decide) wau_92_ok
    rcases List.mem_cons.mp hC with rfl | hC
    · exact un (by decide) wau_106_ok
    cases hC
  | 90, _ =>
    have hC : C ∈ ([wac_136] : List ab_C) := hC
    rcases List.mem_cons.mp hC with rfl | hC
    · exact un (by decide) wau_136_ok
    cases hC
  | 91, _ =>
    have hC : C ∈ ([wac_145] : List ab_C) := hC
    rcases List.mem_cons.mp hC with rfl | hC
    · exact un (by decide) wau_145_ok
    cases hC
  | 92, _ =>
    have hC : C ∈ ([] : List ab_C) := hC
    cases hC
  | 93, _ =>
    have hC : C ∈ ([] : List ab_C) := hC
    cases hC
  | 94, _ =>
    have hC : C ∈ ([] : List ab_C) := hC
    cases hC
  | 95, _ =>
    have hC : C ∈ ([] : List ab_C) := hC
    cases hC
  | 96, _ =>
    have hC : C ∈ ([] : List ab_C) := hC
    cases hC
  | 97, _ =>
    have hC : C ∈ ([wac_144] : List ab_C) := hC
    rcases List.mem_cons.mp hC with rfl | hC
    · exact un (by decide) wau_144_ok
    cases hC
  | 98, _ =>
    have hC : C ∈ ([wac_56, wac_57, wac_64, wac_65, wac_72, wac_73, wac_80, wac_81, wac_88, wac_89, wac_90, wac_91, wac_102, wac_103, wac_104, wac_105] : List ab_C) := hC
    rcases List.mem_cons.mp hC with rfl | hC
    · exact un (by decide) wau_56_ok
    rcases List.mem_cons.mp hC with rfl | hC
    · exact un (by decide) wau_57_ok
    rcases List.mem_cons.mp hC with rfl | hC
    · exact un (by decide) wau_64_ok
    rcases List.mem_cons.mp hC with rfl | hC
    · exact un (by decide) wau_65_ok
    rcases List.mem_cons.mp hC with rfl | hC
    · exact un (by decide) wau_72_ok
    rcases List.mem_cons.mp hC with rfl | hC
    · exact un (by decide) wau_73_ok
    rcases List.mem_cons.mp hC with rfl | hC
    · exact un (by decide) wau_80_ok
    rcases List.mem_cons.mp hC with rfl | hC
    · exact un (by decide) wau_81_ok
    rcases List.mem_cons.mp hC with rfl | hC
    · exact un (by decide) wau_88_ok
    rcases List.mem_cons.mp hC with rfl | hC
    · exact un (by decide) wau_89_ok
    rcases List.mem_cons.mp hC with rfl | hC
    · exact un (by decide) wau_90_ok
    rcases List.mem_cons.mp hC with rfl | hC
    · exact un (by decide) wau_91_ok
    rcases List.mem_cons.mp hC with rfl | hC
    · exact un (by decide) wau_102_ok
    rcases List.mem_cons.mp hC with rfl | hC
    · exact un (by decide) wau_103_ok
    rcases List.mem_cons.mp hC with rfl | hC
    · exact un (by decide) wau_104_ok
    rcases List.mem_cons.mp hC with rfl | hC
    · exact un (by decide) wau_105_ok
    cases hC
  | 99, _ =>
    have hC : C ∈ ([wac_139] : List ab_C) := hC
    rcases List.mem_cons.mp hC with rfl | hC
    · exact un (by decide) wau_139_ok
    cases hC
  | 100, _ =>
    have hC : C ∈ ([wac_61, wac_62, wac_63, wac_69, wac_70, wac_71, wac_77, wac_78, wac_79, wac_85, wac_86, wac_87, wac_97, wac_98, wac_99, wac_100, wac_101, wac_111, wac_112, wac_113, wac_114, wac_115, wac_127, wac_128, wac_129, wac_130, wac_131, wac_132] : List ab_C) := hC
    rcases List.mem_cons.mp hC with rfl | hC
    · exact un (by decide) wau_61_ok
    rcases List.mem_cons.mp hC with rfl | hC
    · exact un (by decide) wau_62_ok
    rcases List.mem_cons.mp hC with rfl | hC
    · exact un (by decide) wau_63_ok
    rcases List.mem_cons.mp hC with rfl | hC
    · exact un (by decide) wau_69_ok
    rcases List.mem_cons.mp hC with rfl | hC
    · exact un (by decide) wau_70_ok
    rcases List.mem_cons.mp hC with rfl | hC
    · exact un (by decide) wau_71_ok
    rcases List.mem_cons.mp hC with rfl | hC
    · exact un (by decide) wau_77_ok
    rcases List.mem_cons.mp hC with rfl | hC
    · exact un (by decide) wau_78_ok
    rcases List.mem_cons.mp hC with rfl | hC
    · exact un (by decide) wau_79_ok
    rcases List.mem_cons.mp hC with rfl | hC
    · exact un (by decide) wau_85_ok
    rcases List.mem_cons.mp hC with rfl | hC
    · exact un (by decide) wau_86_ok
    rcases List.mem_cons.mp hC with rfl | hC
    · exact un (by decide) wau_87_ok
    rcases List.mem_cons.mp hC with rfl | hC
    · exact un (by decide) wau_97_ok
    rcases List.mem_cons.mp hC with rfl | hC
    · exact un (by decide) wau_98_ok
    rcases List.mem_cons.mp hC with rfl | hC
    · exact un (by decide) wau_99_ok
    rcases List.mem_cons.mp hC with rfl | hC
    · exact un (by decide) wau_100_ok
    rcases List.mem_cons.mp hC with rfl | hC
    · exact un (by decide) wau_101_ok
    rcases List.mem_cons.mp hC with rfl | hC
    · exact un (by decide) wau_111_ok
    rcases List.mem_cons.mp hC with rfl | hC
    · exact un (by decide) wau_112_ok
    rcases List.mem_cons.mp hC with rfl | hC
    · exact un (by decide) wau_113_ok
    rcases List.mem_cons.mp hC with rfl | hC
    · exact un (by decide) wau_114_ok
    rcases List.mem_cons.mp hC with rfl | hC
    · exact un (by decide) wau_115_ok
    rcases List.mem_cons.mp hC with rfl | hC
    · exact un (by decide) wau_127_ok
    rcases List.mem_cons.mp hC with rfl | hC
    · exact un (by decide) wau_128_ok
    rcases List.mem_cons.mp hC with rfl | hC
    · exact un (by decide) wau_129_ok
    rcases List.mem_cons.mp hC with rfl | hC
    · exact un (by decide) wau_130_ok
    rcases List.mem_cons.mp hC with rfl | hC
    · exact un (by decide) wau_131_ok
    rcases List.mem_cons.mp hC with rfl | hC
    · exact un (by decide) wau_132_ok
    cases hC
  | 101, _ =>
    have hC : C ∈ ([] : List ab_C) := hC
    cases hC
  | 102, _ =>
    have hC : C ∈ ([wac_59, wac_60, wac_67, wac_68, wac_75, wac_76, wac_83, wac_84, wac_93, wac_94, wac_95, wac_96, wac_107, wac_108, wac_109, wac_110] : List ab_C) := hC
    rcases List.mem_cons.mp hC with rfl | hC
    · exact un (by decide) wau_59_ok
    rcases List.mem_cons.mp hC with rfl | hC
    · exact un (by decide) wau_60_ok
    rcases List.mem_cons.mp hC with rfl | hC
    · exact un (by decide) wau_67_ok
    rcases List.mem_cons.mp hC with rfl | hC
    · exact un (by decide) wau_68_ok
    rcases List.mem_cons.mp hC with rfl | hC
    · exact un (by decide) wau_75_ok
    rcases List.mem_cons.mp hC with rfl | hC
    · exact un (by decide) wau_76_ok
    rcases List.mem_cons.mp hC with rfl | hC
    · exact un (by decide) wau_83_ok
    rcases List.mem_cons.mp hC with rfl | hC
    · exact un (by decide) wau_84_ok
    rcases List.mem_cons.mp hC with rfl | hC
    · exact un (by decide) wau_93_ok
    rcases List.mem_cons.mp hC with rfl | hC
    · exact un (by decide) wau_94_ok
    rcases List.mem_cons.mp hC with rfl | hC
    · exact un (by decide) wau_95_ok
    rcases List.mem_cons.mp hC with rfl | hC
    · exact un (by decide) wau_96_ok
    rcases List.mem_cons.mp hC with rfl | hC
    · exact un (by decide) wau_107_ok
    rcases List.mem_cons.mp hC with rfl | hC
    · exact un (by decide) wau_108_ok
    rcases List.mem_cons.mp hC with rfl | hC
    · exact un (by decide) wau_109_ok
    rcases List.mem_cons.mp hC with rfl | hC
    · exact un (by decide) wau_110_ok
    cases hC
  | 103, _ =>
    have hC : C ∈ ([wac_144] : List ab_C) := hC
    rcases List.mem_cons.mp hC with rfl | hC
    · exact un (by decide) wau_146_ok
    cases hC
  | 104, _ =>
    have hC : C ∈ ([wac_117, wac_118] : List ab_C) := hC
    rcases List.mem_cons.mp hC with rfl | hC
    · exact un (by decide) wau_117_ok
    rcases List.mem_cons.mp hC with rfl | hC
    · exact un (by decide) wau_118_ok
    cases hC
  | 105, _ =>
    have hC : C ∈ ([] : List ab_C) := hC
    cases hC
  | 106, _ =>
    have hC : C ∈ ([wac_148] : List ab_C) := hC
    rcases List.mem_cons.mp hC with rfl | hC
    · exact un (by decide) wau_151_ok
    cases hC
  | 107, _ =>
    have hC : C ∈ ([wac_26, wac_27, wac_28, wac_29, wac_30, wac_31, wac_32, wac_33, wac_34, wac_35, wac_36, wac_37, wac_38, wac_39, wac_40, wac_41, wac_42, wac_43, wac_44, wac_45, wac_46, wac_47, wac_48, wac_49, wac_50, wac_51, wac_52, wac_53, wac_54, wac_55] : List ab_C) := hC
    rcases List.mem_cons.mp hC with rfl | hC
    · exact un (by decide) wau_26_ok
    rcases List.mem_cons.mp hC with rfl | hC
    · exact un (by decide) wau_27_ok
    rcases List.mem_cons.mp hC with rfl | hC
    · exact un (by decide) wau_28_ok
    rcases List.mem_cons.mp hC with rfl | hC
    · exact un (by decide) wau_29_ok
    rcases List.mem_cons.mp hC with rfl | hC
    · exact un (by decide) wau_30_ok
    rcases List.mem_cons.mp hC with rfl | hC
    · exact un (by decide) wau_31_ok
    rcases List.mem_cons.mp hC with rfl | hC
    · exact un (by decide) wau_32_ok
    rcases List.mem_cons.mp hC with rfl | hC
    · exact un (by decide) wau_33_ok
    rcases List.mem_cons.mp hC with rfl | hC
    · exact un (by decide) wau_34_ok
    rcases List.mem_cons.mp hC with rfl | hC
    · exact un (by decide) wau_35_ok
    rcases List.mem_cons.mp hC with rfl | hC
    · exact un (by decide) wau_36_ok
    rcases List.mem_cons.mp hC with rfl | hC
    · exact un (by decide) wau_37_ok
    rcases List.mem_cons.mp hC with rfl | hC
    · exact un (by decide) wau_38_ok
    rcases List.mem_cons.mp hC with rfl | hC
    · exact un (by decide) wau_39_ok
    rcases List.mem_cons.mp hC with rfl | hC
    · exact un (by decide) wau_40_ok
    rcases List.mem_cons.mp hC with rfl | hC
    · exact un (by decide) wau_41_ok
    rcases List.mem_cons.mp hC with rfl | hC
    · exact un (by decide) wau_42_ok
    rcases List.mem_cons.mp hC with rfl | hC
    · exact un (by decide) wau_43_ok
    rcases List.mem_cons.mp hC with rfl | hC
    · exact un (by decide) wau_44_ok
    rcases List.mem_cons.mp hC with rfl | hC
    · exact un (by decide) wau_45_ok
    rcases List.mem_cons.mp hC with rfl | hC
    · exact un (by decide) wau_46_ok
    rcases List.mem_cons.mp hC with rfl | hC
    · exact un (by decide) wau_47_ok
    rcases List.mem_cons.mp hC with rfl | hC
    · exact un (by decide) wau_48_ok
    rcases List.mem_cons.mp hC with rfl | hC
    · exact un (by decide) wau_49_ok
    rcases List.mem_cons.mp hC with rfl | hC
    · exact un (by decide) wau_50_ok
    rcases List.mem_cons.mp hC with rfl | hC
    · exact un (by decide) wau_51_ok
    rcases List.mem_cons.mp hC with rfl | hC
    · exact un (by decide) wau_52_ok
    rcases List.mem_cons.mp hC with rfl | hC
    · exact un (by decide) wau_53_ok
    rcases List.mem_cons.mp hC with rfl | hC
    · exact un (by decide) wau_54_ok
    rcases List.mem_cons.mp hC with rfl | hC
    · exact un (by decide) wau_55_ok
    cases hC
  | 108, _ =>
    have hC : C ∈ ([wac_137] : List ab_C) := hC
    rcases List.mem_cons.mp hC with rfl | hC
    · exact un (by decide) wau_137_ok
    cases hC
  | 109, _ =>
    have hC : C ∈ ([] : List ab_C) := hC
    cases hC
  | 110, _ =>
    have hC : C ∈ ([] : List ab_C) := hC
    cases hC
  | 111, _ =>
    have hC : C ∈ ([wac_125] : List ab_C) := hC
    rcases List.mem_cons.mp hC with rfl | hC
    · exact un (by decide) wau_125_ok
    cases hC
  | 112, _ =>
    have hC : C ∈ ([wac_134] : List ab_C) := hC
    rcases List.mem_cons.mp hC with rfl | hC
    · exact un (by decide) wau_134_ok
    cases hC
  | 113, _ =>
    have hC : C ∈ ([wac_0, wac_1, wac_2, wac_3, wac_4, wac_5, wac_6, wac_7, wac_8, wac_9, wac_10, wac_11, wac_12, wac_13, wac_14, wac_15, wac_16, wac_17, wac_18, wac_19, wac_20, wac_21, wac_22, wac_23, wac_24, wac_25, wac_140, wac_141, wac_142] : List ab_C) := hC
    rcases List.mem_cons.mp hC with rfl | hC
    · exact un (by decide) wau_0_ok
    rcases List.mem_cons.mp hC with rfl | hC
    · exact un (by decide) wau_1_ok
    rcases List.mem_cons.mp hC with rfl | hC
    · exact un (by decide) wau_2_ok
    rcases List.mem_cons.mp hC with rfl | hC
    · exact un (by decide) wau_3_ok
    rcases List.mem_cons.mp hC with rfl | hC
    · exact un (by decide) wau_4_ok
    rcases List.mem_cons.mp hC with rfl | hC
    · exact un (by decide) wau_5_ok
    rcases List.mem_cons.mp hC with rfl | hC
    · exact un (by decide) wau_6_ok
    rcases List.mem_cons.mp hC with rfl | hC
    · exact un (by decide) wau_7_ok
    rcases List.mem_cons.mp hC with rfl | hC
    · exact un (by decide) wau_8_ok
    rcases List.mem_cons.mp hC with rfl | hC
    · exact un (by decide) wau_9_ok
    rcases List.mem_cons.mp hC with rfl | hC
    · exact un (by decide) wau_10_ok
    rcases List.mem_cons.mp hC with rfl | hC
    · exact un (by decide) wau_11_ok
    rcases List.mem_cons.mp hC with rfl | hC
    · exact un (by decide) wau_12_ok
    rcases List.mem_cons.mp hC with rfl | hC
    · exact un (by decide) wau_13_ok
    rcases List.mem_cons.mp hC with rfl | hC
    · exact un (by decide) wau_14_ok
    rcases List.mem_cons.mp hC with rfl | hC
    · exact un (by decide) wau_15_ok
    rcases List.mem_cons.mp hC with rfl | hC
    · exact un (by decide) wau_16_ok
    rcases List.mem_cons.mp hC with rfl | hC
    · exact un (by decide) wau_17_ok
    rcases List.mem_cons.mp hC with rfl | hC
    · exact un (by decide) wau_18_ok
    rcases List.mem_cons.mp hC with rfl | hC
    · exact un (by decide) wau_19_ok
    rcases List.mem_cons.mp hC with rfl | hC
    · exact un (by decide) wau_20_ok
    rcases List.mem_cons.mp hC with rfl | hC
    · exact un (by decide) wau_21_ok
    rcases List.mem_cons.mp hC with rfl | hC
    · exact un (by decide) wau_22_ok
    rcases List.mem_cons.mp hC with rfl | hC
    · exact un (by decide) wau_23_ok
    rcases List.mem_cons.mp hC with rfl | hC
    · exact un (by decide) wau_24_ok
    rcases List.mem_cons.mp hC with rfl | hC
    · exact un (by decide) wau_25_ok
    rcases List.mem_cons.mp hC with rfl | hC
    · exact un (by decide) wau_140_ok
    rcases List.mem_cons.mp hC with rfl | hC
    · exact un (by decide) wau_141_ok
    rcases List.mem_cons.mp hC with rfl | hC
    · exact un (by decide) wau_142_ok
    cases hC
  | 114, _ =>
    have hC : C ∈ ([] : List ab_C) := hC
    cases hC
  | 115, _ =>
    have hC : C ∈ ([wac_135] : List ab_C) := hC
    rcases List.mem_cons.mp hC with rfl | hC
    · exact un (by decide) wau_135_ok
    cases hC
  | 116, _ =>
    have hC : C ∈ ([wac_116] : List ab_C) := hC
    rcases List.mem_cons.mp hC with rfl | hC
    · exact un (by decide) wau_116_ok
    cases hC
  | 117, _ =>
    have hC : C ∈ ([wac_144] : List ab_C) := hC
    rcases List.mem_cons.mp hC with rfl | hC
    · exact un (by decide) wau_148_ok
    cases hC
  | 118, _ =>
    have hC : C ∈ ([wac_146] : List ab_C) := hC
    rcases List.mem_cons.mp hC with rfl | hC
    · exact un (by decide) wau_147_ok
    cases hC
  | 119, _ =>
    have hC : C ∈ ([] : List ab_C) := hC
    cases hC
  | 120, _ =>
    have hC : C ∈ ([] : List ab_C) := hC
    cases hC
  | 121, _ =>
    have hC : C ∈ ([wac_150] : List ab_C) := hC
    rcases List.mem_cons.mp hC with rfl | hC
    · exact un (by decide) wau_153_ok
    cases hC
  | 122, _ =>
    have hC : C ∈ ([] : List ab_C) := hC
    cases hC
  | 123, _ =>
    have hC : C ∈ ([] : List ab_C) := hC
    cases hC
  | 124, _ =>
    have hC : C ∈ ([wac_147] : List ab_C) := hC
    rcases List.mem_cons.mp hC with rfl | hC
    · exact un (by decide) wau_150_ok
    cases hC
  | 125, _ =>
    have hC : C ∈ ([wac_121, wac_122, wac_123, wac_124] : List ab_C) := hC
    rcases List.mem_cons.mp hC with rfl | hC
    · exact un (by decide) wau_121_ok
    rcases List.mem_cons.mp hC with rfl | hC
    · exact un (by decide) wau_122_ok
    rcases List.mem_cons.mp hC with rfl | hC
    · exact un (by decide) wau_123_ok
    rcases List.mem_cons.mp hC with rfl | hC
    · exact un (by decide) wau_124_ok
    cases hC
  | 126, _ =>
    have hC : C ∈ ([wac_149] : List ab_C) := hC
    rcases List.mem_cons.mp hC with rfl | hC
    · exact un (by decide) wau_152_ok
    cases hC
  | 127, _ =>
    have hC : C ∈ ([wac_144] : List ab_C) := hC
    rcases List.mem_cons.mp hC with rfl | hC
    · exact un (by decide) wau_149_ok
    cases hC
  | 128, _ =>
    have hC : C ∈ ([wac_119] : List ab_C) := hC
    rcases List.mem_cons.mp hC with rfl | hC
    · exact un (by decide) wau_119_ok
    cases hC
  | 129, _ =>
    have hC : C ∈ ([wac_143] : List ab_C) := hC
    rcases List.mem_cons.mp hC with rfl | hC
    · exact un (by decide) wau_143_ok
    cases hC
  | 130, _ =>
    have hC : C ∈ ([] : List ab_C) := hC
    cases hC
  | 131, _ =>
    have hC : C ∈ ([] : List ab_C) := hC
    cases hC
  | 132, _ =>
    have hC : C ∈ ([] : List ab_C) := hC
    cases hC
  | 133, _ =>
    have hC : C ∈ ([] : List ab_C) := hC
    cases hC
  | 134, _ =>
    have hC : C ∈ ([] : List ab_C) := hC
    cases hC
  | 135, _ =>
    have hC : C ∈ ([] : List ab_C) := hC
    cases hC
  | 136, _ =>
    have hC : C ∈ ([] : List ab_C) := hC
    cases hC
  | 137, _ =>
    have hC : C ∈ ([] : List ab_C) := hC
    cases hC
  | 138, _ =>
    have hC : C ∈ ([] : List ab_C) := hC
    cases hC
  | 139, _ =>
    have hC : C ∈ ([] : List ab_C) := hC
    cases hC
  | 140, _ =>
    have hC : C ∈ ([] : List ab_C) := hC
    cases hC
  | 141, _ =>
    have hC : C ∈ ([] : List ab_C) := hC
    cases hC
  | 142, _ =>
    have hC : C ∈ ([] : List ab_C) := hC
    cases hC
  | 143, _ =>
    have hC : C ∈ ([] : List ab_C) := hC
    cases hC
  | 144, _ =>
    have hC : C ∈ ([] : List ab_C) := hC
    cases hC
  | 145, _ =>
    have hC : C ∈ ([] : List ab_C) := hC
    cases hC
  | n + 146, hj => exact absurd hj (by omega)
