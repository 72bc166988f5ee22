/-! ===== what the tables say of the classes ===== -/
set_option maxRecDepth 100000
theorem am_lt0 {P : Nat → Prop} : ∀ k, k < 0 → P k := fun k h => absurd h (Nat.not_lt_zero k)
theorem am_ltS {P : Nat → Prop} {n : Nat} (h : ∀ k, k < n → P k) (hn : P n) : ∀ k, k < n + 1 → P k := fun k hk => by
  rcases Nat.lt_succ_iff_lt_or_eq.mp hk with g | g
  · exact h k g
  · rw [g]; exact hn
def am_CF (ci : Nat) (x : vw_C) : Prop := (∀ w ∈ u_ws x.1 x.2.1 x.2.2, w ∈ am_TS) ∧ (∀ j, j < x.2.2 → ∃ t, parseFieldDescriptor (x.2.1 j).2.2.1 = some t) ∧ (∀ j ty, am_fty ci j = some ty → parseFieldDescriptor (x.2.1 j).2.2.1 = some ty) ∧ (∀ a, a < x.2.2 → ∀ b, b < x.2.2 → a ≠ b → (x.2.1 a).2.1 ≠ (x.2.1 b).2.1) ∧ ∀ vs, am_dfl ci = some vs → vs.length = x.2.2 ∧ ∀ j, j < x.2.2 → ∃ t, parseFieldDescriptor (x.2.1 j).2.2.1 = some t ∧ vs[j]? = some (defaultValue t)
theorem am_CF_of {ci N : Nat} {C : String} {T : u_T} {f : Nat → FieldType} {vs0 : List Value} (h1 : ∀ k, k < N → u_lay C T k ∈ am_TS) (h2 : ∀ k, k < N → parseFieldDescriptor (T k).2.2.1 = some (f k)) (h3 : ∀ j, am_fty ci j = bif Nat.blt j N then some (f j) else none) (h4 : ∀ a, a < N → ∀ b, b < N → a ≠ b → (T a).2.1 ≠ (T b).2.1) (h5 : am_dfl ci = some vs0) (h6 : vs0.length = N) (h7 : ∀ k, k < N → vs0[k]? = some (defaultValue (f k))) : am_CF ci (C, T, N) := by
  refine ⟨fun w hw => ?_, fun j hj => ⟨_, h2 j hj⟩, fun j ty hj => ?_, h4, fun vs hvs => ?_⟩
  · obtain ⟨k, hk, rfl⟩ := List.mem_map.mp hw
    exact h1 k (List.mem_range.mp hk)
  · rw [h3] at hj
    cases hb : Nat.blt j N with
    | true =>
      rw [hb] at hj
      cases hj
      exact h2 j (Nat.le_of_ble_eq_true hb)
    | false =>
      rw [hb] at hj
      cases hj
  · rw [h5] at hvs
    cases hvs
    exact ⟨h6, fun j hj => ⟨_, h2 j hj, h7 j hj⟩⟩
theorem am_CF_ex {ci : Nat} {C : String} {T : u_T} (h3 : ∀ j, am_fty ci j = none) (h5 : am_dfl ci = none) : am_CF ci (C, T, 0) :=
  ⟨(fun w hw => by simp [u_ws] at hw), (fun j hj => absurd hj (Nat.not_lt_zero j)), (fun j ty hj => by rw [h3] at hj; cases hj), (fun a ha => absurd ha (Nat.not_lt_zero a)), (fun vs hvs => by rw [h5] at hvs; cases hvs)⟩
theorem am_cw0 : ∀ k, k < 8 → u_lay "OverlayNet" am_T0 k ∈ am_TS := am_ltS (am_ltS (am_ltS (am_ltS (am_ltS (am_ltS (am_ltS (am_ltS (am_lt0) (am_w_242)) (am_w_244)) (am_w_246)) (am_w_248)) (am_w_250)) (am_w_252)) (am_w_254)) (am_w_256)
theorem am_cp0 : ∀ k, k < 8 → parseFieldDescriptor (am_T0 k).2.2.1 = some (am_f0 k) := by decide +kernel
theorem am_cn0 : ∀ a, a < 8 → ∀ b, b < 8 → a ≠ b → (am_T0 a).2.1 ≠ (am_T0 b).2.1 := by decide +kernel
theorem am_cd0 : ∀ k, k < 8 → ([.null, .null, .null, .null, .null, .int 0, .int 0, .int 0] : List Value)[k]? = some (defaultValue (am_f0 k)) := am_ltS (am_ltS (am_ltS (am_ltS (am_ltS (am_ltS (am_ltS (am_ltS (am_lt0) (rfl)) (rfl)) (rfl)) (rfl)) (rfl)) (rfl)) (rfl)) (rfl)
theorem am_cf0 : am_CF 0 ("OverlayNet", am_T0, 8) := am_CF_of am_cw0 am_cp0 (fun _ => rfl) am_cn0 rfl rfl am_cd0
theorem am_cw1 : ∀ k, k < 3 → u_lay "OverlayNet$Directory" am_T1 k ∈ am_TS := am_ltS (am_ltS (am_ltS (am_lt0) (am_w_205)) (am_w_207)) (am_w_209)
theorem am_cp1 : ∀ k, k < 3 → parseFieldDescriptor (am_T1 k).2.2.1 = some (am_f1 k) := by decide +kernel
theorem am_cn1 : ∀ a, a < 3 → ∀ b, b < 3 → a ≠ b → (am_T1 a).2.1 ≠ (am_T1 b).2.1 := by decide +kernel
theorem am_cd1 : ∀ k, k < 3 → ([.null, .null, .int 0] : List Value)[k]? = some (defaultValue (am_f1 k)) := am_ltS (am_ltS (am_ltS (am_lt0) (rfl)) (rfl)) (rfl)
theorem am_cf1 : am_CF 1 ("OverlayNet$Directory", am_T1, 3) := am_CF_of am_cw1 am_cp1 (fun _ => rfl) am_cn1 rfl rfl am_cd1
theorem am_cw2 : ∀ k, k < 7 → u_lay "OverlayNet$Fabric" am_T2 k ∈ am_TS := am_ltS (am_ltS (am_ltS (am_ltS (am_ltS (am_ltS (am_ltS (am_lt0) (am_w_157)) (am_w_159)) (am_w_161)) (am_w_163)) (am_w_165)) (am_w_167)) (am_w_169)
theorem am_cp2 : ∀ k, k < 7 → parseFieldDescriptor (am_T2 k).2.2.1 = some (am_f2 k) := by decide +kernel
theorem am_cn2 : ∀ a, a < 7 → ∀ b, b < 7 → a ≠ b → (am_T2 a).2.1 ≠ (am_T2 b).2.1 := by decide +kernel
theorem am_cd2 : ∀ k, k < 7 → ([.null, .null, .null, .null, .int 0, .int 0, .int 0] : List Value)[k]? = some (defaultValue (am_f2 k)) := am_ltS (am_ltS (am_ltS (am_ltS (am_ltS (am_ltS (am_ltS (am_lt0) (rfl)) (rfl)) (rfl)) (rfl)) (rfl)) (rfl)) (rfl)
theorem am_cf2 : am_CF 2 ("OverlayNet$Fabric", am_T2, 7) := am_CF_of am_cw2 am_cp2 (fun _ => rfl) am_cn2 rfl rfl am_cd2
theorem am_cw3 : ∀ k, k < 5 → u_lay "OverlayNet$Frame" am_T3 k ∈ am_TS := am_ltS (am_ltS (am_ltS (am_ltS (am_ltS (am_lt0) (am_w_92)) (am_w_94)) (am_w_96)) (am_w_98)) (am_w_100)
theorem am_cp3 : ∀ k, k < 5 → parseFieldDescriptor (am_T3 k).2.2.1 = some (am_f3 k) := by decide +kernel
theorem am_cn3 : ∀ a, a < 5 → ∀ b, b < 5 → a ≠ b → (am_T3 a).2.1 ≠ (am_T3 b).2.1 := by decide +kernel
theorem am_cd3 : ∀ k, k < 5 → ([.int 0, .int 0, .int 0, .int 0, .int 0] : List Value)[k]? = some (defaultValue (am_f3 k)) := am_ltS (am_ltS (am_ltS (am_ltS (am_ltS (am_lt0) (rfl)) (rfl)) (rfl)) (rfl)) (rfl)
theorem am_cf3 : am_CF 3 ("OverlayNet$Frame", am_T3, 5) := am_CF_of am_cw3 am_cp3 (fun _ => rfl) am_cn3 rfl rfl am_cd3
theorem am_cw4 : ∀ k, k < 3 → u_lay "OverlayNet$FrameQueue" am_T4 k ∈ am_TS := am_ltS (am_ltS (am_ltS (am_lt0) (am_w_225)) (am_w_227)) (am_w_229)
theorem am_cp4 : ∀ k, k < 3 → parseFieldDescriptor (am_T4 k).2.2.1 = some (am_f4 k) := by decide +kernel
theorem am_cn4 : ∀ a, a < 3 → ∀ b, b < 3 → a ≠ b → (am_T4 a).2.1 ≠ (am_T4 b).2.1 := by decide +kernel
theorem am_cd4 : ∀ k, k < 3 → ([.null, .int 0, .int 0] : List Value)[k]? = some (defaultValue (am_f4 k)) := am_ltS (am_ltS (am_ltS (am_lt0) (rfl)) (rfl)) (rfl)
theorem am_cf4 : am_CF 4 ("OverlayNet$FrameQueue", am_T4, 3) := am_CF_of am_cw4 am_cp4 (fun _ => rfl) am_cn4 rfl rfl am_cd4
theorem am_cw5 : ∀ k, k < 13 → u_lay "OverlayNet$Machine" am_T5 k ∈ am_TS := am_ltS (am_ltS (am_ltS (am_ltS (am_ltS (am_ltS (am_ltS (am_ltS (am_ltS (am_ltS (am_ltS (am_ltS (am_ltS (am_lt0) (am_w_412)) (am_w_414)) (am_w_416)) (am_w_418)) (am_w_420)) (am_w_422)) (am_w_424)) (am_w_426)) (am_w_428)) (am_w_430)) (am_w_432)) (am_w_434)) (am_w_436)
theorem am_cp5 : ∀ k, k < 13 → parseFieldDescriptor (am_T5 k).2.2.1 = some (am_f5 k) := by decide +kernel
theorem am_cn5 : ∀ a, a < 13 → ∀ b, b < 13 → a ≠ b → (am_T5 a).2.1 ≠ (am_T5 b).2.1 := by decide +kernel
theorem am_cd5 : ∀ k, k < 13 → ([.int 0, .int 0, .int 0, .int 0, .int 0, .null, .null, .int 0, .null, .null, .null, .null, .int 0] : List Value)[k]? = some (defaultValue (am_f5 k)) := am_ltS (am_ltS (am_ltS (am_ltS (am_ltS (am_ltS (am_ltS (am_ltS (am_ltS (am_ltS (am_ltS (am_ltS (am_ltS (am_lt0) (rfl)) (rfl)) (rfl)) (rfl)) (rfl)) (rfl)) (rfl)) (rfl)) (rfl)) (rfl)) (rfl)) (rfl)) (rfl)
theorem am_cf5 : am_CF 5 ("OverlayNet$Machine", am_T5, 13) := am_CF_of am_cw5 am_cp5 (fun _ => rfl) am_cn5 rfl rfl am_cd5
theorem am_cw6 : ∀ k, k < 9 → u_lay "OverlayNet$Packet" am_T6 k ∈ am_TS := am_ltS (am_ltS (am_ltS (am_ltS (am_ltS (am_ltS (am_ltS (am_ltS (am_ltS (am_lt0) (am_w_125)) (am_w_127)) (am_w_129)) (am_w_131)) (am_w_133)) (am_w_135)) (am_w_137)) (am_w_139)) (am_w_141)
theorem am_cp6 : ∀ k, k < 9 → parseFieldDescriptor (am_T6 k).2.2.1 = some (am_f6 k) := by decide +kernel
theorem am_cn6 : ∀ a, a < 9 → ∀ b, b < 9 → a ≠ b → (am_T6 a).2.1 ≠ (am_T6 b).2.1 := by decide +kernel
theorem am_cd6 : ∀ k, k < 9 → ([.null, .int 0, .int 0, .int 0, .int 0, .int 0, .int 0, .int 0, .int 0] : List Value)[k]? = some (defaultValue (am_f6 k)) := am_ltS (am_ltS (am_ltS (am_ltS (am_ltS (am_ltS (am_ltS (am_ltS (am_ltS (am_lt0) (rfl)) (rfl)) (rfl)) (rfl)) (rfl)) (rfl)) (rfl)) (rfl)) (rfl)
theorem am_cf6 : am_CF 6 ("OverlayNet$Packet", am_T6, 9) := am_CF_of am_cw6 am_cp6 (fun _ => rfl) am_cn6 rfl rfl am_cd6
theorem am_cw7 : ∀ k, k < 4 → u_lay "OverlayNet$Routes" am_T7 k ∈ am_TS := am_ltS (am_ltS (am_ltS (am_ltS (am_lt0) (am_w_51)) (am_w_53)) (am_w_55)) (am_w_57)
theorem am_cp7 : ∀ k, k < 4 → parseFieldDescriptor (am_T7 k).2.2.1 = some (am_f7 k) := by decide +kernel
theorem am_cn7 : ∀ a, a < 4 → ∀ b, b < 4 → a ≠ b → (am_T7 a).2.1 ≠ (am_T7 b).2.1 := by decide +kernel
theorem am_cd7 : ∀ k, k < 4 → ([.null, .null, .null, .null] : List Value)[k]? = some (defaultValue (am_f7 k)) := am_ltS (am_ltS (am_ltS (am_ltS (am_lt0) (rfl)) (rfl)) (rfl)) (rfl)
theorem am_cf7 : am_CF 7 ("OverlayNet$Routes", am_T7, 4) := am_CF_of am_cw7 am_cp7 (fun _ => rfl) am_cn7 rfl rfl am_cd7
theorem am_cw8 : ∀ k, k < 3 → u_lay "OverlayNet$Tables" am_T8 k ∈ am_TS := am_ltS (am_ltS (am_ltS (am_lt0) (am_w_186)) (am_w_188)) (am_w_190)
theorem am_cp8 : ∀ k, k < 3 → parseFieldDescriptor (am_T8 k).2.2.1 = some (am_f8 k) := by decide +kernel
theorem am_cn8 : ∀ a, a < 3 → ∀ b, b < 3 → a ≠ b → (am_T8 a).2.1 ≠ (am_T8 b).2.1 := by decide +kernel
theorem am_cd8 : ∀ k, k < 3 → ([.null, .null, .null] : List Value)[k]? = some (defaultValue (am_f8 k)) := am_ltS (am_ltS (am_ltS (am_lt0) (rfl)) (rfl)) (rfl)
theorem am_cf8 : am_CF 8 ("OverlayNet$Tables", am_T8, 3) := am_CF_of am_cw8 am_cp8 (fun _ => rfl) am_cn8 rfl rfl am_cd8
theorem am_cw9 : ∀ k, k < 42 → u_lay "OverlayNetModel" am_T9 k ∈ am_TS := am_ltS (am_ltS (am_ltS (am_ltS (am_ltS (am_ltS (am_ltS (am_ltS (am_ltS (am_ltS (am_ltS (am_ltS (am_ltS (am_ltS (am_ltS (am_ltS (am_ltS (am_ltS (am_ltS (am_ltS (am_ltS (am_ltS (am_ltS (am_ltS (am_ltS (am_ltS (am_ltS (am_ltS (am_ltS (am_ltS (am_ltS (am_ltS (am_ltS (am_ltS (am_ltS (am_ltS (am_ltS (am_ltS (am_ltS (am_ltS (am_ltS (am_ltS (am_lt0) (am_w_840)) (am_w_842)) (am_w_844)) (am_w_846)) (am_w_848)) (am_w_850)) (am_w_852)) (am_w_854)) (am_w_856)) (am_w_858)) (am_w_860)) (am_w_862)) (am_w_864)) (am_w_866)) (am_w_868)) (am_w_870)) (am_w_872)) (am_w_874)) (am_w_876)) (am_w_878)) (am_w_880)) (am_w_882)) (am_w_884)) (am_w_886)) (am_w_888)) (am_w_890)) (am_w_892)) (am_w_894)) (am_w_896)) (am_w_898)) (am_w_900)) (am_w_902)) (am_w_904)) (am_w_906)) (am_w_908)) (am_w_910)) (am_w_912)) (am_w_914)) (am_w_916)) (am_w_918)) (am_w_920)) (am_w_922)
theorem am_cp9 : ∀ k, k < 42 → parseFieldDescriptor (am_T9 k).2.2.1 = some (am_f9 k) := by decide +kernel
theorem am_cn9 : ∀ a, a < 42 → ∀ b, b < 42 → a ≠ b → (am_T9 a).2.1 ≠ (am_T9 b).2.1 := by decide +kernel
theorem am_cd9 : ∀ k, k < 42 → ([.int 0, .int 0, .int 0, .int 0, .int 0, .null, .null, .int 0, .null, .null, .null, .null, .null, .null, .null, .null, .null, .null, .null, .int 0, .null, .null, .null, .null, .null, .int 0, .null, .null, .null, .null, .null, .null, .null, .null, .null, .null, .null, .null, .null, .null, .null, .int 0] : List Value)[k]? = some (defaultValue (am_f9 k)) := am_ltS (am_ltS (am_ltS (am_ltS (am_ltS (am_ltS (am_ltS (am_ltS (am_ltS (am_ltS (am_ltS (am_ltS (am_ltS (am_ltS (am_ltS (am_ltS (am_ltS (am_ltS (am_ltS (am_ltS (am_ltS (am_ltS (am_ltS (am_ltS (am_ltS (am_ltS (am_ltS (am_ltS (am_ltS (am_ltS (am_ltS (am_ltS (am_ltS (am_ltS (am_ltS (am_ltS (am_ltS (am_ltS (am_ltS (am_ltS (am_ltS (am_ltS (am_lt0) (rfl)) (rfl)) (rfl)) (rfl)) (rfl)) (rfl)) (rfl)) (rfl)) (rfl)) (rfl)) (rfl)) (rfl)) (rfl)) (rfl)) (rfl)) (rfl)) (rfl)) (rfl)) (rfl)) (rfl)) (rfl)) (rfl)) (rfl)) (rfl)) (rfl)) (rfl)) (rfl)) (rfl)) (rfl)) (rfl)) (rfl)) (rfl)) (rfl)) (rfl)) (rfl)) (rfl)) (rfl)) (rfl)) (rfl)) (rfl)) (rfl)) (rfl)
theorem am_cf9 : am_CF 9 ("OverlayNetModel", am_T9, 42) := am_CF_of am_cw9 am_cp9 (fun _ => rfl) am_cn9 rfl rfl am_cd9
theorem am_cf10 : am_CF 10 ("java/lang/IllegalArgumentException", am_TE, 0) := am_CF_ex (fun _ => rfl) rfl
theorem am_cf11 : am_CF 11 ("java/lang/IllegalStateException", am_TE, 0) := am_CF_ex (fun _ => rfl) rfl
theorem am_cf12 : am_CF 12 ("java/util/NoSuchElementException", am_TE, 0) := am_CF_ex (fun _ => rfl) rfl
theorem am_cls : ∀ (ci : Nat) (x : vw_C), am_cl[ci]? = some x → am_CF ci x := am_ix_cons am_cf0 (am_ix_cons am_cf1 (am_ix_cons am_cf2 (am_ix_cons am_cf3 (am_ix_cons am_cf4 (am_ix_cons am_cf5 (am_ix_cons am_cf6 (am_ix_cons am_cf7 (am_ix_cons am_cf8 (am_ix_cons am_cf9 (am_ix_cons am_cf10 (am_ix_cons am_cf11 (am_ix_cons am_cf12 (am_ix_nil)))))))))))))
