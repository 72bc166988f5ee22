/-! ===== run, with what every tick carries on ===== -/
set_option maxRecDepth 100000 in
theorem jc_run_loopX {τ u : Nat → Nat} {mc Tc Tm : Nat} (hmc : mc < 9) (hU : ab_U w_uq τ u) (hut : ∀ k, w_uq k = true → τ (u k) = k) {zn zb : Int32} {n : Nat} (hn : ab_b zn = 2147483648 + n) (n60 : n ≤ 60) (hT : 2147483648 ≤ Tc ∧ Tc + 60 ≤ 2147523647) {L : Nat} {X : Nat → am_H → Prop} (hX : ∀ i hx h', j_J τ u mc (Tc + i) Tm hx → (2147483648 ≤ Tc + i ∧ Tc + i ≤ 2147523647) → X i hx → Rd am_m33 (0, [some (.ref (u 1))] ++ List.replicate (am_L am_m33 - 1) none, [], hx, 0, 0) (.inl none, h', 0, 0) → j_J τ u mc (Tc + (i + 1)) Tm h' → X (i + 1) h') {Q : am_R → Prop} (hQ : ∀ (zi : Int32) hx, j_J τ u mc (Tc + n) Tm hx → (hx.length = L ∧ X n hx) → cl_Rn am_m29 (43, [some (.ref (u 1)), some (.int zn), some (.int zb), some (.int zi)], [], hx, 0, 0) Q) : ∀ (d i : Nat) (zi : Int32) (hx : am_H), i + d = n → ab_b zi = 2147483648 + i → j_J τ u mc (Tc + i) Tm hx → (hx.length = L ∧ X i hx) → cl_Rn am_m29 (28, [some (.ref (u 1)), some (.int zn), some (.int zb), some (.int zi)], [], hx, 0, 0) Q := by
  have hu : τ (u 1) = 1 := hut 1 (by decide +kernel)
  have hu0 : τ (u 1) ≠ 0 := by rw [hu]; decide
  have hkk : (w_kd (τ (u 1))).1 = 0 := by rw [hu]; rfl
  have c1 : ab_b (Int32.ofNat 1) = 2147483649 := by decide
  intro d
  induction d with
  | zero =>
    intro i zi hx hd hzi hJ hl
    refine rs_st (cmp := am_cmp) wk_q29 (show wk_at wk_m29 28 2 3 1 0 0 = true by decide +kernel) rfl ?_
    refine rs_st (cmp := am_cmp) wk_q29 (show wk_at wk_m29 29 2 1 1 0 0 = true by decide +kernel) rfl ?_
    refine rs_ict wk_q29 (show wk_at wk_m29 30 23 3 43 0 0 = true by decide +kernel) (by show decide (zn ≤ zi) = true; exact decide_eq_true (ab_b_lei.mpr (by omega))) ?_
    have : i = n := by omega
    subst this
    exact hQ zi hx hJ hl
  | succ d ih =>
    intro i zi hx hd hzi hJ hl
    have hinc := ab_b_add (x := zi) (y := Int32.ofNat 1) (by omega) (by omega)
    refine rs_st (cmp := am_cmp) wk_q29 (show wk_at wk_m29 28 2 3 1 0 0 = true by decide +kernel) rfl ?_
    refine rs_st (cmp := am_cmp) wk_q29 (show wk_at wk_m29 29 2 1 1 0 0 = true by decide +kernel) rfl ?_
    refine rs_icf wk_q29 (show wk_at wk_m29 30 23 3 43 0 0 = true by decide +kernel) (by show decide (zn ≤ zi) = false; exact decide_eq_false (fun hle => by have := ab_b_lei.mp hle; omega)) ?_
    refine rs_st (cmp := am_cmp) wk_q29 (show wk_at wk_m29 33 3 0 1 0 0 = true by decide +kernel) rfl ?_
    refine rs_iv (as := []) (r := []) wk_q29 (show wk_at wk_m29 34 40 33 0 2 0 = true by decide +kernel) hJ.1 hu0 hkk rfl rfl (Nat.le_of_ble_eq_true rfl) (mj := am_m33) rfl ⟨by decide, by decide, Nat.le_of_ble_eq_true rfl⟩ ?_
    refine Rn_mono (Rn_rd (j_tickc hmc (by omega) hU hut hJ)) (fun r hr => ?_)
    obtain ⟨⟨h', rfl, hJ', hl'⟩, hrd⟩ := hr
    refine ⟨none, h', 0, 0, rfl, ?_⟩
    refine rs_st (cmp := am_cmp) wk_q29 (show wk_at wk_m29 37 6 3 1 0 0 = true by decide +kernel) rfl ?_
    refine rs_st (cmp := am_cmp) wk_q29 (show wk_at wk_m29 40 21 28 0 0 0 = true by decide +kernel) rfl ?_
    exact ih (i + 1) (zi + Int32.ofNat 1) h' (by omega) (by omega) hJ' ⟨by have := hl.1; omega, hX i hx h' hJ (by omega) hl.2 hrd hJ'⟩
set_option maxRecDepth 100000 in
theorem jm_run_loopX {τ u : Nat → Nat} {mc Tc Tm : Nat} (hmc : mc < 9) (hU : ab_U w_uq τ u) (hut : ∀ k, w_uq k = true → τ (u k) = k) {zn zb : Int32} {n : Nat} (hn : ab_b zn = 2147483648 + n) (n60 : n ≤ 60) (hT : 2147483648 ≤ Tm ∧ Tm + 60 ≤ 2147523647) {L : Nat} {X : Nat → am_H → Prop} (hX : ∀ i hx h', j_J τ u mc Tc (Tm + i) hx → (2147483648 ≤ Tm + i ∧ Tm + i ≤ 2147523647) → X i hx → Rd am_m126 (0, [some (.ref (u 40))] ++ List.replicate (am_L am_m126 - 1) none, [], hx, 0, 0) (.inl none, h', 0, 0) → j_J τ u mc Tc (Tm + (i + 1)) h' → X (i + 1) h') {Q : am_R → Prop} (hQ : ∀ (zi : Int32) hx, j_J τ u mc Tc (Tm + n) hx → (hx.length = L ∧ X n hx) → cl_Rn am_m119 (48, [some (.ref (u 40)), some (.int zn), some (.int zb), some (.int zi)], [], hx, 0, 0) Q) : ∀ (d i : Nat) (zi : Int32) (hx : am_H), i + d = n → ab_b zi = 2147483648 + i → j_J τ u mc Tc (Tm + i) hx → (hx.length = L ∧ X i hx) → cl_Rn am_m119 (33, [some (.ref (u 40)), some (.int zn), some (.int zb), some (.int zi)], [], hx, 0, 0) Q := by
  have hu : τ (u 40) = 40 := hut 40 (by decide +kernel)
  have hu0 : τ (u 40) ≠ 0 := by rw [hu]; decide
  have hkk : (w_kd (τ (u 40))).1 = 9 := by rw [hu]; rfl
  have c1 : ab_b (Int32.ofNat 1) = 2147483649 := by decide
  intro d
  induction d with
  | zero =>
    intro i zi hx hd hzi hJ hl
    refine rs_st (cmp := am_cmp) wk_q119 (show wk_at wk_m119 33 2 3 1 0 0 = true by decide +kernel) rfl ?_
    refine rs_st (cmp := am_cmp) wk_q119 (show wk_at wk_m119 34 2 1 1 0 0 = true by decide +kernel) rfl ?_
    refine rs_ict wk_q119 (show wk_at wk_m119 35 23 3 48 0 0 = true by decide +kernel) (by show decide (zn ≤ zi) = true; exact decide_eq_true (ab_b_lei.mpr (by omega))) ?_
    have : i = n := by omega
    subst this
    exact hQ zi hx hJ hl
  | succ d ih =>
    intro i zi hx hd hzi hJ hl
    have hinc := ab_b_add (x := zi) (y := Int32.ofNat 1) (by omega) (by omega)
    refine rs_st (cmp := am_cmp) wk_q119 (show wk_at wk_m119 33 2 3 1 0 0 = true by decide +kernel) rfl ?_
    refine rs_st (cmp := am_cmp) wk_q119 (show wk_at wk_m119 34 2 1 1 0 0 = true by decide +kernel) rfl ?_
    refine rs_icf wk_q119 (show wk_at wk_m119 35 23 3 48 0 0 = true by decide +kernel) (by show decide (zn ≤ zi) = false; exact decide_eq_false (fun hle => by have := ab_b_lei.mp hle; omega)) ?_
    refine rs_st (cmp := am_cmp) wk_q119 (show wk_at wk_m119 38 3 0 1 0 0 = true by decide +kernel) rfl ?_
    refine rs_iv (as := []) (r := []) wk_q119 (show wk_at wk_m119 39 40 126 0 2 9 = true by decide +kernel) hJ.1 hu0 hkk rfl rfl (Nat.le_of_ble_eq_true rfl) (mj := am_m126) rfl ⟨by decide, by decide, Nat.le_of_ble_eq_true rfl⟩ ?_
    refine Rn_mono (Rn_rd (j_tickm hmc (by omega) hU hut hJ)) (fun r hr => ?_)
    obtain ⟨⟨h', rfl, hJ', hl'⟩, hrd⟩ := hr
    refine ⟨none, h', 0, 0, rfl, ?_⟩
    refine rs_st (cmp := am_cmp) wk_q119 (show wk_at wk_m119 42 6 3 1 0 0 = true by decide +kernel) rfl ?_
    refine rs_st (cmp := am_cmp) wk_q119 (show wk_at wk_m119 45 21 33 0 0 0 = true by decide +kernel) rfl ?_
    exact ih (i + 1) (zi + Int32.ofNat 1) h' (by omega) (by omega) hJ' ⟨by have := hl.1; omega, hX i hx h' hJ (by omega) hl.2 hrd hJ'⟩
/-- the class's run -/
def jc_rqX (X : Nat → am_H → Prop) (τ u : Nat → Nat) (mc Tc Tm : Nat) (zn : Int32) (h : am_H) (r : am_R) : Prop := (∃ z h', r = (.inl (some (.int z)), h', 0, 0) ∧ j_J τ u mc (Tc + j_n zn) Tm h' ∧ (h'.length = h.length ∧ X (j_n zn) h')) ∨ (r = (.inr h.length, h ++ [(10, [])], 1, 6) ∧ j_n zn = 0)
set_option maxRecDepth 100000 in
theorem jc_runX {τ u : Nat → Nat} {mc Tc Tm : Nat} (hmc : mc < 9) (hU : ab_U w_uq τ u) (hut : ∀ k, w_uq k = true → τ (u k) = k) (hT : 2147483648 ≤ Tc ∧ Tc + 60 ≤ 2147523647) {h : am_H} (hJ : j_J τ u mc Tc Tm h) {X : Nat → am_H → Prop} (hX : ∀ i hx h', j_J τ u mc (Tc + i) Tm hx → (2147483648 ≤ Tc + i ∧ Tc + i ≤ 2147523647) → X i hx → Rd am_m33 (0, [some (.ref (u 1))] ++ List.replicate (am_L am_m33 - 1) none, [], hx, 0, 0) (.inl none, h', 0, 0) → j_J τ u mc (Tc + (i + 1)) Tm h' → X (i + 1) h') (hX0 : X 0 h) (zn : Int32) : cl_Rn am_m29 (0, [some (.ref (u 1)), some (.int zn), none, none], [], h, 0, 0) (jc_rqX X τ u mc Tc Tm zn h) := by
  have hu : τ (u 1) = 1 := hut 1 (by decide +kernel)
  have hu0 : τ (u 1) ≠ 0 := by rw [hu]; decide
  have hkk : (w_kd (τ (u 1))).1 = 0 := by rw [hu]; rfl
  have c0 : ab_b (Int32.ofNat (1 / 8)) = 2147483648 := by decide
  have c1 : ab_b (Int32.ofNat (9 / 8)) = 2147483649 := by decide
  have c60 : ab_b (Int32.ofNat (481 / 8)) = 2147483708 := by decide
  have thr : ab_b zn < 2147483649 ∨ 2147483708 < ab_b zn → cl_Rn am_m29 (11, [some (.ref (u 1)), some (.int zn), none, none], [], h, 0, 0) (jc_rqX X τ u mc Tc Tm zn h) := fun hz => by
    refine rs_en (cmp := am_cmp) wk_q29 (show wk_at wk_m29 11 39 10 0 0 0 = true by decide +kernel) rfl (Or.inr ⟨rfl, ?_⟩)
    unfold j_n
    rw [if_neg (by omega)]
  refine rs_st (cmp := am_cmp) wk_q29 (show wk_at wk_m29 0 2 1 1 0 0 = true by decide +kernel) rfl ?_
  refine rs_st (cmp := am_cmp) wk_q29 (show wk_at wk_m29 1 1 9 1 0 0 = true by decide +kernel) rfl ?_
  by_cases e1 : ab_b zn < 2147483649
  · refine rs_ict wk_q29 (show wk_at wk_m29 2 23 2 11 0 0 = true by decide +kernel) (by show decide (zn < Int32.ofNat (9 / 8)) = true; exact decide_eq_true (ab_b_lti.mpr (by omega))) ?_
    exact thr (Or.inl e1)
  refine rs_icf wk_q29 (show wk_at wk_m29 2 23 2 11 0 0 = true by decide +kernel) (by show decide (zn < Int32.ofNat (9 / 8)) = false; exact decide_eq_false (fun hle => e1 (by have := ab_b_lti.mp hle; omega))) ?_
  refine rs_st (cmp := am_cmp) wk_q29 (show wk_at wk_m29 5 2 1 1 0 0 = true by decide +kernel) rfl ?_
  refine rs_st (cmp := am_cmp) wk_q29 (show wk_at wk_m29 6 1 481 2 0 0 = true by decide +kernel) rfl ?_
  by_cases e2 : 2147483708 < ab_b zn
  · refine rs_icf wk_q29 (show wk_at wk_m29 8 23 5 21 0 0 = true by decide +kernel) (by show decide (zn ≤ Int32.ofNat (481 / 8)) = false; exact decide_eq_false (fun hle => by have := ab_b_lei.mp hle; omega)) ?_
    exact thr (Or.inr e2)
  refine rs_ict wk_q29 (show wk_at wk_m29 8 23 5 21 0 0 = true by decide +kernel) (by show decide (zn ≤ Int32.ofNat (481 / 8)) = true; exact decide_eq_true (ab_b_lei.mpr (by omega))) ?_
  obtain ⟨n, hn⟩ : ∃ n, ab_b zn = 2147483648 + n := ⟨ab_b zn - 2147483648, by omega⟩
  obtain ⟨zb, hzb, -, -⟩ := kc_int hJ.1 hu (by decide) (i := 7) (by decide) (lo := 0) (hi := 4294967295) rfl
  have hjn : j_n zn = n := by
    unfold j_n
    rw [if_pos (by omega), hn]
    exact Nat.add_sub_cancel_left ..
  refine rs_st (cmp := am_cmp) wk_q29 (show wk_at wk_m29 21 3 0 1 0 0 = true by decide +kernel) rfl ?_
  refine rs_get (cmp := am_cmp) wk_q29 (show wk_at wk_m29 22 25 0 7 0 0 = true by decide +kernel) hJ.1 hu0 hkk hzb ?_
  refine rs_st (cmp := am_cmp) wk_q29 (show wk_at wk_m29 25 4 2 1 0 0 = true by decide +kernel) rfl ?_
  refine rs_st (cmp := am_cmp) wk_q29 (show wk_at wk_m29 26 1 1 1 0 0 = true by decide +kernel) rfl ?_
  refine rs_st (cmp := am_cmp) wk_q29 (show wk_at wk_m29 27 4 3 1 0 0 = true by decide +kernel) rfl ?_
  refine jc_run_loopX hmc hU hut hn (by omega) hT (L := h.length) hX (fun zi hx hJx hlx => ?_) n 0 (Int32.ofNat (1 / 8)) h (by omega) (by omega) hJ ⟨rfl, hX0⟩
  obtain ⟨zc, hzc, -, -⟩ := kc_int hJx.1 hu (by decide) (i := 7) (by decide) (lo := 0) (hi := 4294967295) rfl
  refine rs_st (cmp := am_cmp) wk_q29 (show wk_at wk_m29 43 3 0 1 0 0 = true by decide +kernel) rfl ?_
  refine rs_get (cmp := am_cmp) wk_q29 (show wk_at wk_m29 44 25 0 7 0 0 = true by decide +kernel) hJx.1 hu0 hkk hzc ?_
  refine rs_st (cmp := am_cmp) wk_q29 (show wk_at wk_m29 47 2 2 1 0 0 = true by decide +kernel) rfl ?_
  refine rs_st (cmp := am_cmp) wk_q29 (show wk_at wk_m29 48 8 0 0 0 0 = true by decide +kernel) rfl ?_
  refine rs_en (cmp := am_cmp) wk_q29 (show wk_at wk_m29 49 44 0 0 0 0 = true by decide +kernel) rfl (Or.inl ⟨_, hx, rfl, ?_, hlx.1, ?_⟩)
  · rw [hjn]
    exact hJx
  · rw [hjn]
    exact hlx.2
/-- the law's own row -/
theorem jl_lasX {τ u : Nat → Nat} {mc Tc Tm : Nat} (hmc : mc < 9) (hut : ∀ k, w_uq k = true → τ (u k) = k) {mi : am_M} {mf : fm_M} {pc k q : Nat} {lo : List (Option Value)} {h : am_H} {Q : am_R → Prop} (hmf : wk_mck am_fty am_lk wk_tls mi mf = true) (hw : wk_at mf pc 33 0 0 0 0 = true) (hJ : j_J τ u mc Tc Tm h) {x : Int64} {i : Int32} (hi : i = 0) (hn : ∀ h', j_J τ u mc Tc Tm h' → h'.length = h.length → k_P τ h h' → cl_Rn mi (pc + 1, lo, [], h', k, q) Q) : cl_Rn mi (pc, lo, [.long x, .int i, .ref (u 39)], h, k, q) Q := by
  subst hi
  have hv : τ (u 39) = 39 := hut 39 (by decide +kernel)
  have hv0 : τ (u 39) ≠ 0 := by rw [hv]; decide
  have hkv : (w_kd (τ (u 39))).1 = 102 := by rw [hv]; rfl
  obtain ⟨vs, h1, h2, -⟩ := hJ.1 (u 39) hv0
  have h2 : vs.length = 1 := by rw [h2, hv]; rfl
  obtain ⟨s1, s2⟩ := rs_set (wr := j_mc) (k := 0) (v := .long x) (i := 0) ⟨hJ.1, fun a _ => ⟨fun _ => rfl, fun _ _ _ => rfl⟩, rfl⟩ hv0 h1 (by omega) (by rw [hv]; decide +kernel) (by rw [hv]; exact ⟨(4, 0, 0), List.mem_singleton_self _, x, rfl⟩)
  rw [hkv] at h1 s1 s2
  have hJ' : j_J τ u mc Tc Tm (h.set (u 39) (102, vs.set 0 (.long x))) := by
    refine j_cls hmc hut hJ s1.1 (fun a ha => ?_) (j_sub (by decide +kernel) s1.2.1) (j_tk hut hJ.1 s1.2.1 (by decide +kernel) (by decide) (by decide +kernel) hJ.2.2.2.2.1)
    have hne : a ≠ u 39 := fun e => by rw [e, hv] at ha; cases ha
    rw [s2, s2, s2, if_neg (fun z => hne z.1), if_neg (fun z => hne z.1), if_neg (fun z => hne z.1)]
    exact hJ.2.1 a ha
  refine rs_st (cmp := am_cmp) hmf hw ?_ (hn _ hJ' s1.2.2 (k_ne hut (κ := 39) (by decide +kernel) (by decide +kernel) (fun a i ha => by rw [s2, if_neg (fun z => ha z.1)])))
  simp only [wk_ex]
  rw [ab_arr h1]
  dsimp only
  have hwrt : am_wr h (u 39) 102 vs 0 (.long x) = some (h.set (u 39) (102, vs.set 0 (.long x))) := by
    unfold am_wr
    rw [if_neg (by decide), if_pos (by show (0 : Int32).toNatClampNeg < vs.length; rw [h2]; decide)]
    rfl
  rw [hwrt]
  rfl
set_option maxRecDepth 100000 in
/-- the law's run of the class -/
theorem jl_runX {τ u : Nat → Nat} {mc Tc Tm : Nat} (hmc : mc < 9) (hU : ab_U w_uq τ u) (hut : ∀ k, w_uq k = true → τ (u k) = k) (hT : 2147483648 ≤ Tc ∧ Tc + 60 ≤ 2147523647) {h : am_H} (hJ : j_J τ u mc Tc Tm h) {X : Nat → am_H → Prop} (hX : ∀ i hx h', j_J τ u mc (Tc + i) Tm hx → (2147483648 ≤ Tc + i ∧ Tc + i ≤ 2147523647) → X i hx → Rd am_m33 (0, [some (.ref (u 1))] ++ List.replicate (am_L am_m33 - 1) none, [], hx, 0, 0) (.inl none, h', 0, 0) → j_J τ u mc (Tc + (i + 1)) Tm h' → X (i + 1) h') (hXk : ∀ i hx h', X i hx → j_J τ u mc (Tc + i) Tm hx → j_J τ u mc (Tc + i) Tm h' → k_P τ hx h' → X i h') (hX0 : X 0 h) (zn : Int32) : cl_Rn am_m141 (0, [some (.ref (u 1)), some (.int zn), some (.ref (u 39)), none], [], h, 0, 0) (fun r => ∃ z h' k' q', r = (.inl (some (.int z)), h', k', q') ∧ j_J τ u mc (Tc + j_n zn) Tm h' ∧ k' ≤ 1 ∧ q' ≤ 6 ∧ h'.length = h.length + k' ∧ X (j_n zn) h') := by
  have hu : τ (u 1) = 1 := hut 1 (by decide +kernel)
  have hu0 : τ (u 1) ≠ 0 := by rw [hu]; decide
  have hkk : (w_kd (τ (u 1))).1 = 0 := by rw [hu]; rfl
  have hv : τ (u 39) = 39 := hut 39 (by decide +kernel)
  have hv0 : τ (u 39) ≠ 0 := by rw [hv]; decide
  have hkv : (w_kd (τ (u 39))).1 = 102 := by rw [hv]; rfl
  refine rs_st (cmp := am_cmp) wk_q141 (show wk_at wk_m141 0 3 2 1 0 0 = true by decide +kernel) rfl ?_
  refine rs_st (cmp := am_cmp) wk_q141 (show wk_at wk_m141 1 1 1 1 0 0 = true by decide +kernel) rfl ?_
  refine rs_st (cmp := am_cmp) wk_q141 (show wk_at wk_m141 2 3 0 1 0 0 = true by decide +kernel) rfl ?_
  refine rs_st (cmp := am_cmp) wk_q141 (show wk_at wk_m141 3 2 1 1 0 0 = true by decide +kernel) rfl ?_
  refine rs_ivx (as := [.int zn]) (r := [.int (Int32.ofNat (1 / 8)), .ref (u 39)]) wk_q141 (show wk_at wk_m141 4 40 29 1 2 0 = true by decide +kernel) hJ.1 hu0 hkk rfl rfl (Nat.le_of_ble_eq_true rfl) (mj := am_m29) rfl ⟨by decide, by decide, Nat.le_of_ble_eq_true rfl⟩ (ix := 33) (n := 3) (kk := (20, 29, 1, 0)) rfl rfl rfl ?_
  refine Rn_mono (jc_runX hmc hU hut hT hJ hX hX0 zn) (fun r hr => ?_)
  rcases hr with ⟨z, h', rfl, hJ', hl, hXn⟩ | ⟨rfl, hz⟩
  · refine Or.inl ⟨some (.int z), h', 0, 0, rfl, ?_⟩
    refine rs_st (cmp := am_cmp) wk_q141 (show wk_at wk_m141 7 16 0 0 0 0 = true by decide +kernel) rfl ?_
    refine jl_lasX hmc hut wk_q141 (show wk_at wk_m141 8 33 0 0 0 0 = true by decide +kernel) hJ' rfl (fun h2 hJ2 hl2 hk2 => ?_)
    refine rs_st (cmp := am_cmp) wk_q141 (show wk_at wk_m141 9 21 15 0 0 0 = true by decide +kernel) rfl ?_
    refine rs_st (cmp := am_cmp) wk_q141 (show wk_at wk_m141 15 1 1 1 0 0 = true by decide +kernel) rfl ?_
    refine rs_en (cmp := am_cmp) wk_q141 (show wk_at wk_m141 16 44 0 0 0 0 = true by decide +kernel) rfl ⟨_, h2, _, _, rfl, hJ2, by omega, by omega, by omega, hXk _ h' h2 hXn hJ' hJ2 hk2⟩
  · refine Or.inr ⟨h.length, _, 1, 6, (10, []), 12, rfl, by rw [List.getElem?_append_right (Nat.le_refl _), Nat.sub_self]; rfl, by decide +kernel, ?_⟩
    refine rs_st (cmp := am_cmp) wk_q141 (show wk_at wk_m141 12 5 3 1 0 0 = true by decide +kernel) rfl ?_
    refine rs_st (cmp := am_cmp) wk_q141 (show wk_at wk_m141 13 1 9 1 0 0 = true by decide +kernel) rfl ?_
    refine rs_en (cmp := am_cmp) wk_q141 (show wk_at wk_m141 14 44 0 0 0 0 = true by decide +kernel) rfl ⟨_, _, _, _, rfl, by rw [hz]; exact j_app hut hJ _, by omega, by omega, by rw [List.length_append]; rfl, by rw [hz]; exact hXk 0 h _ hX0 hJ (j_app hut hJ _) (k_app hJ.1)⟩
set_option maxRecDepth 100000 in
theorem jm_runX {τ u : Nat → Nat} {mc Tc Tm : Nat} (hmc : mc < 9) (hU : ab_U w_uq τ u) (hut : ∀ k, w_uq k = true → τ (u k) = k) (hT : 2147483648 ≤ Tm ∧ Tm + 60 ≤ 2147523647) {h : am_H} (hJ : j_J τ u mc Tc Tm h) {X : Nat → am_H → Prop} (hX : ∀ i hx h', j_J τ u mc Tc (Tm + i) hx → (2147483648 ≤ Tm + i ∧ Tm + i ≤ 2147523647) → X i hx → Rd am_m126 (0, [some (.ref (u 40))] ++ List.replicate (am_L am_m126 - 1) none, [], hx, 0, 0) (.inl none, h', 0, 0) → j_J τ u mc Tc (Tm + (i + 1)) h' → X (i + 1) h') (hXk : ∀ i hx h', X i hx → j_J τ u mc Tc (Tm + i) hx → j_J τ u mc Tc (Tm + i) h' → k_P τ hx h' → X i h') (hX0 : X 0 h) (zn : Int32) : cl_Rn am_m119 (0, [some (.ref (u 40)), some (.int zn), none, none], [], h, 0, 0) (fun r => ∃ z h', r = (.inl (some (.int z)), h', 0, 0) ∧ j_J τ u mc Tc (Tm + j_n zn) h' ∧ (h'.length = h.length ∧ X (j_n zn) h')) := by
  have hu : τ (u 40) = 40 := hut 40 (by decide +kernel)
  have hu0 : τ (u 40) ≠ 0 := by rw [hu]; decide
  have hk40 : (w_kd (τ (u 40))).1 = 9 := by rw [hu]; rfl
  have c0 : ab_b (Int32.ofNat (1 / 8)) = 2147483648 := by decide
  have c1 : ab_b (Int32.ofNat (9 / 8)) = 2147483649 := by decide
  have c60 : ab_b (Int32.ofNat (481 / 8)) = 2147483708 := by decide
  have thr : j_n zn = 0 → cl_Rn am_m119 (12, [some (.ref (u 40)), some (.int zn), none, none], [.ref (u 40)], h, 0, 0) (fun r => ∃ z h', r = (.inl (some (.int z)), h', 0, 0) ∧ j_J τ u mc Tc (Tm + j_n zn) h' ∧ (h'.length = h.length ∧ X (j_n zn) h')) := fun hz => by
    refine rs_st (cmp := am_cmp) wk_q119 (show wk_at wk_m119 12 1 9 1 0 0 = true by decide +kernel) rfl ?_
    refine rs_st (cmp := am_cmp) wk_q119 (show wk_at wk_m119 13 21 17 0 0 0 = true by decide +kernel) rfl ?_
    refine rs_st (cmp := am_cmp) wk_q119 (show wk_at wk_m119 17 1 1 1 0 0 = true by decide +kernel) rfl ?_
    refine rs_iv (as := [.int (Int32.ofNat (9 / 8)), .int (Int32.ofNat (1 / 8))]) (r := []) wk_q119 (show wk_at wk_m119 18 40 125 2 2 9 = true by decide +kernel) hJ.1 hu0 hk40 rfl rfl (Nat.le_of_ble_eq_true rfl) (mj := am_m125) rfl ⟨by decide, by decide, Nat.le_of_ble_eq_true rfl⟩ ?_
    refine j_thr hmc hU hut hJ (fun h' hJ' hl _ hs _ => ⟨_, h', 0, 0, rfl, ?_⟩)
    rw [if_neg (by decide)]
    refine rs_iff wk_q119 (show wk_at wk_m119 21 22 0 26 0 0 = true by decide +kernel) (by decide +kernel) ?_
    refine rs_st (cmp := am_cmp) wk_q119 (show wk_at wk_m119 24 1 1 1 0 0 = true by decide +kernel) rfl ?_
    refine rs_en (cmp := am_cmp) wk_q119 (show wk_at wk_m119 25 44 0 0 0 0 = true by decide +kernel) rfl ⟨_, h', rfl, by rw [hz]; exact hJ', hl, by rw [hz]; exact hXk 0 h h' hX0 hJ hJ' (k_ne hut (κ := 40) (by decide +kernel) (by decide +kernel) (fun a i ha => hs a i (fun e => absurd e ha)))⟩
  refine rs_st (cmp := am_cmp) wk_q119 (show wk_at wk_m119 0 3 0 1 0 0 = true by decide +kernel) rfl ?_
  refine rs_st (cmp := am_cmp) wk_q119 (show wk_at wk_m119 1 2 1 1 0 0 = true by decide +kernel) rfl ?_
  refine rs_st (cmp := am_cmp) wk_q119 (show wk_at wk_m119 2 1 9 1 0 0 = true by decide +kernel) rfl ?_
  by_cases e1 : ab_b zn < 2147483649
  · refine rs_ict wk_q119 (show wk_at wk_m119 3 23 2 12 0 0 = true by decide +kernel) (by show decide (zn < Int32.ofNat (9 / 8)) = true; exact decide_eq_true (ab_b_lti.mpr (by omega))) ?_
    exact thr (by unfold j_n; rw [if_neg (by omega)])
  refine rs_icf wk_q119 (show wk_at wk_m119 3 23 2 12 0 0 = true by decide +kernel) (by show decide (zn < Int32.ofNat (9 / 8)) = false; exact decide_eq_false (fun hle => e1 (by have := ab_b_lti.mp hle; omega))) ?_
  refine rs_st (cmp := am_cmp) wk_q119 (show wk_at wk_m119 6 2 1 1 0 0 = true by decide +kernel) rfl ?_
  refine rs_st (cmp := am_cmp) wk_q119 (show wk_at wk_m119 7 1 481 2 0 0 = true by decide +kernel) rfl ?_
  by_cases e2 : 2147483708 < ab_b zn
  · refine rs_icf wk_q119 (show wk_at wk_m119 9 23 5 16 0 0 = true by decide +kernel) (by show decide (zn ≤ Int32.ofNat (481 / 8)) = false; exact decide_eq_false (fun hle => by have := ab_b_lei.mp hle; omega)) ?_
    exact thr (by unfold j_n; rw [if_neg (by omega)])
  refine rs_ict wk_q119 (show wk_at wk_m119 9 23 5 16 0 0 = true by decide +kernel) (by show decide (zn ≤ Int32.ofNat (481 / 8)) = true; exact decide_eq_true (ab_b_lei.mpr (by omega))) ?_
  obtain ⟨n, hn⟩ : ∃ n, ab_b zn = 2147483648 + n := ⟨ab_b zn - 2147483648, by omega⟩
  have hjn : j_n zn = n := by
    unfold j_n
    rw [if_pos (by omega), hn]
    exact Nat.add_sub_cancel_left ..
  refine rs_st (cmp := am_cmp) wk_q119 (show wk_at wk_m119 16 1 1 1 0 0 = true by decide +kernel) rfl ?_
  refine rs_st (cmp := am_cmp) wk_q119 (show wk_at wk_m119 17 1 1 1 0 0 = true by decide +kernel) rfl ?_
  refine rs_iv (as := [.int (Int32.ofNat (1 / 8)), .int (Int32.ofNat (1 / 8))]) (r := []) wk_q119 (show wk_at wk_m119 18 40 125 2 2 9 = true by decide +kernel) hJ.1 hu0 hk40 rfl rfl (Nat.le_of_ble_eq_true rfl) (mj := am_m125) rfl ⟨by decide, by decide, Nat.le_of_ble_eq_true rfl⟩ ?_
  refine j_thr hmc hU hut hJ (fun h1 hJ1 hl1 _ hs1 _ => ⟨_, h1, 0, 0, rfl, ?_⟩)
  rw [if_pos (by decide)]
  refine rs_ift wk_q119 (show wk_at wk_m119 21 22 0 26 0 0 = true by decide +kernel) (by decide +kernel) ?_
  obtain ⟨zb, hzb, -, -⟩ := md_fld hut hJ1.1 (i := 4) (lo := 0) (hi := 4294967295) (by decide) rfl
  refine rs_st (cmp := am_cmp) wk_q119 (show wk_at wk_m119 26 3 0 1 0 0 = true by decide +kernel) rfl ?_
  refine rs_get (cmp := am_cmp) wk_q119 (show wk_at wk_m119 27 25 9 4 0 0 = true by decide +kernel) hJ1.1 hu0 hk40 hzb ?_
  refine rs_st (cmp := am_cmp) wk_q119 (show wk_at wk_m119 30 4 2 1 0 0 = true by decide +kernel) rfl ?_
  refine rs_st (cmp := am_cmp) wk_q119 (show wk_at wk_m119 31 1 1 1 0 0 = true by decide +kernel) rfl ?_
  refine rs_st (cmp := am_cmp) wk_q119 (show wk_at wk_m119 32 4 3 1 0 0 = true by decide +kernel) rfl ?_
  refine jm_run_loopX hmc hU hut hn (by omega) hT (L := h.length) hX (fun zi hx hJx hlx => ?_) n 0 (Int32.ofNat (1 / 8)) h1 (by omega) (by omega) hJ1 ⟨hl1, hXk 0 h h1 hX0 hJ hJ1 (k_ne hut (κ := 40) (by decide +kernel) (by decide +kernel) (fun a i ha => hs1 a i (fun e => absurd e ha)))⟩
  obtain ⟨zc, hzc, -, -⟩ := md_fld hut hJx.1 (i := 4) (lo := 0) (hi := 4294967295) (by decide) rfl
  refine rs_st (cmp := am_cmp) wk_q119 (show wk_at wk_m119 48 3 0 1 0 0 = true by decide +kernel) rfl ?_
  refine rs_get (cmp := am_cmp) wk_q119 (show wk_at wk_m119 49 25 9 4 0 0 = true by decide +kernel) hJx.1 hu0 hk40 hzc ?_
  refine rs_st (cmp := am_cmp) wk_q119 (show wk_at wk_m119 52 2 2 1 0 0 = true by decide +kernel) rfl ?_
  refine rs_st (cmp := am_cmp) wk_q119 (show wk_at wk_m119 53 8 0 0 0 0 = true by decide +kernel) rfl ?_
  exact rs_en (cmp := am_cmp) wk_q119 (show wk_at wk_m119 54 44 0 0 0 0 = true by decide +kernel) rfl ⟨_, hx, rfl, by rw [hjn]; exact hJx, hlx.1, by rw [hjn]; exact hlx.2⟩
/-- what was told, i ticks later -/
def r_an (w : Nat → Nat → Nat → Nat) (dn : Nat → Nat) (T : Nat) : Nat → Nat → Nat → Nat → Nat
  | 0 => w
  | i + 1 => r_ad (r_an w dn T i) dn ((T + i + 1 - 2147483648) % 6)
theorem r_an16 {w : Nat → Nat → Nat → Nat} {dn : Nat → Nat} {T : Nat} (h : r_16 w) : ∀ i, r_16 (r_an w dn T i)
  | 0 => h
  | i + 1 => r_ad16 (r_an16 h i)
theorem r_and_ {w : Nat → Nat → Nat → Nat} {dn : Nat → Nat} {T : Nat} (h : r_dd w dn) : ∀ i, r_dd (r_an w dn T i) dn
  | 0 => h
  | i + 1 => r_add_ (Nat.mod_lt _ (by decide)) (r_and_ h i)
/-- the class's run -/
theorem r_lrun {τ u c : Nat → Nat} {mc Tc Tm : Nat} (hmc : mc < 9) (hU : ab_U w_uq τ u) (hut : ∀ k, w_uq k = true → τ (u k) = k) (hT : 2147483648 ≤ Tc ∧ Tc + 60 ≤ 2147523647) {h : am_H} (hJ : j_J τ u mc Tc Tm h) (hj : rc_j c) (hcu : r_cu c u) {w : Nat → Nat → Nat → Nat} {dn : Nat → Nat} (h16 : r_16 w) (h01 : r_01 dn) (hI : rc_I c w dn h) (hR : rr_I c w dn h) (zn : Int32) : cl_Rn am_m141 (0, [some (.ref (u 1)), some (.int zn), some (.ref (u 39)), none], [], h, 0, 0) (fun r => ∃ z h' k' q', r = (.inl (some (.int z)), h', k', q') ∧ j_J τ u mc (Tc + j_n zn) Tm h' ∧ k' ≤ 1 ∧ q' ≤ 6 ∧ h'.length = h.length + k' ∧ rc_I c (r_an w dn Tc (j_n zn)) dn h' ∧ rr_I c w dn h') :=
  jl_runX hmc hU hut hT hJ (X := fun i hx => rc_I c (r_an w dn Tc i) dn hx ∧ rr_I c w dn hx)
    (fun i hx h' hJx hTi hx0 hrd hJ' => by
      obtain ⟨q1, q2⟩ := rc_tickI hmc hU hut hJx hj hcu (r_an16 h16 i) h01 hx0.1 (rc_tickR hmc hTi hU hut hJx hrd)
      exact ⟨q1, rr_kP hut hU hut hcu hJ'.1 q2 hx0.2⟩)
    (fun i hx h' hx0 hJx hJ' kp => ⟨rc_kP hut hU hut hcu hJx.1 hJ'.1 (k_c kp) hx0.1, rr_kP hut hU hut hcu hJ'.1 (k_r kp) hx0.2⟩)
    ⟨hI, hR⟩ zn
/-- the reference's run -/
theorem r_mrun {τ u c : Nat → Nat} {mc Tc Tm : Nat} (hmc : mc < 9) (hU : ab_U w_uq τ u) (hut : ∀ k, w_uq k = true → τ (u k) = k) (hT : 2147483648 ≤ Tm ∧ Tm + 60 ≤ 2147523647) {h : am_H} (hJ : j_J τ u mc Tc Tm h) (hj : rc_j c) (hcu : r_cu c u) {w W : Nat → Nat → Nat → Nat} {dn : Nat → Nat} (h16 : r_16 w) (h01 : r_01 dn) (hdd : r_dd w dn) (hI : rc_I c W dn h) (hR : rr_I c w dn h) (zn : Int32) : cl_Rn am_m119 (0, [some (.ref (u 40)), some (.int zn), none, none], [], h, 0, 0) (fun r => ∃ z h', r = (.inl (some (.int z)), h', 0, 0) ∧ j_J τ u mc Tc (Tm + j_n zn) h' ∧ (h'.length = h.length ∧ (rc_I c W dn h' ∧ rr_I c (r_an w dn Tm (j_n zn)) dn h'))) :=
  jm_runX hmc hU hut hT hJ (X := fun i hx => rc_I c W dn hx ∧ rr_I c (r_an w dn Tm i) dn hx)
    (fun i hx h' hJx hTi hx0 hrd hJ' => by
      obtain ⟨q1, q2⟩ := rt_tickI hmc hU hut hJx hj hcu (r_an16 h16 i) h01 (r_and_ hdd i) hx0.2 (rt_tickR hmc hTi hU hut hJx hrd)
      exact ⟨rc_kP hut hU hut hcu hJx.1 hJ'.1 q2 hx0.1, q1⟩)
    (fun i hx h' hx0 hJx hJ' kp => ⟨rc_kP hut hU hut hcu hJx.1 hJ'.1 (k_c kp) hx0.1, rr_kP hut hU hut hcu hJ'.1 (k_r kp) hx0.2⟩)
    ⟨hI, hR⟩ zn
