/-! ===== the class: machine ===== -/
def j_i (o : Option Value) : Int32 := match o with
  | some (.int z) => z
  | _ => 0
def j_r (o : Option Value) : Nat := match o with
  | some (.ref y) => y
  | _ => 0
def j_ok1m (zl zt za : Int32) : Prop := j_in zl 4 ∧ j_in zt 3 ∧ j_in za 8
def j_ok2m (u : Nat → Nat) (mc : Nat) (zt za : Int32) (h : am_H) : Prop := mc ≠ 8 ∧ ∀ i, i < mc → ¬ (ab_sl h (u 59) i = some (.int zt) ∧ ab_sl h (u 60) i = some (.int za))
theorem j_rel32 {τ u : Nat → Nat} {mc Tc Tm : Nat} {h : am_H} (hmc : mc < 9) (hut : ∀ k, w_uq k = true → τ (u k) = k) (hJ : j_J τ u mc Tc Tm h) {i y : Nat} (hi : i < mc) (h1 : ab_sl h (u 6) i = some (.ref y)) : τ y = 32 := by
  have u6 := hut 6 (by decide +kernel)
  obtain ⟨vs, x, -, -, -, hs, v, hv, hg⟩ := ab_I_sl hJ.1 (a := u 6) (i := i) (by rw [u6]; decide) (by rw [u6]; show i < 8; omega)
  rw [h1] at hs
  cases hs
  rw [u6] at hv
  have e : Nat.blt i mc = true := Nat.ble_eq_true_of_le hi
  have hv : v ∈ (bif Nat.blt i mc then [(2, 32, 0)] else [(3, 0, 0)] : List ab_V) := hv
  rw [e] at hv
  have := List.mem_singleton.mp hv
  subst this
  obtain ⟨y', e1, e2, -⟩ := hg
  cases e1
  exact e2
theorem j_row1 {mc : Nat} {τ u : Nat → Nat} {Gm : Nat → Nat → List ab_V} {tv : Nat} (hU : ab_U w_uq τ u) {h : am_H} (hI : ab_I w_kd w_un Gm τ tv h) {x i k : Nat} (hx : τ x ≠ 0) (hi : i < (w_kd (τ x)).2) (hG : Gm (τ x) (ab_gi w_un (τ x) i) = [(2, k, 0)]) (hk : w_uq k = true) : ab_sl h x i = some (.ref (u k)) := by
  obtain ⟨vs, y, -, -, -, hs, v, hv, hg⟩ := ab_I_sl hI hx hi
  rw [hG] at hv
  have := List.mem_singleton.mp hv
  subst this
  obtain ⟨y', e1, e2, -⟩ := hg
  have e2 : τ y' = k := e2
  have := hU y' (by rw [e2]; exact hk)
  rw [e2] at this
  rw [hs, e1, this]
/-- how the class's machine ends -/
def jc_mq (u : Nat → Nat) (mc Tc Tm : Nat) (zl zt za : Int32) (h : am_H) (r : am_R) : Prop := (¬ j_ok1m zl zt za ∧ r = (.inr h.length, h ++ [(10, [])], 1, 6)) ∨ (j_ok1m zl zt za ∧ ¬ j_ok2m u mc zt za h ∧ r = (.inr h.length, h ++ [(11, [])], 1, 6)) ∨ (j_ok1m zl zt za ∧ mc < 8 ∧ ∃ z h' τ', r = (.inl (some (.int z)), h', 7, 53) ∧ ab_b z = 2147483648 + mc ∧ j_ok2m u mc zt za h' ∧ ab_U w_uq τ' u ∧ (∀ k, w_uq k = true → τ' (u k) = k) ∧ j_H τ' u mc Tc Tm zt za h' ∧ h'.length = h.length + 7)
def j_mg3 : Nat := 0x8000000000000000000000000000000000000000000000000000000000000000000000000000000000000000000000200000000000000000
theorem j_b6 : ∀ mc, mc < 8 → ab_tb j_mg3 (ab_bt w_kd 6 mc) = true := by decide +kernel
theorem j_g36 : ∀ mc, mc < 8 → (2, 32, 0) ∈ w_G3 mc 6 (ab_gi w_un 6 mc) := by decide +kernel
theorem j_w161 : ∀ k, k ∈ j_kl → ∀ i, i < (w_kd k).2 → ab_tb wc_161.2.2.2.1 (ab_bt w_kd k i) = false := by decide +kernel
set_option maxRecDepth 100000 in
theorem jc_mach {τ u : Nat → Nat} {mc Tc Tm : Nat} (hmc : mc < 9) (hU : ab_U w_uq τ u) (hut : ∀ k, w_uq k = true → τ (u k) = k) {h : am_H} (hJ : j_J τ u mc Tc Tm h) (zl zt za : Int32) : cl_Rn am_m20 (0, [some (.ref (u 1)), some (.int zl), some (.int zt), some (.int za), none], [], h, 0, 0) (jc_mq u mc Tc Tm zl zt za h) := by
  have hu : τ (u 1) = 1 := hut 1 (by decide +kernel)
  have hu0 : τ (u 1) ≠ 0 := by rw [hu]; decide
  have hk1 : (w_kd (τ (u 1))).1 = 0 := by rw [hu]; rfl
  have u6 : τ (u 6) = 6 := hut 6 (by decide +kernel)
  have u3 : τ (u 3) = 3 := hut 3 (by decide +kernel)
  have hud := md_ud hut
  have c1 : ab_b (Int32.ofNat (9 / 8)) = 2147483649 := by decide
  have c8 : ab_b (Int32.ofNat (65 / 8)) = 2147483656 := by decide
  have bad : ¬ j_ok1m zl zt za → cl_Rn am_m20 (24, [some (.ref (u 1)), some (.int zl), some (.int zt), some (.int za), none], [], h, 0, 0) (jc_mq u mc Tc Tm zl zt za h) := fun hn =>
    rs_en (cmp := am_cmp) wk_q20 (show wk_at wk_m20 24 39 10 0 0 0 = true by decide +kernel) rfl (Or.inl ⟨hn, rfl⟩)
  have bad2 : j_ok1m zl zt za → ¬ j_ok2m u mc zt za h → cl_Rn am_m20 (53, [some (.ref (u 1)), some (.int zl), some (.int zt), some (.int za), none], [], h, 0, 0) (jc_mq u mc Tc Tm zl zt za h) := fun h1 hn =>
    rs_en (cmp := am_cmp) wk_q20 (show wk_at wk_m20 53 39 11 0 0 0 = true by decide +kernel) rfl (Or.inr (Or.inl ⟨h1, hn, rfl⟩))
  obtain ⟨zc, hzc, q1, q2⟩ := kc_int hJ.1 hu (by decide) (i := 5) (by decide) (lo := Nat.add 2147483648 mc) (hi := Nat.add 2147483648 mc) rfl
  rw [md_a] at q1 q2
  refine rs_st (cmp := am_cmp) wk_q20 (show wk_at wk_m20 0 2 1 1 0 0 = true by decide +kernel) rfl ?_
  refine rs_is (as := [.int zl]) (r := []) wk_q20 (show wk_at wk_m20 1 40 14 1 0 0 = true by decide +kernel) rfl rfl (Nat.le_of_ble_eq_true rfl) (mj := am_m14) rfl ⟨by decide, by decide, Nat.le_of_ble_eq_true rfl⟩ ?_
  refine jc_leaf (fun i1 => ⟨_, h, 0, 0, rfl, ?_⟩) (fun i1 => ⟨_, h, 0, 0, rfl, ?_⟩)
  rotate_left
  · refine rs_ift wk_q20 (show wk_at wk_m20 4 22 0 24 0 0 = true by decide +kernel) (by decide +kernel) ?_
    exact bad (fun e => i1 e.1)
  refine rs_iff wk_q20 (show wk_at wk_m20 4 22 0 24 0 0 = true by decide +kernel) (by decide +kernel) ?_
  refine rs_st (cmp := am_cmp) wk_q20 (show wk_at wk_m20 7 2 2 1 0 0 = true by decide +kernel) rfl ?_
  refine rs_st (cmp := am_cmp) wk_q20 (show wk_at wk_m20 8 1 25 1 0 0 = true by decide +kernel) rfl ?_
  refine rs_is (as := [.int zt, .int 3]) (r := []) wk_q20 (show wk_at wk_m20 9 40 13 2 0 0 = true by decide +kernel) rfl rfl (Nat.le_of_ble_eq_true rfl) (mj := am_m13) rfl ⟨by decide, by decide, Nat.le_of_ble_eq_true rfl⟩ ?_
  refine jc_below (fun i2 => ⟨_, h, 0, 0, rfl, ?_⟩) (fun i2 => ⟨_, h, 0, 0, rfl, ?_⟩)
  rotate_left
  · refine rs_ift wk_q20 (show wk_at wk_m20 12 22 0 24 0 0 = true by decide +kernel) (by decide +kernel) ?_
    exact bad (fun e => i2 e.2.1)
  refine rs_iff wk_q20 (show wk_at wk_m20 12 22 0 24 0 0 = true by decide +kernel) (by decide +kernel) ?_
  refine rs_st (cmp := am_cmp) wk_q20 (show wk_at wk_m20 15 2 3 1 0 0 = true by decide +kernel) rfl ?_
  refine rs_st (cmp := am_cmp) wk_q20 (show wk_at wk_m20 16 1 65 2 0 0 = true by decide +kernel) rfl ?_
  refine rs_is (as := [.int za, .int 8]) (r := []) wk_q20 (show wk_at wk_m20 18 40 13 2 0 0 = true by decide +kernel) rfl rfl (Nat.le_of_ble_eq_true rfl) (mj := am_m13) rfl ⟨by decide, by decide, Nat.le_of_ble_eq_true rfl⟩ ?_
  refine jc_below (fun i3 => ⟨_, h, 0, 0, rfl, ?_⟩) (fun i3 => ⟨_, h, 0, 0, rfl, ?_⟩)
  rotate_left
  · refine rs_iff wk_q20 (show wk_at wk_m20 21 22 1 34 0 0 = true by decide +kernel) (by decide +kernel) ?_
    exact bad (fun e => i3 e.2.2)
  refine rs_ift wk_q20 (show wk_at wk_m20 21 22 1 34 0 0 = true by decide +kernel) (by decide +kernel) ?_
  have ok1 : j_ok1m zl zt za := ⟨i1, i2, i3⟩
  refine rs_st (cmp := am_cmp) wk_q20 (show wk_at wk_m20 34 3 0 1 0 0 = true by decide +kernel) rfl ?_
  refine rs_get (cmp := am_cmp) wk_q20 (show wk_at wk_m20 35 25 0 5 0 0 = true by decide +kernel) hJ.1 hu0 hk1 hzc ?_
  refine rs_st (cmp := am_cmp) wk_q20 (show wk_at wk_m20 38 1 65 2 0 0 = true by decide +kernel) rfl ?_
  by_cases e8 : mc = 8
  · refine rs_ict wk_q20 (show wk_at wk_m20 40 23 0 53 0 0 = true by decide +kernel) (by show decide (zc = Int32.ofNat (65 / 8)) = true; exact decide_eq_true (ab_b_inj (by omega))) ?_
    exact bad2 ok1 (fun e => e.1 e8)
  refine rs_icf wk_q20 (show wk_at wk_m20 40 23 0 53 0 0 = true by decide +kernel) (by show decide (zc = Int32.ofNat (65 / 8)) = false; exact decide_eq_false (fun e => e8 (by rw [e] at q1 q2; omega))) ?_
  have hmc8 : mc < 8 := by omega
  refine rs_st (cmp := am_cmp) wk_q20 (show wk_at wk_m20 43 3 0 1 0 0 = true by decide +kernel) rfl ?_
  refine rs_st (cmp := am_cmp) wk_q20 (show wk_at wk_m20 44 2 2 1 0 0 = true by decide +kernel) rfl ?_
  refine rs_st (cmp := am_cmp) wk_q20 (show wk_at wk_m20 45 2 3 1 0 0 = true by decide +kernel) rfl ?_
  have r6 : ab_sl h (u 1) 4 = some (.ref (u 6)) := j_row1 (mc := mc) hU hJ.1 hu0 (by rw [hu]; decide) (by rw [hu]; rfl) (by decide +kernel)
  refine rs_iv (as := [.int zt, .int za]) (r := []) wk_q20 (show wk_at wk_m20 46 40 21 2 2 0 = true by decide +kernel) hJ.1 hu0 hk1 rfl rfl (Nat.le_of_ble_eq_true rfl) (mj := am_m21) rfl ⟨by decide, by decide, Nat.le_of_ble_eq_true rfl⟩ ?_
  have hrel : ∀ i, i < mc → ab_sl h (u 6) i = some (.ref (j_r (ab_sl h (u 6) i))) ∧ τ (j_r (ab_sl h (u 6) i)) = 32 ∧ ab_sl h (j_r (ab_sl h (u 6) i)) 1 = some (.int (j_i (ab_sl h (u 59) i))) ∧ ab_sl h (j_r (ab_sl h (u 6) i)) 2 = some (.int (j_i (ab_sl h (u 60) i))) := fun i hi => by
    obtain ⟨y, z1, z2, h1, h2, h3, h4, h5⟩ := hJ.2.2.2.2.2.2 i hi
    have hy := j_rel32 hmc hut hJ hi h1
    rw [h1, h3, h5]
    exact ⟨rfl, hy, h2, h4⟩
  have hid : ∀ i, i < mc → (j_i (ab_sl h (u 59) i) = zt ∧ j_i (ab_sl h (u 60) i) = za ↔ (ab_sl h (u 59) i = some (.int zt) ∧ ab_sl h (u 60) i = some (.int za))) := fun i hi => by
    obtain ⟨y, z1, z2, -, -, h3, -, h5⟩ := hJ.2.2.2.2.2.2 i hi
    rw [h3, h5]
    exact ⟨fun e => by have e1 : z1 = zt := e.1; have e2 : z2 = za := e.2; rw [e1, e2]; exact ⟨rfl, rfl⟩, fun e => by obtain ⟨e1, e2⟩ := e; cases e1; cases e2; exact ⟨rfl, rfl⟩⟩
  refine jc_with hut hJ.1 r6 (m := mc) (by omega) hzc (by omega) (y := fun i => j_r (ab_sl h (u 6) i)) (t := fun i => j_i (ab_sl h (u 59) i)) (a := fun i => j_i (ab_sl h (u 60) i)) hrel (fun z i hi e1 e2 hz => ⟨_, h, 0, 0, rfl, ?_⟩) (fun hno => ⟨_, h, 0, 0, rfl, ?_⟩)
  · refine rs_st (cmp := am_cmp) wk_q20 (show wk_at wk_m20 49 1 34359738361 1 0 0 = true by decide +kernel) rfl ?_
    have cm : ab_b (Int32.ofNat (34359738361 / 8)) = 2147483647 := by decide
    refine rs_icf wk_q20 (show wk_at wk_m20 50 23 0 63 0 0 = true by decide +kernel) (by show decide (z = Int32.ofNat (34359738361 / 8)) = false; exact decide_eq_false (fun e => by rw [e, cm] at hz; omega)) ?_
    exact bad2 ok1 (fun e => e.2 i hi ((hid i hi).mp ⟨e1, e2⟩))
  refine rs_st (cmp := am_cmp) wk_q20 (show wk_at wk_m20 49 1 34359738361 1 0 0 = true by decide +kernel) rfl ?_
  refine rs_ict wk_q20 (show wk_at wk_m20 50 23 0 63 0 0 = true by decide +kernel) (by decide +kernel) ?_
  have ok2 : j_ok2m u mc zt za h := ⟨e8, fun i hi e => hno i hi ((hid i hi).mpr e)⟩
  refine rs_st (cmp := am_cmp) wk_q20 (show wk_at wk_m20 63 3 0 1 0 0 = true by decide +kernel) rfl ?_
  refine rs_get (cmp := am_cmp) wk_q20 (show wk_at wk_m20 64 25 0 5 0 0 = true by decide +kernel) hJ.1 hu0 hk1 hzc ?_
  refine rs_st (cmp := am_cmp) wk_q20 (show wk_at wk_m20 67 4 4 2 0 0 = true by decide +kernel) rfl ?_
  refine rs_st (cmp := am_cmp) wk_q20 (show wk_at wk_m20 69 3 0 1 0 0 = true by decide +kernel) rfl ?_
  refine rs_get (cmp := am_cmp) wk_q20 (show wk_at wk_m20 70 25 0 4 0 0 = true by decide +kernel) hJ.1 hu0 hk1 r6 ?_
  refine rs_st (cmp := am_cmp) wk_q20 (show wk_at wk_m20 73 2 4 2 0 0 = true by decide +kernel) rfl ?_
  refine rs_raw (S' := (78, [some (.ref (u 1)), some (.int zl), some (.int zt), some (.int za), some (.int zc)], [.ref (h.length + 0), .int zc, .ref (u 6)], h ++ [(5, [.int 0, .int 0, .int 0, .int 0, .int 0, .null, .null, .int 0, .null, .null, .null, .null, .int 0])], 1, 13)) rfl ?_
  refine rs_st (cmp := am_cmp) wk_q20 (show wk_at wk_m20 78 18 0 0 0 0 = true by decide +kernel) rfl ?_
  refine rs_st (cmp := am_cmp) wk_q20 (show wk_at wk_m20 79 2 4 2 0 0 = true by decide +kernel) rfl ?_
  refine rs_st (cmp := am_cmp) wk_q20 (show wk_at wk_m20 81 2 2 1 0 0 = true by decide +kernel) rfl ?_
  refine rs_st (cmp := am_cmp) wk_q20 (show wk_at wk_m20 82 2 3 1 0 0 = true by decide +kernel) rfl ?_
  refine rs_st (cmp := am_cmp) wk_q20 (show wk_at wk_m20 83 2 1 1 0 0 = true by decide +kernel) rfl ?_
  refine rs_sp (as := [.int zc, .int zt, .int za, .int zl]) (r := [.ref (h.length + 0), .int zc, .ref (u 6)]) (cc := (5, [.int 0, .int 0, .int 0, .int 0, .int 0, .null, .null, .int 0, .null, .null, .null, .null, .int 0])) wk_q20 (show wk_at wk_m20 84 40 49 4 1 0 = true by decide +kernel) (n_at.trans rfl) rfl rfl (Nat.le_of_ble_eq_true rfl) (mj := am_m49) rfl ⟨by decide, by decide, Nat.le_of_ble_eq_true rfl⟩ ?_
  refine n_ctor (fun ws w1 w2 => ⟨none, _, 6, 40, rfl, ?_⟩)
  have c3 : ab_b (3 : Int32) = 2147483651 := by decide
  have c4 : ab_b (4 : Int32) = 2147483652 := by decide
  have c8' : ab_b (8 : Int32) = 2147483656 := by decide
  obtain ⟨l1, l2⟩ := i1
  obtain ⟨t1, t2⟩ := i2
  obtain ⟨a1, a2⟩ := i3
  rw [c4] at l2
  rw [c3] at t2
  rw [c8'] at a2
  have hI1 : ab_I w_kd w_un (w_G3 mc) (j_tau τ h.length) 2147483648 (h ++ n_cells h.length zc zt za zl ws) := j_grow (m := 0) hmc8 ⟨Nat.le_refl _, by decide⟩ hJ.1 (by omega) ⟨t1, by omega⟩ ⟨a1, by omega⟩ ⟨l1, by omega⟩ w1 w2
  have hU1 : ab_U w_uq (j_tau τ h.length) u := j_tau_U hU
  have hut1 : ∀ k, w_uq k = true → j_tau τ h.length (u k) = k := j_tau_ut hut hJ.1
  have old : ∀ a i, τ a ≠ 0 → ab_sl (h ++ n_cells h.length zc zt za zl ws) a i = ab_sl h a i := fun a i ha => by
    unfold ab_sl
    rw [List.getElem?_append_left (ab_typed hJ.1 ha)]
  have hto : ∀ a, τ a ≠ 0 → j_tau τ h.length a = τ a := fun a ha => j_tau_o (ab_typed hJ.1 ha)
  have new0 : j_tau τ h.length (h.length + 0) = 32 := j_tau_n (by decide)
  have hLn : ∀ i, ab_sl (h ++ n_cells h.length zc zt za zl ws) (h.length + 0) i = [Value.int zc, .int zt, .int za, .int zl, .int 1, .ref (h.length + 1), .ref (h.length + 2), .int 0, .ref (h.length + 3), .ref (h.length + 4), .ref (h.length + 5), .ref (h.length + 6), .int (-8)][i]? := fun i => ab_sl_at (t := 5) (n_at.trans rfl) i
  have newne : ∀ a, τ a ≠ 0 → a ≠ h.length + 0 := fun a ha e => by have := ab_typed hJ.1 ha; omega
  have v1 : j_tau τ h.length (u 1) = 1 := hut1 1 (by decide +kernel)
  have v6 : j_tau τ h.length (u 6) = 6 := hut1 6 (by decide +kernel)
  have v3 : j_tau τ h.length (u 3) = 3 := hut1 3 (by decide +kernel)
  have v10 : j_tau τ h.length (u 1) ≠ 0 := by rw [v1]; decide
  have kv1 : (w_kd (j_tau τ h.length (u 1))).1 = 0 := by rw [v1]; rfl
  generalize hτ : j_tau τ h.length = σ at hI1 hU1 hut1 hto new0 v1 v6 v3 v10 kv1
  generalize hH1 : h ++ n_cells h.length zc zt za zl ws = H1 at hI1 old hLn
  have lenH1 : H1.length = h.length + 7 := by rw [← hH1, List.length_append]; rfl
  have hP1 : rs_H w_kd w_un (w_G3 mc) σ 2147483648 j_mg3 H1 H1 0 := ⟨hI1, fun a _ => ⟨fun _ => rfl, fun _ _ _ => rfl⟩, rfl⟩
  have hmm : Nat.beq mc mc = true := Nat.beq_refl mc
  refine rs_aas (cmp := am_cmp) (n := mc) wk_q20 (show wk_at wk_m20 87 34 0 0 0 0 = true by decide +kernel) hP1 (by rw [v6]; decide) (by rw [new0]; decide) (by rw [v6, new0]; rfl) (by omega) (by omega) (by rw [v6]; show mc < 8; exact hmc8) (by rw [v6]; exact j_b6 mc hmc8) (by rw [v6]; exact ⟨(2, 32, 0), j_g36 mc hmc8, _, rfl, new0, by decide⟩) (fun H2 hP2 e2 => ?_)
  refine rs_st (cmp := am_cmp) wk_q20 (show wk_at wk_m20 88 3 0 1 0 0 = true by decide +kernel) rfl ?_
  refine rs_st (cmp := am_cmp) wk_q20 (show wk_at wk_m20 89 18 0 0 0 0 = true by decide +kernel) rfl ?_
  have s1 : ∀ i, ab_sl H2 (u 1) i = ab_sl h (u 1) i := fun i => by rw [e2, if_neg (fun z => hud 1 6 (by decide +kernel) (by decide +kernel) (by decide) z.1)]; exact old _ _ hu0
  refine rs_get (cmp := am_cmp) (Gm := w_G3 mc) (τ := σ) (tv := 2147483648) wk_q20 (show wk_at wk_m20 90 25 0 5 0 0 = true by decide +kernel) hP2.1 v10 kv1 (v := .int zc) (by rw [s1]; exact hzc) ?_
  refine rs_st (cmp := am_cmp) wk_q20 (show wk_at wk_m20 93 1 9 1 0 0 = true by decide +kernel) rfl ?_
  refine rs_st (cmp := am_cmp) wk_q20 (show wk_at wk_m20 94 7 0 0 0 0 = true by decide +kernel) rfl ?_
  have hinc := ab_b_add (x := zc) (y := Int32.ofNat (9 / 8)) (by omega) (by omega)
  refine rs_put2 (cmp := am_cmp) wk_q20 (show wk_at wk_m20 95 26 0 5 0 0 = true by decide +kernel) hP2 v10 kv1 (by rw [v1]; decide) rfl (by rw [v1]; decide +kernel) (by rw [v1]; exact ⟨w_e (Nat.add mc 1), List.mem_cons_of_mem _ List.mem_cons_self, _, rfl, by show Nat.add 2147483648 (Nat.add mc 1) ≤ _; rw [md_a, md_a]; omega, by show _ ≤ Nat.add 2147483648 (Nat.add mc 1); rw [md_a, md_a]; omega⟩) (fun H3 hP3 e3 => ?_)
  have x3 : ∀ a i, τ a ≠ 0 → (a = u 6 → i ≠ mc) → (a = u 1 → i ≠ 5) → ab_sl H3 a i = ab_sl h a i := fun a i ha h6 h1 => by rw [e3, if_neg (fun z => h1 z.1 z.2), e2, if_neg (fun z => h6 z.1 z.2)]; exact old a i ha
  have x6 : ab_sl H3 (u 6) mc = some (.ref (h.length + 0)) := by rw [e3, if_neg (fun z => hud 6 1 (by decide +kernel) (by decide +kernel) (by decide) z.1), e2, if_pos ⟨rfl, rfl⟩]
  have xL : ∀ i, ab_sl H3 (h.length + 0) i = ab_sl H1 (h.length + 0) i := fun i => by rw [e3, if_neg (fun z => newne (u 1) hu0 z.1.symm), e2, if_neg (fun z => newne (u 6) (by rw [u6]; decide) z.1.symm)]
  have hI3 : ab_I w_kd w_un (w_G2 mc) σ 2147483648 H3 := j_to2 hU1 hP3.1 ⟨_, by rw [e3, if_pos ⟨rfl, rfl⟩], by omega⟩ x6 new0
  have eu : ∀ k i, w_uq k = true → k ≠ 0 → k ≠ 1 → k ≠ 6 → ab_sl H3 (u k) i = ab_sl h (u k) i := fun k i hk k0 k1 k6 => x3 _ _ (by rw [hut k hk]; exact k0) (fun e => absurd e (hud k 6 hk (by decide +kernel) k6)) (fun e => absurd e (hud k 1 hk (by decide +kernel) k1))
  obtain ⟨j1, j2, j3, ⟨z4, z4s, z4t⟩, ⟨z5, z5s, z5t⟩, ⟨z6, z6s, z6t⟩, j7⟩ := hJ
  obtain ⟨zq, hzq, qq1, qq2⟩ := md_fld hut j1 (i := 25) (lo := Nat.add 2147483648 mc) (hi := Nat.add 2147483648 mc) (by decide) rfl
  rw [md_a] at qq1 qq2
  have hH3 : j_H σ u mc Tc Tm zt za H3 := by
    refine ⟨hI3, fun a ha => ?_, ?_, ⟨z4, by rw [eu 40 _ (by decide +kernel) (by decide) (by decide) (by decide)]; exact z4s, z4t⟩, ⟨z5, by rw [x3 _ _ hu0 (fun e => absurd e (hud 1 6 (by decide +kernel) (by decide +kernel) (by decide))) (fun _ => by decide)]; exact z5s, z5t⟩, ⟨z6, by rw [eu 40 _ (by decide +kernel) (by decide) (by decide) (by decide)]; exact z6s, z6t⟩, ⟨zq, by rw [eu 40 _ (by decide +kernel) (by decide) (by decide) (by decide)]; exact hzq, by omega⟩, fun i hi => ?_, h.length + 0, x6, new0, by rw [xL, hLn]; rfl, by rw [xL, hLn]; rfl⟩
    · have ha0 : τ a = 22 := by
        rw [← hτ] at ha
        unfold j_tau at ha
        split at ha
        · omega
        · exact ha
      have n0 : τ a ≠ 0 := by rw [ha0]; decide
      have n6 : a ≠ u 6 := fun e => by rw [e, u6] at ha0; cases ha0
      have n1 : a ≠ u 1 := fun e => by rw [e, hu] at ha0; cases ha0
      rw [x3 a _ n0 (fun e => absurd e n6) (fun e => absurd e n1), x3 a _ n0 (fun e => absurd e n6) (fun e => absurd e n1), x3 a _ n0 (fun e => absurd e n6) (fun e => absurd e n1)]
      exact kc_al_mono (j2 a ha0)
    · refine km_same (fun k hk i => ?_) (eu 40 19 (by decide +kernel) (by decide) (by decide) (by decide)) j3
      simp only [List.mem_cons, List.not_mem_nil, or_false] at hk
      rcases hk with rfl | rfl | rfl | rfl | rfl | rfl | rfl | rfl | rfl <;> exact eu _ _ (by decide +kernel) (by decide) (by decide) (by decide)
    · obtain ⟨y, z1, z2, h1, h2, h3, h4, h5⟩ := j7 i hi
      have hy := j_rel32 hmc hut (Tc := Tc) (Tm := Tm) ⟨j1, j2, j3, ⟨z4, z4s, z4t⟩, ⟨z5, z5s, z5t⟩, ⟨z6, z6s, z6t⟩, j7⟩ hi h1
      have n0 : τ y ≠ 0 := by rw [hy]; decide
      have n6 : y ≠ u 6 := fun e => by rw [e, u6] at hy; cases hy
      have n1 : y ≠ u 1 := fun e => by rw [e, hu] at hy; cases hy
      exact ⟨y, z1, z2, by rw [x3 _ _ (by rw [u6]; decide) (fun _ => by omega) (fun e => absurd e (hud 6 1 (by decide +kernel) (by decide +kernel) (by decide)))]; exact h1, by rw [x3 y _ n0 (fun e => absurd e n6) (fun e => absurd e n1)]; exact h2, by rw [eu 59 _ (by decide +kernel) (by decide) (by decide) (by decide)]; exact h3, by rw [x3 y _ n0 (fun e => absurd e n6) (fun e => absurd e n1)]; exact h4, by rw [eu 60 _ (by decide +kernel) (by decide) (by decide) (by decide)]; exact h5⟩
  refine rs_st (cmp := am_cmp) wk_q20 (show wk_at wk_m20 98 3 0 1 0 0 = true by decide +kernel) rfl ?_
  refine rs_get (cmp := am_cmp) (Gm := w_G2 mc) (τ := σ) (tv := 2147483648) wk_q20 (show wk_at wk_m20 99 25 0 1 0 0 = true by decide +kernel) hI3 v10 kv1 (v := .ref (u 3)) (j_row1 (mc := mc) hU1 hI3 v10 (by rw [v1]; decide) (by rw [v1]; rfl) (by decide +kernel)) ?_
  refine rs_st (cmp := am_cmp) wk_q20 (show wk_at wk_m20 102 2 1 1 0 0 = true by decide +kernel) rfl ?_
  refine rs_st (cmp := am_cmp) wk_q20 (show wk_at wk_m20 103 2 4 2 0 0 = true by decide +kernel) rfl ?_
  refine rs_st (cmp := am_cmp) wk_q20 (show wk_at wk_m20 105 2 1 1 0 0 = true by decide +kernel) rfl ?_
  refine rs_st (cmp := am_cmp) wk_q20 (show wk_at wk_m20 106 3 0 1 0 0 = true by decide +kernel) rfl ?_
  refine rs_get (cmp := am_cmp) (Gm := w_G2 mc) (τ := σ) (tv := 2147483648) wk_q20 (show wk_at wk_m20 107 25 0 4 0 0 = true by decide +kernel) hI3 v10 kv1 (v := .ref (u 6)) (j_row1 (mc := mc) hU1 hI3 v10 (by rw [v1]; decide) (by rw [v1]; rfl) (by decide +kernel)) ?_
  refine rs_st (cmp := am_cmp) wk_q20 (show wk_at wk_m20 110 2 4 2 0 0 = true by decide +kernel) rfl ?_
  have hix : ab_b zc - 2147483648 = mc := by omega
  refine rs_aal (cmp := am_cmp) wk_cmp_ok wk_q20 (show wk_at wk_m20 112 30 0 0 0 0 = true by decide +kernel) hI3 (by rw [v6]; decide) (by rw [v6]; decide) (by omega) (y := h.length + 0) (by rw [hix]; exact x6) ?_
  refine rs_get (cmp := am_cmp) (Gm := w_G2 mc) (τ := σ) (tv := 2147483648) wk_q20 (show wk_at wk_m20 113 25 5 4 0 0 = true by decide +kernel) hI3 (by rw [new0]; decide) (by rw [new0]; rfl) (v := .int 1) (by rw [xL, hLn]; rfl) ?_
  refine rs_st (cmp := am_cmp) wk_q20 (show wk_at wk_m20 116 3 0 1 0 0 = true by decide +kernel) rfl ?_
  obtain ⟨z5c, z5cs, z5ct⟩ := hH3.2.2.2.2.1
  refine rs_get (cmp := am_cmp) (Gm := w_G2 mc) (τ := σ) (tv := 2147483648) wk_q20 (show wk_at wk_m20 117 25 0 6 0 0 = true by decide +kernel) hI3 v10 kv1 z5cs ?_
  refine rs_iv (as := [.int zl, .int zc, .int zl, .int 1, .int z5c]) (r := []) wk_q20 (show wk_at wk_m20 120 40 80 5 2 8 = true by decide +kernel) hI3 (x := u 3) (by rw [v3]; decide) (by rw [v3]; rfl) rfl rfl (Nat.le_of_ble_eq_true rfl) (mj := am_m80) rfl ⟨by decide, by decide, Nat.le_of_ble_eq_true rfl⟩ ?_
  have gtop : ∀ z : Int32, ab_g σ 2147483648 (kc_rho u 0) ab_top (.int z) := fun z => ab_g_0.mpr ⟨z, rfl, Nat.zero_le _, Nat.le_of_lt_succ (ab_b_lt z)⟩
  refine rs_cv (as := [.ref (u 3), .int zl, .int zc, .int zl, .int 1, .int z5c]) (ρ := kc_rho u 0) (j_V80 (u := u) hmc8 ⟨Nat.le_refl _, by decide⟩ hU1) rfl kc_rho_ad hI3 trivial ⟨Or.inr ⟨rfl, v3, by decide⟩, Or.inr (ab_g_0.mpr ⟨zl, rfl, l1, by show _ ≤ 2147483651; omega⟩), Or.inr (ab_g_0.mpr ⟨zc, rfl, by show 2147483648 ≤ _; omega, by show _ ≤ 2147483655; omega⟩), Or.inr (ab_g_0.mpr ⟨zl, rfl, l1, by show _ ≤ 2147483651; omega⟩), Or.inr (gtop _), Or.inr (gtop _), trivial⟩ (fun f hf => by cases hf) (by intro e he; have := List.mem_singleton.mp he; subst this; decide) rfl (fun v H4 k' q' hPo => ⟨v, H4, k', q', rfl, ?_⟩)
  obtain ⟨e, he, hend0, hHp, -⟩ := hPo
  have := List.mem_singleton.mp he
  subst this
  rcases hend0 with ⟨-, hv⟩ | ⟨h1, -⟩ | ⟨h1, -⟩
  rotate_left
  · cases h1
  · cases h1
  have hv : v = none := Sum.inl.inj hv
  subst hv
  obtain ⟨c1', -, c3', c4', -, -, hk', hq'⟩ := hHp
  obtain rfl : k' = 0 := Nat.le_zero.mp hk'
  obtain rfl : q' = 0 := Nat.le_zero.mp hq'
  have hs4 : ∀ a i, σ a ∈ j_kl → ab_sl H4 a i = ab_sl H3 a i := fun a i hk => j_fr2 hI3 c1' c3' (fun e => by rw [e] at hk; exact absurd hk (by decide)) (j_w161 (σ a) hk) i
  have hH4 := j_Hs hut1 hmc8 hH3 c1' hs4
  refine rs_st (cmp := am_cmp) wk_q20 (show wk_at wk_m20 123 2 4 2 0 0 = true by decide +kernel) rfl ?_
  refine rs_en (cmp := am_cmp) wk_q20 (show wk_at wk_m20 125 44 0 0 0 0 = true by decide +kernel) rfl (Or.inr (Or.inr ⟨ok1, hmc8, zc, H4, σ, rfl, by omega, ⟨e8, fun i hi hx => ok2.2 i hi ?_⟩, hU1, hut1, hH4, by have l2 : H2.length = H1.length := hP2.2.2; have l3 : H3.length = H1.length := hP3.2.2; have l4 : H4.length = H3.length := c4'; omega⟩))
  have w59 : σ (u 59) = 59 := hut1 59 (by decide +kernel)
  have w60 : σ (u 60) = 60 := hut1 60 (by decide +kernel)
  rw [hs4 (u 59) _ (by rw [w59]; decide), hs4 (u 60) _ (by rw [w60]; decide), eu 59 _ (by decide +kernel) (by decide) (by decide) (by decide), eu 60 _ (by decide +kernel) (by decide) (by decide) (by decide)] at hx
  exact hx
