/-! ===== by hand: a frame's copy ===== -/
theorem wk_cmp_ok : ∀ t, 103 ≤ t → t ≤ 106 → (am_cmp t).isSome = true := fun t h1 h2 => by
  have : t = 103 ∨ t = 104 ∨ t = 105 ∨ t = 106 := by omega
  rcases this with rfl | rfl | rfl | rfl <;> rfl
abbrev cl_Rn := @Rn am_fty am_dfl am_cmp am_lk am_ms am_cx
abbrev cl_Vd (mc : Nat) (τ u : Nat → Nat) (tv : Nat) := ab_Vd am_fty am_dfl am_cmp am_lk am_ms am_cx w_kd w_un w_uq (w_G mc) τ u tv (kc_K τ mc) (kc_P u) (fun _ => 0)
abbrev cl_H (mc : Nat) (τ : Nat → Nat) (tv : Nat) := rs_H w_kd w_un (w_G mc) τ tv
theorem cl_Hp {mc : Nat} {τ u : Nat → Nat} {tv wr : Nat} {h0 h : am_H} {k q : Nat} {g : ab_G} (hP : cl_H mc τ tv wr h0 h k) (hK : kc_K τ mc h) (h1 : kc_P u h + 1000 ≤ kc_P u h0 + g.1) (h2 : 1000 ≤ g.2.1) (hk : k ≤ g.2.2.1) (hq : q ≤ g.2.2.2) : ab_Hp w_kd w_un (w_G mc) τ tv (kc_K τ mc) (kc_P u) (fun _ => 0) wr h0 h k q g := ⟨hP.1, hK, hP.2.1, hP.2.2, h1, by simpa using h2, hk, hq⟩
theorem cl_0 {mc : Nat} {τ : Nat → Nat} {tv wr : Nat} {h : am_H} (hI : ab_I w_kd w_un (w_G mc) τ tv h) : cl_H mc τ tv wr h h 0 := ⟨hI, fun a _ => ⟨fun _ => rfl, fun _ _ _ => rfl⟩, rfl⟩
def kc_copy : ab_C := ([(1, 353, 0), (1, 354, 0)], [], [(0, (3, 0, 0), [])], 0x1f0000000000000000000000000000000000000000000000000000000000000000000000000000000000000000000000000000000000000000000000000000000000000000000000000000000000000000000000000000000000000000000000000000000000000000000000000000000000000000000000000000000000000000000000000000000000000000000000000000000000000000000000000000000000000000000000000000000000000000, w_g0)
theorem kc_frame {mc : Nat} {τ : Nat → Nat} {tv : Nat} {h : am_H} (hI : ab_I w_kd w_un (w_G mc) τ tv h) {y : Nat} (hy : τ y = 22) (i : Nat) (hi : i < 5) : ∃ z : Int32, ab_sl h y i = some (.int z) ∧ ∃ w ∈ w_G mc 22 (ab_gi w_un 22 i), ab_gc τ tv w (.int z) := by
  obtain ⟨vs, x, -, -, -, hs, w, hw, hg⟩ := ab_I_sl hI (a := y) (i := i) (by rw [hy]; decide) (by rw [hy]; exact hi)
  rw [hy] at hw
  have ht : w.1 = 0 := by
    have : (w_G mc 22 (ab_gi w_un 22 i)).all (fun w => Nat.beq w.1 0) = true := by
      match i, hi with
      | 0, _ => rfl
      | 1, _ => rfl
      | 2, _ => rfl
      | 3, _ => rfl
      | 4, _ => rfl
    exact ab_beq (List.all_eq_true.mp this w hw)
  obtain ⟨t, a, b⟩ := w
  have ht : t = 0 := ht
  subst ht
  obtain ⟨z, rfl, z1, z2⟩ := hg
  exact ⟨z, hs, (0, a, b), hw, z, rfl, z1, z2⟩
set_option maxRecDepth 100000 in
theorem kc_copy_ok {mc : Nat} {τ u : Nat → Nat} {tv : Nat} (hut : ∀ k, w_uq k = true → τ (u k) = k) : cl_Vd mc τ u tv 44 kc_copy := by
  intro mj hmj ρ h as had hI hK hA hF
  have hmj : am_m44 = mj := Option.some.inj hmj
  subst hmj
  match as, hA with
  | [v1, v2], hA =>
    obtain ⟨e1 | ⟨rfl, x1, x2⟩, e2 | ⟨rfl, y1, y2⟩, -⟩ := hA
    · cases e1
    · cases e1
    · cases e2
    have x1 : τ (ρ 353) = 22 := x1
    have y1 : τ (ρ 354) = 22 := y1
    generalize ρ 353 = x at x1
    generalize ρ 354 = y at y1
    have hx0 : τ x ≠ 0 := by rw [x1]; decide
    have hy0 : τ y ≠ 0 := by rw [y1]; decide
    have hkx : (w_kd (τ x)).1 = 3 := by rw [x1]; rfl
    have hky : (w_kd (τ y)).1 = 3 := by rw [y1]; rfl
    obtain ⟨z0, hz0, g0⟩ := kc_frame hI y1 0 (by decide)
    obtain ⟨z1, hz1, g1⟩ := kc_frame hI y1 1 (by decide)
    obtain ⟨z2, hz2, g2⟩ := kc_frame hI y1 2 (by decide)
    obtain ⟨z3, hz3, g3⟩ := kc_frame hI y1 3 (by decide)
    obtain ⟨z4, hz4, g4⟩ := kc_frame hI y1 4 (by decide)
    have hP0 : cl_H mc τ tv 0x1f0000000000000000000000000000000000000000000000000000000000000000000000000000000000000000000000000000000000000000000000000000000000000000000000000000000000000000000000000000000000000000000000000000000000000000000000000000000000000000000000000000000000000000000000000000000000000000000000000000000000000000000000000000000000000000000000000000000000000000 h h 0 := cl_0 hI
    show cl_Rn am_m44 (0, [some (.ref x), some (.ref y)], [], h, 0, 0) _
    refine rs_st (cmp := am_cmp) wk_q44 (show wk_at wk_m44 0 3 0 1 0 0 = true by decide +kernel) rfl ?_
    refine rs_st (cmp := am_cmp) wk_q44 (show wk_at wk_m44 1 3 1 1 0 0 = true by decide +kernel) rfl ?_
    refine rs_get wk_q44 (show wk_at wk_m44 2 25 3 0 0 0 = true by decide +kernel) hP0.1 hy0 hky (v := .int z0) ?_ ?_
    · exact hz0
    refine rs_put wk_q44 (show wk_at wk_m44 5 26 3 0 0 0 = true by decide +kernel) hP0 hx0 hkx (by rw [x1]; decide) rfl (by rw [x1]; decide +kernel) (by rw [x1]; exact g0) (fun h1 hP1 e1 => ?_)
    refine rs_st (cmp := am_cmp) wk_q44 (show wk_at wk_m44 8 3 0 1 0 0 = true by decide +kernel) rfl ?_
    refine rs_st (cmp := am_cmp) wk_q44 (show wk_at wk_m44 9 3 1 1 0 0 = true by decide +kernel) rfl ?_
    refine rs_get wk_q44 (show wk_at wk_m44 10 25 3 1 0 0 = true by decide +kernel) hP1.1 hy0 hky (v := .int z1) ?_ ?_
    · rw [e1, if_neg (by omega)]; exact hz1
    refine rs_put wk_q44 (show wk_at wk_m44 13 26 3 1 0 0 = true by decide +kernel) hP1 hx0 hkx (by rw [x1]; decide) rfl (by rw [x1]; decide +kernel) (by rw [x1]; exact g1) (fun h2 hP2 e2 => ?_)
    refine rs_st (cmp := am_cmp) wk_q44 (show wk_at wk_m44 16 3 0 1 0 0 = true by decide +kernel) rfl ?_
    refine rs_st (cmp := am_cmp) wk_q44 (show wk_at wk_m44 17 3 1 1 0 0 = true by decide +kernel) rfl ?_
    refine rs_get wk_q44 (show wk_at wk_m44 18 25 3 2 0 0 = true by decide +kernel) hP2.1 hy0 hky (v := .int z2) ?_ ?_
    · rw [e2, if_neg (by omega), e1, if_neg (by omega)]; exact hz2
    refine rs_put wk_q44 (show wk_at wk_m44 21 26 3 2 0 0 = true by decide +kernel) hP2 hx0 hkx (by rw [x1]; decide) rfl (by rw [x1]; decide +kernel) (by rw [x1]; exact g2) (fun h3 hP3 e3 => ?_)
    refine rs_st (cmp := am_cmp) wk_q44 (show wk_at wk_m44 24 3 0 1 0 0 = true by decide +kernel) rfl ?_
    refine rs_st (cmp := am_cmp) wk_q44 (show wk_at wk_m44 25 3 1 1 0 0 = true by decide +kernel) rfl ?_
    refine rs_get wk_q44 (show wk_at wk_m44 26 25 3 3 0 0 = true by decide +kernel) hP3.1 hy0 hky (v := .int z3) ?_ ?_
    · rw [e3, if_neg (by omega), e2, if_neg (by omega), e1, if_neg (by omega)]; exact hz3
    refine rs_put wk_q44 (show wk_at wk_m44 29 26 3 3 0 0 = true by decide +kernel) hP3 hx0 hkx (by rw [x1]; decide) rfl (by rw [x1]; decide +kernel) (by rw [x1]; exact g3) (fun h4 hP4 e4 => ?_)
    refine rs_st (cmp := am_cmp) wk_q44 (show wk_at wk_m44 32 3 0 1 0 0 = true by decide +kernel) rfl ?_
    refine rs_st (cmp := am_cmp) wk_q44 (show wk_at wk_m44 33 3 1 1 0 0 = true by decide +kernel) rfl ?_
    refine rs_get wk_q44 (show wk_at wk_m44 34 25 3 4 0 0 = true by decide +kernel) hP4.1 hy0 hky (v := .int z4) ?_ ?_
    · rw [e4, if_neg (by omega), e3, if_neg (by omega), e2, if_neg (by omega), e1, if_neg (by omega)]; exact hz4
    refine rs_put wk_q44 (show wk_at wk_m44 37 26 3 4 0 0 = true by decide +kernel) hP4 hx0 hkx (by rw [x1]; decide) rfl (by rw [x1]; decide +kernel) (by rw [x1]; exact g4) (fun h5 hP5 e5 => ?_)
    refine rs_en (cmp := am_cmp) wk_q44 (show wk_at wk_m44 40 46 0 0 0 0 = true by decide +kernel) rfl ?_
    refine ⟨_, List.mem_singleton_self _, Or.inl ⟨rfl, rfl⟩, cl_Hp hP5 ?_ ?_ (Nat.le_refl _) (Nat.le_refl _) (Nat.le_refl _), fun f hf => by cases hf⟩
    rotate_left
    · have hu5 : τ (u 5) = 5 := hut 5 (by decide +kernel)
      have hux : u 5 ≠ x := fun e => by rw [e, x1] at hu5; cases hu5
      have ks : ab_sl h5 (u 5) 2 = ab_sl h (u 5) 2 := by rw [e5, if_neg (fun z => hux z.1), e4, if_neg (fun z => hux z.1), e3, if_neg (fun z => hux z.1), e2, if_neg (fun z => hux z.1), e1, if_neg (fun z => hux z.1)]
      unfold kc_P
      rw [ks]
      exact Nat.le_refl _
    intro a ha
    by_cases e : a = x
    · subst e
      have k0 : ab_sl h5 a 0 = ab_sl h y 0 := by rw [e5, if_neg (by omega), e4, if_neg (by omega), e3, if_neg (by omega), e2, if_neg (by omega), e1, if_pos ⟨rfl, rfl⟩, hz0]
      have k3 : ab_sl h5 a 3 = ab_sl h y 3 := by rw [e5, if_neg (by omega), e4, if_pos ⟨rfl, rfl⟩, hz3]
      have k4 : ab_sl h5 a 4 = ab_sl h y 4 := by rw [e5, if_pos ⟨rfl, rfl⟩, hz4]
      rw [k0, k3, k4]
      exact hK y y1
    · have ks : ∀ i, ab_sl h5 a i = ab_sl h a i := fun i => by rw [e5, if_neg (fun z => e z.1), e4, if_neg (fun z => e z.1), e3, if_neg (fun z => e z.1), e2, if_neg (fun z => e z.1), e1, if_neg (fun z => e z.1)]
      rw [ks, ks, ks]
      exact hK a ha
  | [], hA => exact hA.elim
  | [_], hA => exact hA.2.elim
  | _ :: _ :: _ :: _, hA => exact hA.2.2.elim
