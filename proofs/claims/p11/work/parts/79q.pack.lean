/-! ===== the reference: forward's contract, pack ===== -/
/-- what is wanted of hopOf's ends: a hop of the first m + 1, where there may be one -/
def md_hl (N m b : Nat) (l : List (Nat × ab_V × List ab_F)) : Prop := ∀ e ∈ l, e.1 = 1 ∧ e.2.1.1 = 0 ∧ (e.2.1.2.2 < 2147483648 ∨ (b < N ∧ e.2.1.2.2 ≤ 2147483648 + m))
theorem md_fwd_ok {mc : Nat} {τ u : Nat → Nat} {tv : Nat} (hU : ab_U w_uq τ u) (hut : ∀ k, w_uq k = true → τ (u k) = k) (hmc : Nat.beq mc 0 = false) (hVp : md_Vd mc τ u tv 116 md_port) (hVh1 : ∀ n, n < 4 → ∀ b, b ≤ 2 → ∃ l, md_hl 2 1 b l ∧ md_Vd mc τ u tv 100 (md_hop n b l)) (hVh2 : ∀ n, 4 ≤ n → n < 6 → ∀ b, b ≤ 4 → ∃ l, md_hl 4 3 b l ∧ md_Vd mc τ u tv 100 (md_hop n b l)) (hVl1 : md_Vd mc τ u tv 107 (md_lnk 0 3 0 1)) (hVl2 : md_Vd mc τ u tv 107 (md_lnk 4 5 0 3)) (hVn1 : md_Vd mc τ u tv 111 (md_nb 0 3 0 1 4 5)) (hVn2 : md_Vd mc τ u tv 111 (md_nb 4 5 0 3 0 3)) : md_Vd mc τ u tv 93 md_fwd := by
  intro mj hmj ρ h as had hI hK hA hF
  have hmj : am_m93 = mj := Option.some.inj hmj
  subst hmj
  match as, hA with
  | [v0, v1, v2], hA =>
    obtain ⟨h0, h1, h2, -⟩ := hA
    rcases h0 with h0 | ⟨rfl, x1, x2⟩
    · cases h0
    rcases h1 with h1 | ⟨zk, rfl, k1, k2⟩
    · cases h1
    rcases h2 with h2 | ⟨zn, rfl, n1, n2⟩
    · cases h2
    have hx : ρ 640 = u 40 := had 40 (by decide +kernel)
    have k1 : 2147483718 ≤ ab_b zk := k1
    have k2 : ab_b zk ≤ 2147483719 := k2
    have n1 : 2147483648 ≤ ab_b zn := n1
    have n2 : ab_b zn ≤ 2147483653 := n2
    obtain ⟨nk, hnk⟩ : ∃ n, ab_b zk - 2147483648 = n := ⟨_, rfl⟩
    show cl_Rn am_m93 (0, [some (.ref (ρ 640)), some (.int zk), some (.int zn), none, none], [], h, 0, 0) _
    rw [hx]
    obtain ⟨n, hn⟩ : ∃ n, ab_b zn = Nat.add 2147483648 n := ⟨ab_b zn - 2147483648, by rw [md_a]; omega⟩
    have hn' := hn
    rw [md_a] at hn'
    have conv : ∀ {N m : Nat}, (∀ b, b ≤ N → ∃ l, md_hl N m b l ∧ md_Vd mc τ u tv 100 (md_hop n b l)) → ∀ zl : Int32, 2147483648 ≤ ab_b zl → ab_b zl ≤ 2147483651 → ∀ b, b ≤ N → ∀ zj : Int32, ab_b zj = Nat.add 2147483648 b → ∃ z, md_HO u h zn zl zj z ∧ (ab_b z < 2147483648 ∨ (b < N ∧ ab_b z ≤ 2147483648 + m)) := fun {N m} hV zl l1 l2 b hb zj hj => by
      obtain ⟨l, hl, hV⟩ := hV b hb
      obtain ⟨z, hz, e, he, -, e2⟩ := md_HO_of hut hI hK (fun e he => ⟨(hl e he).1, (hl e he).2.1⟩) hV hn hj l1 l2
      refine ⟨z, hz, ?_⟩
      rcases (hl e he).2.2 with h1 | ⟨h1, h2⟩
      · exact Or.inl (by omega)
      · exact Or.inr ⟨h1, by omega⟩
    by_cases hc : n < 4
    · exact md_fwd_core hU hut hmc hI hK hVp (by omega) hnk (by omega) (N := 2) (m := 1) (a := 0) (b := 3) (e := 4) (f := 5) (by decide) (conv (hVh1 n hc)) (by rw [md_a]; omega) (by rw [md_a]; omega) (by decide) hVl1 hVn1 md_fwd rfl
    · exact md_fwd_core hU hut hmc hI hK hVp (by omega) hnk (by omega) (N := 4) (m := 3) (a := 4) (b := 5) (e := 0) (f := 3) (by decide) (conv (hVh2 n (by omega) (by omega))) (by rw [md_a]; omega) (by rw [md_a]; omega) (by decide) hVl2 hVn2 md_fwd rfl
  | [], hA => exact hA.elim
  | [_], hA => exact hA.2.elim
  | [_, _], hA => exact hA.2.2.elim
  | _ :: _ :: _ :: _ :: _, hA => exact hA.2.2.2.elim
def md_pack (k r a b : ab_V) (mc : Nat) : ab_C := ([(1, 640, 0), k, w_mm mc, r, a, b, w_r 0 3], [], [(0, (3, 0, 0), [])], 0x8000000000000000800000000000000080000000000000008000000000000000800000000000000080000000000000008000000000000000800000000000000080000000000000008000000000000000800000000000000000000000000000000000000000000000000000000000008c0000000000000000000000000000000000000000000000000000000000000000000000000000000000000000000000000000000000000000000000000000000000000000000000000000000000000000000000000000000000000000000000000000000000000000000000000000000000000000000000000000000000000000000000000000000000000000000000000000000000000000000000000000000000000000000000000000000000000000000000000000000000000000000000000000000000000000000000000000000000000000000000000000000000000000000000000000000000000000000000000000000000000000000000000000000000000000000000000000000000000000000000000000000000000000000000000000000000000000000000000000000000000000000000000000000000000000, w_g0)
set_option maxRecDepth 100000 in
theorem md_pack_core {mc : Nat} {τ u : Nat → Nat} {tv : Nat} (hU : ab_U w_uq τ u) (hut : ∀ k, w_uq k = true → τ (u k) = k) (hmc8 : mc ≤ 8) {h : am_H} (hI : ab_I w_kd w_un (w_G mc) τ tv h) (hK : km_K u mc h) (hVf : md_Vd mc τ u tv 93 md_fwd) {zk zs zr za zb zl : Int32} (gk : ∃ v ∈ w_G mc 49 0, ab_gc τ tv v (.int zk)) (s1 : 2147483648 ≤ ab_b zs) (s2 : ab_b zs ≤ 2147483648 + (mc - 1)) (gr : ∃ v ∈ w_G mc 51 0, ab_gc τ tv v (.int zr)) (hal : kc_al mc (some (.int zk)) (some (.int za)) (some (.int zb))) (l1 : 2147483648 ≤ ab_b zl) (l2 : ab_b zl ≤ 2147483651) (C : ab_C) (hC : C.2.2 = ([(0, (3, 0, 0), [])], 0x8000000000000000800000000000000080000000000000008000000000000000800000000000000080000000000000008000000000000000800000000000000080000000000000008000000000000000800000000000000000000000000000000000000000000000000000000000008c0000000000000000000000000000000000000000000000000000000000000000000000000000000000000000000000000000000000000000000000000000000000000000000000000000000000000000000000000000000000000000000000000000000000000000000000000000000000000000000000000000000000000000000000000000000000000000000000000000000000000000000000000000000000000000000000000000000000000000000000000000000000000000000000000000000000000000000000000000000000000000000000000000000000000000000000000000000000000000000000000000000000000000000000000000000000000000000000000000000000000000000000000000000000000000000000000000000000000000000000000000000000000000000000000000000000000000, w_g0)) : cl_Rn am_m114 (0, [some (.ref (u 40)), some (.int zk), some (.int zs), some (.int zr), some (.int za), some (.int zb), some (.int zl)], [], h, 0, 0) (ab_Po w_kd w_un (w_G mc) τ u tv (km_K u mc) (km_F u) (km_Q u) C h) := by
  have hu : τ (u 40) = 40 := hut 40 (by decide +kernel)
  have hu0 : τ (u 40) ≠ 0 := by rw [hu]; decide
  have hk40 : (w_kd (τ (u 40))).1 = 9 := by rw [hu]; rfl
  have hud := md_ud hut
  have c71 : ab_b (Int32.ofNat (569 / 8)) = 2147483719 := by decide
  have i71 : 2147483648 ≤ ab_b (Int32.ofNat (569 / 8)) := by rw [c71]; decide
  have n71 : ab_b (Int32.ofNat (569 / 8)) - 2147483648 = 71 := by rw [c71]
  have hP0 : cl_H mc τ tv 0x8000000000000000800000000000000080000000000000008000000000000000800000000000000080000000000000008000000000000000800000000000000080000000000000008000000000000000800000000000000000000000000000000000000000000000000000000000008c0000000000000000000000000000000000000000000000000000000000000000000000000000000000000000000000000000000000000000000000000000000000000000000000000000000000000000000000000000000000000000000000000000000000000000000000000000000000000000000000000000000000000000000000000000000000000000000000000000000000000000000000000000000000000000000000000000000000000000000000000000000000000000000000000000000000000000000000000000000000000000000000000000000000000000000000000000000000000000000000000000000000000000000000000000000000000000000000000000000000000000000000000000000000000000000000000000000000000000000000000000000000000000000000000000000000000000 h h 0 := cl_0 hI
  have gt : ∀ z : Int32, ab_gc τ tv ab_top (.int z) := fun z => ⟨z, rfl, Nat.zero_le _, Nat.le_of_lt_succ (ab_b_lt z)⟩
  obtain ⟨ns, hns⟩ : ∃ n, ab_b zs - 2147483648 = n := ⟨_, rfl⟩
  have hns8 : ns < 8 := by omega
  obtain ⟨zv, hzv, -⟩ := md_int hut hI (k := 62) (i := ns) (by decide +kernel) (by decide) (by decide +kernel) (by exact hns8) rfl
  obtain ⟨zt, hzt, gz, hgz, hgz2⟩ := md_int hut hI (k := 61) (i := ns) (by decide +kernel) (by decide) (by decide +kernel) (by exact hns8) rfl
  have := List.mem_singleton.mp hgz
  subst this
  obtain ⟨ztt, hztt, t1, t2⟩ := hgz2
  cases hztt
  have t1 : 2147483648 ≤ ab_b zt := t1
  have t2 : ab_b zt ≤ 2147483651 := t2
  refine rs_st (cmp := am_cmp) wk_q114 (show wk_at wk_m114 0 3 0 1 0 0 = true by decide +kernel) rfl ?_
  refine md_get hut wk_q114 (show wk_at wk_m114 1 25 9 14 0 0 = true by decide +kernel) hP0.1 (v := .ref (u 49)) (md_row hU hut hP0.1 (i := 14) (k := 49) (by decide) rfl (by decide +kernel)) ?_
  refine rs_st (cmp := am_cmp) wk_q114 (show wk_at wk_m114 4 1 569 2 0 0 = true by decide +kernel) rfl ?_
  refine rs_st (cmp := am_cmp) wk_q114 (show wk_at wk_m114 6 2 1 1 0 0 = true by decide +kernel) rfl ?_
  refine md_ias hut wk_q114 (show wk_at wk_m114 7 31 0 0 0 0 = true by decide +kernel) hP0 (k := 49) (by decide +kernel) (by decide) (by decide +kernel) rfl i71 n71 (by decide) (by decide +kernel) (gk) (fun h1 hP1 e1 => ?_)
  refine rs_st (cmp := am_cmp) wk_q114 (show wk_at wk_m114 8 3 0 1 0 0 = true by decide +kernel) rfl ?_
  refine md_get hut wk_q114 (show wk_at wk_m114 9 25 9 15 0 0 = true by decide +kernel) hP1.1 (v := .ref (u 50)) (md_row hU hut hP1.1 (i := 15) (k := 50) (by decide) rfl (by decide +kernel)) ?_
  refine rs_st (cmp := am_cmp) wk_q114 (show wk_at wk_m114 12 1 569 2 0 0 = true by decide +kernel) rfl ?_
  refine rs_st (cmp := am_cmp) wk_q114 (show wk_at wk_m114 14 2 2 1 0 0 = true by decide +kernel) rfl ?_
  refine md_ias hut wk_q114 (show wk_at wk_m114 15 31 0 0 0 0 = true by decide +kernel) hP1 (k := 50) (by decide +kernel) (by decide) (by decide +kernel) rfl i71 n71 (by decide) (by decide +kernel) (⟨w_mm mc, List.mem_singleton_self _, zs, rfl, s1, s2⟩) (fun h2 hP2 e2 => ?_)
  refine rs_st (cmp := am_cmp) wk_q114 (show wk_at wk_m114 16 3 0 1 0 0 = true by decide +kernel) rfl ?_
  refine md_get hut wk_q114 (show wk_at wk_m114 17 25 9 16 0 0 = true by decide +kernel) hP2.1 (v := .ref (u 51)) (md_row hU hut hP2.1 (i := 16) (k := 51) (by decide) rfl (by decide +kernel)) ?_
  refine rs_st (cmp := am_cmp) wk_q114 (show wk_at wk_m114 20 1 569 2 0 0 = true by decide +kernel) rfl ?_
  refine rs_st (cmp := am_cmp) wk_q114 (show wk_at wk_m114 22 2 3 1 0 0 = true by decide +kernel) rfl ?_
  refine md_ias hut wk_q114 (show wk_at wk_m114 23 31 0 0 0 0 = true by decide +kernel) hP2 (k := 51) (by decide +kernel) (by decide) (by decide +kernel) rfl i71 n71 (by decide) (by decide +kernel) (gr) (fun h3 hP3 e3 => ?_)
  refine rs_st (cmp := am_cmp) wk_q114 (show wk_at wk_m114 24 3 0 1 0 0 = true by decide +kernel) rfl ?_
  refine md_get hut wk_q114 (show wk_at wk_m114 25 25 9 17 0 0 = true by decide +kernel) hP3.1 (v := .ref (u 52)) (md_row hU hut hP3.1 (i := 17) (k := 52) (by decide) rfl (by decide +kernel)) ?_
  refine rs_st (cmp := am_cmp) wk_q114 (show wk_at wk_m114 28 1 569 2 0 0 = true by decide +kernel) rfl ?_
  refine rs_st (cmp := am_cmp) wk_q114 (show wk_at wk_m114 30 2 4 2 0 0 = true by decide +kernel) rfl ?_
  refine md_ias hut wk_q114 (show wk_at wk_m114 32 31 0 0 0 0 = true by decide +kernel) hP3 (k := 52) (by decide +kernel) (by decide) (by decide +kernel) rfl i71 n71 (by decide) (by decide +kernel) (⟨ab_top, List.mem_singleton_self _, gt _⟩) (fun h4 hP4 e4 => ?_)
  refine rs_st (cmp := am_cmp) wk_q114 (show wk_at wk_m114 33 3 0 1 0 0 = true by decide +kernel) rfl ?_
  refine md_get hut wk_q114 (show wk_at wk_m114 34 25 9 18 0 0 = true by decide +kernel) hP4.1 (v := .ref (u 53)) (md_row hU hut hP4.1 (i := 18) (k := 53) (by decide) rfl (by decide +kernel)) ?_
  refine rs_st (cmp := am_cmp) wk_q114 (show wk_at wk_m114 37 1 569 2 0 0 = true by decide +kernel) rfl ?_
  refine rs_st (cmp := am_cmp) wk_q114 (show wk_at wk_m114 39 2 5 2 0 0 = true by decide +kernel) rfl ?_
  refine md_ias hut wk_q114 (show wk_at wk_m114 41 31 0 0 0 0 = true by decide +kernel) hP4 (k := 53) (by decide +kernel) (by decide) (by decide +kernel) rfl i71 n71 (by decide) (by decide +kernel) (⟨ab_top, List.mem_singleton_self _, gt _⟩) (fun h5 hP5 e5 => ?_)
  refine rs_st (cmp := am_cmp) wk_q114 (show wk_at wk_m114 42 3 0 1 0 0 = true by decide +kernel) rfl ?_
  refine md_get hut wk_q114 (show wk_at wk_m114 43 25 9 13 0 0 = true by decide +kernel) hP5.1 (v := .ref (u 48)) (md_row hU hut hP5.1 (i := 13) (k := 48) (by decide) rfl (by decide +kernel)) ?_
  refine rs_st (cmp := am_cmp) wk_q114 (show wk_at wk_m114 46 1 569 2 0 0 = true by decide +kernel) rfl ?_
  refine rs_st (cmp := am_cmp) wk_q114 (show wk_at wk_m114 48 3 0 1 0 0 = true by decide +kernel) rfl ?_
  refine md_get hut wk_q114 (show wk_at wk_m114 49 25 9 29 0 0 = true by decide +kernel) hP5.1 (v := .ref (u 62)) (md_row hU hut hP5.1 (i := 29) (k := 62) (by decide) rfl (by decide +kernel)) ?_
  refine rs_st (cmp := am_cmp) wk_q114 (show wk_at wk_m114 52 2 2 1 0 0 = true by decide +kernel) rfl ?_
  refine md_ial hut wk_q114 (show wk_at wk_m114 53 27 0 0 0 0 = true by decide +kernel) hP5.1 (k := 62) (by decide +kernel) (by decide) rfl s1 hns (v := zv) (by rw [e5, if_neg (fun z => hud 62 53 (by decide +kernel) (by decide +kernel) (by decide) z.1), e4, if_neg (fun z => hud 62 52 (by decide +kernel) (by decide +kernel) (by decide) z.1), e3, if_neg (fun z => hud 62 51 (by decide +kernel) (by decide +kernel) (by decide) z.1), e2, if_neg (fun z => hud 62 50 (by decide +kernel) (by decide +kernel) (by decide) z.1), e1, if_neg (fun z => hud 62 49 (by decide +kernel) (by decide +kernel) (by decide) z.1)]; exact hzv) ?_
  refine md_ias hut wk_q114 (show wk_at wk_m114 54 31 0 0 0 0 = true by decide +kernel) hP5 (k := 48) (by decide +kernel) (by decide) (by decide +kernel) rfl i71 n71 (by decide) (by decide +kernel) (⟨ab_top, List.mem_singleton_self _, gt _⟩) (fun h6 hP6 e6 => ?_)
  refine rs_st (cmp := am_cmp) wk_q114 (show wk_at wk_m114 55 3 0 1 0 0 = true by decide +kernel) rfl ?_
  refine md_get hut wk_q114 (show wk_at wk_m114 56 25 9 11 0 0 = true by decide +kernel) hP6.1 (v := .ref (u 46)) (md_row hU hut hP6.1 (i := 11) (k := 46) (by decide) rfl (by decide +kernel)) ?_
  refine rs_st (cmp := am_cmp) wk_q114 (show wk_at wk_m114 59 1 569 2 0 0 = true by decide +kernel) rfl ?_
  refine rs_st (cmp := am_cmp) wk_q114 (show wk_at wk_m114 61 3 0 1 0 0 = true by decide +kernel) rfl ?_
  refine md_get hut wk_q114 (show wk_at wk_m114 62 25 9 28 0 0 = true by decide +kernel) hP6.1 (v := .ref (u 61)) (md_row hU hut hP6.1 (i := 28) (k := 61) (by decide) rfl (by decide +kernel)) ?_
  refine rs_st (cmp := am_cmp) wk_q114 (show wk_at wk_m114 65 2 2 1 0 0 = true by decide +kernel) rfl ?_
  refine md_ial hut wk_q114 (show wk_at wk_m114 66 27 0 0 0 0 = true by decide +kernel) hP6.1 (k := 61) (by decide +kernel) (by decide) rfl s1 hns (v := zt) (by rw [e6, if_neg (fun z => hud 61 48 (by decide +kernel) (by decide +kernel) (by decide) z.1), e5, if_neg (fun z => hud 61 53 (by decide +kernel) (by decide +kernel) (by decide) z.1), e4, if_neg (fun z => hud 61 52 (by decide +kernel) (by decide +kernel) (by decide) z.1), e3, if_neg (fun z => hud 61 51 (by decide +kernel) (by decide +kernel) (by decide) z.1), e2, if_neg (fun z => hud 61 50 (by decide +kernel) (by decide +kernel) (by decide) z.1), e1, if_neg (fun z => hud 61 49 (by decide +kernel) (by decide +kernel) (by decide) z.1)]; exact hzt) ?_
  refine md_ias hut wk_q114 (show wk_at wk_m114 67 31 0 0 0 0 = true by decide +kernel) hP6 (k := 46) (by decide +kernel) (by decide) (by decide +kernel) rfl i71 n71 (by decide) (by decide +kernel) (⟨w_r 0 3, List.mem_singleton_self _, zt, rfl, t1, t2⟩) (fun h7 hP7 e7 => ?_)
  refine rs_st (cmp := am_cmp) wk_q114 (show wk_at wk_m114 68 3 0 1 0 0 = true by decide +kernel) rfl ?_
  refine md_get hut wk_q114 (show wk_at wk_m114 69 25 9 12 0 0 = true by decide +kernel) hP7.1 (v := .ref (u 47)) (md_row hU hut hP7.1 (i := 12) (k := 47) (by decide) rfl (by decide +kernel)) ?_
  refine rs_st (cmp := am_cmp) wk_q114 (show wk_at wk_m114 72 1 569 2 0 0 = true by decide +kernel) rfl ?_
  refine rs_st (cmp := am_cmp) wk_q114 (show wk_at wk_m114 74 2 6 2 0 0 = true by decide +kernel) rfl ?_
  refine md_ias hut wk_q114 (show wk_at wk_m114 76 31 0 0 0 0 = true by decide +kernel) hP7 (k := 47) (by decide +kernel) (by decide) (by decide +kernel) rfl i71 n71 (by decide) (by decide +kernel) (⟨w_r 0 3, List.mem_singleton_self _, zl, rfl, l1, l2⟩) (fun h8 hP8 e8 => ?_)
  refine rs_st (cmp := am_cmp) wk_q114 (show wk_at wk_m114 77 3 0 1 0 0 = true by decide +kernel) rfl ?_
  refine md_get hut wk_q114 (show wk_at wk_m114 78 25 9 10 0 0 = true by decide +kernel) hP8.1 (v := .ref (u 45)) (md_row hU hut hP8.1 (i := 10) (k := 45) (by decide) rfl (by decide +kernel)) ?_
  refine rs_st (cmp := am_cmp) wk_q114 (show wk_at wk_m114 81 1 569 2 0 0 = true by decide +kernel) rfl ?_
  refine rs_st (cmp := am_cmp) wk_q114 (show wk_at wk_m114 83 1 129 2 0 0 = true by decide +kernel) rfl ?_
  refine md_ias hut wk_q114 (show wk_at wk_m114 85 31 0 0 0 0 = true by decide +kernel) hP8 (k := 45) (by decide +kernel) (by decide) (by decide +kernel) rfl i71 n71 (by decide) (by decide +kernel) (⟨ab_top, List.mem_singleton_self _, gt _⟩) (fun h9 hP9 e9 => ?_)
  refine rs_st (cmp := am_cmp) wk_q114 (show wk_at wk_m114 86 3 0 1 0 0 = true by decide +kernel) rfl ?_
  refine rs_st (cmp := am_cmp) wk_q114 (show wk_at wk_m114 87 1 569 2 0 0 = true by decide +kernel) rfl ?_
  refine rs_st (cmp := am_cmp) wk_q114 (show wk_at wk_m114 89 3 0 1 0 0 = true by decide +kernel) rfl ?_
  refine md_get hut wk_q114 (show wk_at wk_m114 90 25 9 28 0 0 = true by decide +kernel) hP9.1 (v := .ref (u 61)) (md_row hU hut hP9.1 (i := 28) (k := 61) (by decide) rfl (by decide +kernel)) ?_
  refine rs_st (cmp := am_cmp) wk_q114 (show wk_at wk_m114 93 2 2 1 0 0 = true by decide +kernel) rfl ?_
  refine md_ial hut wk_q114 (show wk_at wk_m114 94 27 0 0 0 0 = true by decide +kernel) hP9.1 (k := 61) (by decide +kernel) (by decide) rfl s1 hns (v := zt) (by rw [e9, if_neg (fun z => hud 61 45 (by decide +kernel) (by decide +kernel) (by decide) z.1), e8, if_neg (fun z => hud 61 47 (by decide +kernel) (by decide +kernel) (by decide) z.1), e7, if_neg (fun z => hud 61 46 (by decide +kernel) (by decide +kernel) (by decide) z.1), e6, if_neg (fun z => hud 61 48 (by decide +kernel) (by decide +kernel) (by decide) z.1), e5, if_neg (fun z => hud 61 53 (by decide +kernel) (by decide +kernel) (by decide) z.1), e4, if_neg (fun z => hud 61 52 (by decide +kernel) (by decide +kernel) (by decide) z.1), e3, if_neg (fun z => hud 61 51 (by decide +kernel) (by decide +kernel) (by decide) z.1), e2, if_neg (fun z => hud 61 50 (by decide +kernel) (by decide +kernel) (by decide) z.1), e1, if_neg (fun z => hud 61 49 (by decide +kernel) (by decide +kernel) (by decide) z.1)]; exact hzt) ?_
  have o9 : ∀ k i, w_uq k = true → k ∉ [45, 46, 47, 48, 49, 50, 51, 52, 53] → ab_sl h9 (u k) i = ab_sl h (u k) i := fun k i hk hn => by
    simp only [List.mem_cons, List.not_mem_nil, or_false, not_or] at hn
    rw [e9, if_neg (fun z => hud k 45 hk (by decide +kernel) hn.1 z.1), e8, if_neg (fun z => hud k 47 hk (by decide +kernel) hn.2.2.1 z.1), e7, if_neg (fun z => hud k 46 hk (by decide +kernel) hn.2.1 z.1), e6, if_neg (fun z => hud k 48 hk (by decide +kernel) hn.2.2.2.1 z.1), e5, if_neg (fun z => hud k 53 hk (by decide +kernel) hn.2.2.2.2.2.2.2.2 z.1), e4, if_neg (fun z => hud k 52 hk (by decide +kernel) hn.2.2.2.2.2.2.2.1 z.1), e3, if_neg (fun z => hud k 51 hk (by decide +kernel) hn.2.2.2.2.2.2.1 z.1), e2, if_neg (fun z => hud k 50 hk (by decide +kernel) hn.2.2.2.2.2.1 z.1), e1, if_neg (fun z => hud k 49 hk (by decide +kernel) hn.2.2.2.2.1 z.1)]
  have s49 : ∀ i, ab_sl h9 (u 49) i = if i = 71 then some (.int zk) else ab_sl h (u 49) i := fun i => by
    rw [e9, if_neg (fun z => hud 49 45 (by decide +kernel) (by decide +kernel) (by decide) z.1), e8, if_neg (fun z => hud 49 47 (by decide +kernel) (by decide +kernel) (by decide) z.1), e7, if_neg (fun z => hud 49 46 (by decide +kernel) (by decide +kernel) (by decide) z.1), e6, if_neg (fun z => hud 49 48 (by decide +kernel) (by decide +kernel) (by decide) z.1), e5, if_neg (fun z => hud 49 53 (by decide +kernel) (by decide +kernel) (by decide) z.1), e4, if_neg (fun z => hud 49 52 (by decide +kernel) (by decide +kernel) (by decide) z.1), e3, if_neg (fun z => hud 49 51 (by decide +kernel) (by decide +kernel) (by decide) z.1), e2, if_neg (fun z => hud 49 50 (by decide +kernel) (by decide +kernel) (by decide) z.1), e1]
    by_cases hi : i = 71
    · rw [if_pos ⟨rfl, hi⟩, if_pos hi]
    · rw [if_neg (fun z => hi z.2), if_neg hi]
  have s52 : ∀ i, ab_sl h9 (u 52) i = if i = 71 then some (.int za) else ab_sl h (u 52) i := fun i => by
    rw [e9, if_neg (fun z => hud 52 45 (by decide +kernel) (by decide +kernel) (by decide) z.1), e8, if_neg (fun z => hud 52 47 (by decide +kernel) (by decide +kernel) (by decide) z.1), e7, if_neg (fun z => hud 52 46 (by decide +kernel) (by decide +kernel) (by decide) z.1), e6, if_neg (fun z => hud 52 48 (by decide +kernel) (by decide +kernel) (by decide) z.1), e5, if_neg (fun z => hud 52 53 (by decide +kernel) (by decide +kernel) (by decide) z.1), e4]
    by_cases hi : i = 71
    · rw [if_pos ⟨rfl, hi⟩, if_pos hi]
    · rw [if_neg (fun z => hi z.2), if_neg hi, e3, if_neg (fun z => hud 52 51 (by decide +kernel) (by decide +kernel) (by decide) z.1), e2, if_neg (fun z => hud 52 50 (by decide +kernel) (by decide +kernel) (by decide) z.1), e1, if_neg (fun z => hud 52 49 (by decide +kernel) (by decide +kernel) (by decide) z.1)]
  have s53 : ∀ i, ab_sl h9 (u 53) i = if i = 71 then some (.int zb) else ab_sl h (u 53) i := fun i => by
    rw [e9, if_neg (fun z => hud 53 45 (by decide +kernel) (by decide +kernel) (by decide) z.1), e8, if_neg (fun z => hud 53 47 (by decide +kernel) (by decide +kernel) (by decide) z.1), e7, if_neg (fun z => hud 53 46 (by decide +kernel) (by decide +kernel) (by decide) z.1), e6, if_neg (fun z => hud 53 48 (by decide +kernel) (by decide +kernel) (by decide) z.1), e5]
    by_cases hi : i = 71
    · rw [if_pos ⟨rfl, hi⟩, if_pos hi]
    · rw [if_neg (fun z => hi z.2), if_neg hi, e4, if_neg (fun z => hud 53 52 (by decide +kernel) (by decide +kernel) (by decide) z.1), e3, if_neg (fun z => hud 53 51 (by decide +kernel) (by decide +kernel) (by decide) z.1), e2, if_neg (fun z => hud 53 50 (by decide +kernel) (by decide +kernel) (by decide) z.1), e1, if_neg (fun z => hud 53 49 (by decide +kernel) (by decide +kernel) (by decide) z.1)]
  have hK9 : km_K u mc h9 := by
    obtain ⟨k1, k2, k3, k4⟩ := hK
    have ho : ∀ k, k ∈ [40, 54, 56, 57, 58, 59, 60] → ∀ i, ab_sl h9 (u k) i = ab_sl h (u k) i := fun k hk i => by
      simp only [List.mem_cons, List.not_mem_nil, or_false] at hk
      rcases hk with rfl | rfl | rfl | rfl | rfl | rfl | rfl <;> exact o9 _ i (by decide +kernel) (by decide)
    have hn : km_n u h9 = km_n u h := by
      unfold km_n
      rw [md_v_eq (ho 40 (by decide) 19)]
    refine ⟨fun i hi => ?_, fun i hi => ?_, fun m m' h1 h2 => ?_, fun i hi => ?_⟩
    · rw [s49, s52, s53]
      by_cases e : i = 71
      · rw [if_pos e, if_pos e, if_pos e]
        exact hal
      · rw [if_neg e, if_neg e, if_neg e]
        exact k1 i hi
    · rw [ho 54 (by decide), ho 57 (by decide), ho 58 (by decide), md_v_eq (ho 54 (by decide) i), md_v_eq (ho 56 (by decide) i)]
      exact k2 i hi
    · rw [md_v_eq (ho 59 (by decide) m), md_v_eq (ho 59 (by decide) m'), md_v_eq (ho 60 (by decide) m), md_v_eq (ho 60 (by decide) m')]
      exact k3 m m' h1 h2
    · rw [md_v_eq (ho 54 (by decide) i), md_v_eq (ho 56 (by decide) i)]
      rw [hn] at hi
      exact k4 i hi
  have hF9 : km_F u h9 = km_F u h := by
    unfold km_F km_n
    rw [md_v_eq (o9 40 19 (by decide +kernel) (by decide)), km_sum_eq (f := fun i => km_w (md_v h9 (u 54) i) (md_v h9 (u 56) i)) (g := fun i => km_w (md_v h (u 54) i) (md_v h (u 56) i)) (fun i _ => by rw [md_v_eq (o9 54 i (by decide +kernel) (by decide)), md_v_eq (o9 56 i (by decide +kernel) (by decide))]), km_sum_eq (f := fun m => md_v h9 (u 64) m - 2147483648) (g := fun m => md_v h (u 64) m - 2147483648) (fun m _ => by rw [md_v_eq (o9 64 m (by decide +kernel) (by decide))])]
  have hQ9 : km_Q u h9 = km_Q u h := by
    unfold km_Q
    rw [md_v_eq (o9 40 7 (by decide +kernel) (by decide))]
  refine rs_iv (as := [.int (Int32.ofNat (569 / 8)), .int zt]) (r := []) wk_q114 (show wk_at wk_m114 95 40 93 2 2 9 = true by decide +kernel) hP9.1 hu0 hk40 rfl rfl (Nat.le_of_ble_eq_true rfl) (mj := am_m93) rfl ⟨by decide, by decide, Nat.le_of_ble_eq_true rfl⟩ ?_
  refine rs_cv (as := [.ref (u 40), .int (Int32.ofNat (569 / 8)), .int zt]) (ρ := kc_rho u 0) hVf rfl kc_rho_ad hP9.1 hK9 ⟨Or.inr ⟨rfl, hu, by decide⟩, Or.inr (ab_g_0.mpr ⟨_, rfl, by rw [c71]; decide, by rw [c71]; decide⟩), Or.inr (ab_g_0.mpr ⟨zt, rfl, t1, by rw [md_a]; omega⟩), trivial⟩ (fun f hf => by cases hf) (by intro e he; have := List.mem_singleton.mp he; subst this; decide) rfl (fun v h' k' q' hPo => ⟨v, h', k', q', rfl, ?_⟩)
  obtain ⟨e, he, hend, hH, -⟩ := hPo
  have := List.mem_singleton.mp he
  subst this
  rcases hend with ⟨-, hv⟩ | ⟨h1, -⟩ | ⟨h1, -⟩
  rotate_left
  · cases h1
  · cases h1
  have hv : v = none := Sum.inl.inj hv
  subst hv
  have hPf := rs_tr (by decide +kernel) hP9 hH
  obtain ⟨-, hKf, -, -, hp0, hp1, hk', hq'⟩ := hH
  obtain rfl : k' = 0 := Nat.le_zero.mp hk'
  obtain rfl : q' = 0 := Nat.le_zero.mp hq'
  refine rs_en (cmp := am_cmp) wk_q114 (show wk_at wk_m114 98 46 0 0 0 0 = true by decide +kernel) rfl ⟨(0, (3, 0, 0), []), by rw [hC]; exact List.mem_singleton_self _, Or.inl ⟨rfl, rfl⟩, ?_, fun f hf => by cases hf⟩
  rw [hC]
  refine ⟨hPf.1, hKf, hPf.2.1, hPf.2.2, ?_, ?_, Nat.le_refl _, Nat.le_refl _⟩
  · have hp0 : km_F u h' + 1000 ≤ km_F u h9 + 1000 := hp0
    show km_F u h' + 1000 ≤ km_F u h + 1000
    omega
  · have hp1 : km_Q u h' + 1000 ≤ km_Q u h9 + 1000 := hp1
    show km_Q u h' + 1000 ≤ km_Q u h + 1000
    omega
theorem md_pack_ok {mc : Nat} {τ u : Nat → Nat} {tv : Nat} (hU : ab_U w_uq τ u) (hut : ∀ k, w_uq k = true → τ (u k) = k) (hmc8 : mc ≤ 8) (hVf : md_Vd mc τ u tv 93 md_fwd) {k r a b : ab_V} (hk : k.1 = 0) (hr : r.1 = 0) (ha : a.1 = 0) (hb : b.1 = 0) (hkk : 2147483648 ≤ k.2.1 ∧ k.2.2 ≤ 2147483651) (hrr : r = w_mm mc ∨ r = w_e 15) (hal : ∀ zk zf zg : Int32, k.2.1 ≤ ab_b zk → ab_b zk ≤ k.2.2 → a.2.1 ≤ ab_b zf → ab_b zf ≤ a.2.2 → b.2.1 ≤ ab_b zg → ab_b zg ≤ b.2.2 → kc_al mc (some (.int zk)) (some (.int zf)) (some (.int zg))) : md_Vd mc τ u tv 114 (md_pack k r a b mc) := by
  intro mj hmj ρ h as had hI hK hA hF
  have hmj : am_m114 = mj := Option.some.inj hmj
  subst hmj
  have int : ∀ {v : ab_V} {x : Value}, v.1 = 0 → (v.1 = 5 ∨ ab_g τ tv ρ v x) → ∃ z : Int32, x = .int z ∧ v.2.1 ≤ ab_b z ∧ ab_b z ≤ v.2.2 := fun {v x} h0 hv => by
    obtain ⟨t, a, b⟩ := v
    have h0 : t = 0 := h0
    subst h0
    rcases hv with hv | hv
    · cases hv
    · exact hv
  match as, hA with
  | [v0, v1, v2, v3, v4, v5, v6], hA =>
    obtain ⟨h0, h1, h2, h3, h4, h5, h6, -⟩ := hA
    obtain ⟨zk, rfl, k1, k2⟩ := int hk h1
    obtain ⟨zs, rfl, s1, s2⟩ := int (v := w_mm mc) rfl h2
    obtain ⟨zr, rfl, r1, r2⟩ := int hr h3
    obtain ⟨za, rfl, f1, f2⟩ := int ha h4
    obtain ⟨zb, rfl, g1, g2⟩ := int hb h5
    obtain ⟨zl, rfl, l1, l2⟩ := int (v := w_r 0 3) rfl h6
    rcases h0 with h0 | ⟨rfl, x1, x2⟩
    · cases h0
    have hx : ρ 640 = u 40 := had 40 (by decide +kernel)
    show cl_Rn am_m114 (0, [some (.ref (ρ 640)), some (.int zk), some (.int zs), some (.int zr), some (.int za), some (.int zb), some (.int zl)], [], h, 0, 0) _
    rw [hx]
    refine md_pack_core hU hut hmc8 hI hK hVf ⟨w_r 0 3, List.mem_singleton_self _, zk, rfl, Nat.le_trans hkk.1 k1, Nat.le_trans k2 hkk.2⟩ s1 s2 ?_ (hal zk za zb k1 k2 f1 f2 g1 g2) l1 l2 (md_pack k r a b mc) rfl
    rcases hrr with rfl | rfl
    · exact ⟨w_mm mc, List.mem_cons_self, zr, rfl, r1, r2⟩
    · exact ⟨w_e 15, List.mem_cons_of_mem _ List.mem_cons_self, zr, rfl, r1, r2⟩
  | [], hA => exact hA.elim
  | [_], hA => exact hA.2.elim
  | [_, _], hA => exact hA.2.2.elim
  | [_, _, _], hA => exact hA.2.2.2.elim
  | [_, _, _, _], hA => exact hA.2.2.2.2.elim
  | [_, _, _, _, _], hA => exact hA.2.2.2.2.2.elim
  | [_, _, _, _, _, _], hA => exact hA.2.2.2.2.2.2.elim
  | _ :: _ :: _ :: _ :: _ :: _ :: _ :: _ :: _, hA => exact hA.2.2.2.2.2.2.2.elim
