/-! ===== the reference: forward ===== -/
theorem md_put {mc : Nat} {τ u : Nat → Nat} {tv : Nat} {mi : am_M} {mf : fm_M} {pc b wr : Nat} {lo : List (Option Value)} {r : List Value} {h h0 : am_H} {Q : am_R → Prop} {v : Int32} (hut : ∀ k, w_uq k = true → τ (u k) = k) (hmf : wk_mck am_fty am_lk wk_tls mi mf = true) (hw : wk_at mf pc 26 9 b 0 0 = true) (hP : cl_H mc τ tv wr h0 h 0) (hb : b < (w_kd 40).2) (hwr : ab_tb wr (ab_bt w_kd 40 b) = true) (hg : ∃ w ∈ w_G mc 40 b, ab_gc τ tv w (.int v)) (hn : ∀ h', cl_H mc τ tv wr h0 h' 0 → (∀ a' i', ab_sl h' a' i' = if a' = u 40 ∧ i' = b then some (.int v) else ab_sl h a' i') → cl_Rn mi (pc + 3, lo, r, h', 0, 0) Q) : cl_Rn mi (pc, lo, .int v :: .ref (u 40) :: r, h, 0, 0) Q := by
  have t := hut 40 (by decide +kernel)
  exact rs_put hmf hw hP (by rw [t]; decide) (by rw [t]; rfl) (by rw [t]; exact hb) rfl (by rw [t]; exact hwr) (by rw [t]; exact hg) hn
/-- an int field of the reference -/
theorem md_fld {mc : Nat} {τ u : Nat → Nat} {tv : Nat} (hut : ∀ k, w_uq k = true → τ (u k) = k) {h : am_H} (hI : ab_I w_kd w_un (w_G mc) τ tv h) {i lo hi : Nat} (hi' : i < (w_kd 40).2) (hG : w_G mc 40 i = [(0, lo, hi)]) : ∃ z : Int32, ab_sl h (u 40) i = some (.int z) ∧ lo ≤ ab_b z ∧ ab_b z ≤ hi := kc_int hI (hut 40 (by decide +kernel)) (by decide) hi' hG
/-- what a call of forward wants of a heap that it left -/
theorem md_po {mc : Nat} {τ u : Nat → Nat} {tv wr : Nat} (hut : ∀ k, w_uq k = true → τ (u k) = k) {h h' : am_H} (hP : cl_H mc τ tv wr h h' 0) (hK : km_K u mc h) (ho : ∀ k, k ∈ [54, 56, 57, 58, 59, 60, 64] → ∀ i, ab_sl h' (u k) i = ab_sl h (u k) i) (h19 : ab_sl h' (u 40) 19 = ab_sl h (u 40) 19) (hcl : ∀ i, i < 80 → ∃ j, j < 80 ∧ ab_sl h' (u 49) i = ab_sl h (u 49) j ∧ ab_sl h' (u 52) i = ab_sl h (u 52) j ∧ ab_sl h' (u 53) i = ab_sl h (u 53) j) (hq : km_Q u h' ≤ km_Q u h) (C : ab_C) (hC : C.2.2 = ([(0, (3, 0, 0), [])], wr, w_g0)) : ab_Po w_kd w_un (w_G mc) τ u tv (km_K u mc) (km_F u) (km_Q u) C h (.inl none, h', 0, 0) := by
  refine ⟨(0, (3, 0, 0), []), by rw [hC]; exact List.mem_singleton_self _, Or.inl ⟨rfl, rfl⟩, ?_, fun f hf => by cases hf⟩
  rw [hC]
  obtain ⟨k1, k2, k3, k4⟩ := hK
  have hn : km_n u h' = km_n u h := by
    unfold km_n
    rw [md_v_eq h19]
  refine ⟨hP.1, ⟨fun i hi => ?_, fun i hi => ?_, fun m m' h1 h2 => ?_, fun i hi => ?_⟩, hP.2.1, hP.2.2, ?_, ?_, Nat.le_refl _, Nat.le_refl _⟩
  · show kc_al mc (ab_sl h' (u 49) i) (ab_sl h' (u 52) i) (ab_sl h' (u 53) i)
    obtain ⟨j, hj, e1, e2, e3⟩ := hcl i hi
    rw [e1, e2, e3]
    exact k1 j hj
  · show kc_al mc (ab_sl h' (u 54) i) (ab_sl h' (u 57) i) (ab_sl h' (u 58) i) ∧ (md_v h' (u 54) i ≤ 2147483649 → md_v h' (u 56) i ≠ 2147483663)
    rw [ho 54 (by decide), ho 57 (by decide), ho 58 (by decide), md_v_eq (ho 54 (by decide) i), md_v_eq (ho 56 (by decide) i)]
    exact k2 i hi
  · show ¬ (md_v h' (u 59) m = md_v h' (u 59) m' ∧ md_v h' (u 60) m = md_v h' (u 60) m')
    rw [md_v_eq (ho 59 (by decide) m), md_v_eq (ho 59 (by decide) m'), md_v_eq (ho 60 (by decide) m), md_v_eq (ho 60 (by decide) m')]
    exact k3 m m' h1 h2
  · show ¬ (md_v h' (u 54) i = 2147483651 ∧ md_v h' (u 56) i = 2147483663)
    rw [md_v_eq (ho 54 (by decide) i), md_v_eq (ho 56 (by decide) i)]
    have hi : i < km_n u h' := hi
    rw [hn] at hi
    exact k4 i hi
  · show km_F u h' + 1000 ≤ km_F u h + 1000
    unfold km_F
    rw [hn, km_sum_eq (f := fun i => km_w (md_v h' (u 54) i) (md_v h' (u 56) i)) (g := fun i => km_w (md_v h (u 54) i) (md_v h (u 56) i)) (fun i _ => by rw [md_v_eq (ho 54 (by decide) i), md_v_eq (ho 56 (by decide) i)]), km_sum_eq (f := fun m => md_v h' (u 64) m - 2147483648) (g := fun m => md_v h (u 64) m - 2147483648) (fun m _ => by rw [md_v_eq (ho 64 (by decide) m)])]
    exact Nat.le_refl _
  · show km_Q u h' + 1000 ≤ km_Q u h + 1000
    omega
def md_fwd : ab_C := ([(1, 640, 0), w_r 70 71, w_r 0 5], [], [(0, (3, 0, 0), [])], 0x8000000000000000800000000000000080000000000000008000000000000000800000000000000080000000000000008000000000000000800000000000000080000000000000008000000000000000800000000000000000000000000000000000000000000000000000000000008c0000000000000000000000000000000000000000000000000000000000000000000000000000000000000000000000000000000000000000000000000000000000000000000000000000000000000000000000000000000000000000000000000000000000000000000000000000000000000000000000000000000000000000000000000000000000000000000000000000000000000000000000000000000000000000000000000000000000000000000000000000000000000000000000000000000000000000000000000000000000000000000000000000000000000000000000000000000000000000000000000000000000000000000000000000000000000000000000000000000000000000000000000000000000000000000000000000000000000000000000000000000000000000000000000000000000000000, w_g0)
def md_port : ab_C := ([(1, 640, 0), w_r 0 79], [], [(1, w_r 0 63, [])], 0x0, w_g0)
def md_lnk (a b c d : Nat) : ab_C := ([w_r a b, w_r c d], [], [(1, w_r 0 7, [])], 0x0, w_g0)
def md_nb (a b c d e f : Nat) : ab_C := ([w_r a b, w_r c d], [], [(1, w_r e f, [])], 0x0, w_g0)
theorem md_ro {mc : Nat} {τ u : Nat → Nat} {tv : Nat} {h : am_H} {j : Nat} {C : ab_C} {mj : am_M} {as : List Value} {lo hi : Nat} (hV : md_Vd mc τ u tv j C) (hj : am_ms j = some mj) (hI : ab_I w_kd w_un (w_G mc) τ tv h) (hK : km_K u mc h) (hA : ab_gA τ tv (fun n => u (n / 16)) C.1 as) (hpf : C.2.1 = []) (hC : C.2.2 = ([(1, (0, lo, hi), [])], 0, w_g0)) {n : Nat} (hn : n = as.length) {Q : am_R → Prop} (hQ : ∀ z : Int32, lo ≤ ab_b z → ab_b z ≤ hi → Q (.inl (some (.int z)), h, 0, 0)) : cl_Rn mj (0, as.map some ++ List.replicate (am_L mj - n) none, [], h, 0, 0) Q := by
  refine rs_cv hV hj (fun k _ => by
    have : 16 * k / 16 = k := by omega
    show u (16 * k / 16) = u k
    rw [this]) hI hK hA (by rw [hpf]; intro f hf; cases hf) (by rw [hC]; intro e he; have := List.mem_singleton.mp he; subst this; intro h; cases h) hn (fun v h' k' q' hPo => ?_)
  obtain ⟨e, he, hend, hH, -⟩ := hPo
  rw [hC] at he hH
  have := List.mem_singleton.mp he
  subst this
  obtain ⟨i1, -, i3, i4, -, -, i7, i8⟩ := hH
  have i7 : k' ≤ 0 := i7
  have i8 : q' ≤ 0 := i8
  obtain rfl : k' = 0 := Nat.le_zero.mp i7
  obtain rfl : q' = 0 := Nat.le_zero.mp i8
  obtain rfl : h' = h := ab_Fr_eq hI i1 i3 i4
  rcases hend with ⟨h1, -⟩ | ⟨-, x, hx, z, rfl, z1, z2⟩ | ⟨h1, -⟩
  · cases h1
  · have hx : v = some (.int z) := Sum.inl.inj hx
    subst hx
    exact hQ z z1 z2
  · cases h1
set_option maxRecDepth 100000 in
/-- node 0 to 3: two neighbours; node 4, 5: four -/
theorem md_fwd_core {mc : Nat} {τ u : Nat → Nat} {tv : Nat} (hU : ab_U w_uq τ u) (hut : ∀ k, w_uq k = true → τ (u k) = k) (hmc : Nat.beq mc 0 = false) {h : am_H} (hI : ab_I w_kd w_un (w_G mc) τ tv h) (hK : km_K u mc h) (hVp : md_Vd mc τ u tv 116 md_port) {zk zn : Int32} {nk : Nat} (k1 : 2147483648 ≤ ab_b zk) (hnk : ab_b zk - 2147483648 = nk) (k2 : nk < 80) {N m a b e f : Nat} (hN : N ≤ 4) (hHO : ∀ zl : Int32, 2147483648 ≤ ab_b zl → ab_b zl ≤ 2147483651 → ∀ b, b ≤ N → ∀ zj : Int32, ab_b zj = Nat.add 2147483648 b → ∃ z, md_HO u h zn zl zj z ∧ (ab_b z < 2147483648 ∨ (b < N ∧ ab_b z ≤ 2147483648 + m))) (n1 : Nat.add 2147483648 a ≤ ab_b zn) (n2 : ab_b zn ≤ Nat.add 2147483648 b) (hef : f ≤ 5) (hVl : md_Vd mc τ u tv 107 (md_lnk a b 0 m)) (hVn : md_Vd mc τ u tv 111 (md_nb a b 0 m e f)) (C : ab_C) (hC : C.2.2 = ([(0, (3, 0, 0), [])], 0x8000000000000000800000000000000080000000000000008000000000000000800000000000000080000000000000008000000000000000800000000000000080000000000000008000000000000000800000000000000000000000000000000000000000000000000000000000008c0000000000000000000000000000000000000000000000000000000000000000000000000000000000000000000000000000000000000000000000000000000000000000000000000000000000000000000000000000000000000000000000000000000000000000000000000000000000000000000000000000000000000000000000000000000000000000000000000000000000000000000000000000000000000000000000000000000000000000000000000000000000000000000000000000000000000000000000000000000000000000000000000000000000000000000000000000000000000000000000000000000000000000000000000000000000000000000000000000000000000000000000000000000000000000000000000000000000000000000000000000000000000000000000000000000000000000, w_g0)) : cl_Rn am_m93 (0, [some (.ref (u 40)), some (.int zk), some (.int zn), none, none], [], h, 0, 0) (ab_Po w_kd w_un (w_G mc) τ u tv (km_K u mc) (km_F u) (km_Q u) C h) := by
  have hu : τ (u 40) = 40 := hut 40 (by decide +kernel)
  have hu0 : τ (u 40) ≠ 0 := by rw [hu]; decide
  have hk40 : (w_kd (τ (u 40))).1 = 9 := by rw [hu]; rfl
  have hud := md_ud hut
  have c1 : ab_b (Int32.ofNat (9 / 8)) = 2147483649 := by decide
  have c60 : ab_b (Int32.ofNat (481 / 8)) = 2147483708 := by decide
  have hP0 : cl_H mc τ tv 0x8000000000000000800000000000000080000000000000008000000000000000800000000000000080000000000000008000000000000000800000000000000080000000000000008000000000000000800000000000000000000000000000000000000000000000000000000000008c0000000000000000000000000000000000000000000000000000000000000000000000000000000000000000000000000000000000000000000000000000000000000000000000000000000000000000000000000000000000000000000000000000000000000000000000000000000000000000000000000000000000000000000000000000000000000000000000000000000000000000000000000000000000000000000000000000000000000000000000000000000000000000000000000000000000000000000000000000000000000000000000000000000000000000000000000000000000000000000000000000000000000000000000000000000000000000000000000000000000000000000000000000000000000000000000000000000000000000000000000000000000000000000000000000000000000000 h h 0 := cl_0 hI
  have hG7 : w_G mc 40 7 = [w_r 0 60] := by
    show (bif Nat.beq mc 0 then [w_e 0] else [w_r 0 60]) = _
    rw [hmc]
    rfl
  have gt : ∀ z : Int32, ab_gc τ tv ab_top (.int z) := fun z => ⟨z, rfl, Nat.zero_le _, Nat.le_of_lt_succ (ab_b_lt z)⟩
  obtain ⟨zt, hzt, gt1, hgt1, hgt2⟩ := md_int hut hI (k := 47) (i := nk) (by decide +kernel) (by decide) (by decide +kernel) (by exact k2) rfl
  have := List.mem_singleton.mp hgt1
  subst this
  obtain ⟨ztt, hztt, t1, t2⟩ := hgt2
  cases hztt
  have t1 : 2147483648 ≤ ab_b zt := t1
  have t2 : ab_b zt ≤ 2147483651 := t2
  obtain ⟨zp, hzp, p1, p2⟩ := md_fld hut hI (i := 7) (by decide) hG7
  have p1 : 2147483648 ≤ ab_b zp := p1
  have p2 : ab_b zp ≤ 2147483708 := p2
  obtain ⟨zd, hzd, -, -⟩ := md_fld hut hI (i := 3) (by decide) (lo := 0) (hi := 4294967295) rfl
  obtain ⟨zo, hzo, -, -⟩ := md_fld hut hI (i := 2) (by decide) (lo := 0) (hi := 4294967295) rfl
  have hrow : ∀ h', ab_I w_kd w_un (w_G mc) τ tv h' → ab_sl h' (u 40) 12 = some (.ref (u 47)) := fun h' hI' => md_row hU hut hI' (i := 12) (k := 47) (by decide) rfl (by decide +kernel)
  have hdone : ∀ h', cl_H mc τ tv 0x8000000000000000800000000000000080000000000000008000000000000000800000000000000080000000000000008000000000000000800000000000000080000000000000008000000000000000800000000000000000000000000000000000000000000000000000000000008c0000000000000000000000000000000000000000000000000000000000000000000000000000000000000000000000000000000000000000000000000000000000000000000000000000000000000000000000000000000000000000000000000000000000000000000000000000000000000000000000000000000000000000000000000000000000000000000000000000000000000000000000000000000000000000000000000000000000000000000000000000000000000000000000000000000000000000000000000000000000000000000000000000000000000000000000000000000000000000000000000000000000000000000000000000000000000000000000000000000000000000000000000000000000000000000000000000000000000000000000000000000000000000000000000000000000000000 h h' 0 → (∀ k i, w_uq k = true → k ≠ 40 → ab_sl h' (u k) i = ab_sl h (u k) i) → ab_sl h' (u 40) 19 = ab_sl h (u 40) 19 → ab_sl h' (u 40) 7 = ab_sl h (u 40) 7 → ∀ lo, cl_Rn am_m93 (131, lo, [], h', 0, 0) (ab_Po w_kd w_un (w_G mc) τ u tv (km_K u mc) (km_F u) (km_Q u) C h) := fun h' hP' ho h19 h7 lo => by
    refine rs_en (cmp := am_cmp) wk_q93 (show wk_at wk_m93 131 46 0 0 0 0 = true by decide +kernel) rfl (md_po hut hP' hK (fun k hk i => ?_) h19 (fun i hi => ⟨i, hi, ho 49 i (by decide +kernel) (by decide), ho 52 i (by decide +kernel) (by decide), ho 53 i (by decide +kernel) (by decide)⟩) ?_ C hC)
    · simp only [List.mem_cons, List.not_mem_nil, or_false] at hk
      rcases hk with rfl | rfl | rfl | rfl | rfl | rfl | rfl <;> exact ho _ i (by decide +kernel) (by decide)
    · unfold km_Q
      rw [md_v_eq h7]
      exact Nat.le_refl _
  refine rs_st (cmp := am_cmp) wk_q93 (show wk_at wk_m93 0 3 0 1 0 0 = true by decide +kernel) rfl ?_
  refine rs_st (cmp := am_cmp) wk_q93 (show wk_at wk_m93 1 2 2 1 0 0 = true by decide +kernel) rfl ?_
  refine rs_st (cmp := am_cmp) wk_q93 (show wk_at wk_m93 2 3 0 1 0 0 = true by decide +kernel) rfl ?_
  refine md_get hut wk_q93 (show wk_at wk_m93 3 25 9 12 0 0 = true by decide +kernel) hP0.1 (v := .ref (u 47)) (hrow h hI) ?_
  refine rs_st (cmp := am_cmp) wk_q93 (show wk_at wk_m93 6 2 1 1 0 0 = true by decide +kernel) rfl ?_
  refine md_ial hut wk_q93 (show wk_at wk_m93 7 27 0 0 0 0 = true by decide +kernel) hI (k := 47) (by decide +kernel) (by decide) rfl k1 hnk (v := zt) hzt ?_
  refine rs_iv (as := [.int zn, .int zt]) (r := []) wk_q93 (show wk_at wk_m93 8 40 101 2 2 9 = true by decide +kernel) hI hu0 hk40 rfl rfl (Nat.le_of_ble_eq_true rfl) (mj := am_m101) rfl ⟨by decide, by decide, Nat.le_of_ble_eq_true rfl⟩ ?_
  show cl_Rn am_m101 (0, [some (.ref (u 40)), some (.int zn), some (.int zt), none], [], h, 0, 0) _
  refine rs_st (cmp := am_cmp) wk_q101 (show wk_at wk_m101 0 1 1 1 0 0 = true by decide +kernel) rfl ?_
  refine rs_st (cmp := am_cmp) wk_q101 (show wk_at wk_m101 1 4 3 1 0 0 = true by decide +kernel) rfl ?_
  refine md_hops_loop hut hI hN (fun b hb zj hj => hHO zt t1 t2 b hb zj hj) (fun n zj hn hzj hall => ?_) N 0 (Int32.ofNat (1 / 8)) (by omega) (by decide) (fun b hb => absurd hb (by omega))
  rw [md_a] at hzj
  refine ⟨_, _, _, _, rfl, ?_⟩
  show cl_Rn am_m93 (11, [some (.ref (u 40)), some (.int zk), some (.int zn), none, none], [.int zj], h, 0, 0) _
  refine rs_st (cmp := am_cmp) wk_q93 (show wk_at wk_m93 11 4 3 1 0 0 = true by decide +kernel) rfl ?_
  refine rs_st (cmp := am_cmp) wk_q93 (show wk_at wk_m93 12 2 3 1 0 0 = true by decide +kernel) rfl ?_
  have hdrop : cl_Rn am_m93 (25, [some (.ref (u 40)), some (.int zk), some (.int zn), some (.int zj), none], [], h, 0, 0) (ab_Po w_kd w_un (w_G mc) τ u tv (km_K u mc) (km_F u) (km_Q u) C h) := by
    refine rs_st (cmp := am_cmp) wk_q93 (show wk_at wk_m93 25 3 0 1 0 0 = true by decide +kernel) rfl ?_
    refine rs_st (cmp := am_cmp) wk_q93 (show wk_at wk_m93 26 18 0 0 0 0 = true by decide +kernel) rfl ?_
    refine md_get hut wk_q93 (show wk_at wk_m93 27 25 9 3 0 0 = true by decide +kernel) hP0.1 (v := .int zd) hzd ?_
    refine rs_st (cmp := am_cmp) wk_q93 (show wk_at wk_m93 30 1 9 1 0 0 = true by decide +kernel) rfl ?_
    refine rs_st (cmp := am_cmp) wk_q93 (show wk_at wk_m93 31 7 0 0 0 0 = true by decide +kernel) rfl ?_
    refine md_put hut wk_q93 (show wk_at wk_m93 32 26 9 3 0 0 = true by decide +kernel) hP0 (by decide) (by decide +kernel) ⟨ab_top, List.mem_singleton_self _, gt _⟩ (fun h1 hP1 e1 => ?_)
    refine rs_st (cmp := am_cmp) wk_q93 (show wk_at wk_m93 35 21 131 0 0 0 = true by decide +kernel) rfl ?_
    exact hdone h1 hP1 (fun k i hk hk4 => by rw [e1, if_neg (fun z => hud k 40 hk (by decide +kernel) hk4 z.1)]) (by rw [e1, if_neg (by omega)]) (by rw [e1, if_neg (by omega)]) _
  cases hc0 : wk_c 0 zj 0 with
  | true => exact rs_ift wk_q93 (show wk_at wk_m93 13 22 0 25 0 0 = true by decide +kernel) hc0 hdrop
  | false =>
    refine rs_iff wk_q93 (show wk_at wk_m93 13 22 0 25 0 0 = true by decide +kernel) hc0 ?_
    have hn0 : n ≠ 0 := fun e => by
      have hc0 : decide (zj = 0) = false := hc0
      refine of_decide_eq_false hc0 (ab_b_inj ?_)
      rw [ab_b_0]
      omega
    refine rs_st (cmp := am_cmp) wk_q93 (show wk_at wk_m93 16 3 0 1 0 0 = true by decide +kernel) rfl ?_
    refine md_get hut wk_q93 (show wk_at wk_m93 17 25 9 7 0 0 = true by decide +kernel) hP0.1 (v := .int zp) hzp ?_
    refine rs_st (cmp := am_cmp) wk_q93 (show wk_at wk_m93 20 1 481 2 0 0 = true by decide +kernel) rfl ?_
    cases hc1 : wk_c 2 zp (Int32.ofNat (481 / 8)) with
    | false => exact rs_icf wk_q93 (show wk_at wk_m93 22 23 2 38 0 0 = true by decide +kernel) hc1 hdrop
    | true =>
      refine rs_ict wk_q93 (show wk_at wk_m93 22 23 2 38 0 0 = true by decide +kernel) hc1 ?_
      have hp60 : ab_b zp < 2147483708 := by
        have hc1 : decide (zp < Int32.ofNat (481 / 8)) = true := hc1
        have := ab_b_lti.mp (of_decide_eq_true hc1)
        rw [c60] at this
        exact this
      refine rs_st (cmp := am_cmp) wk_q93 (show wk_at wk_m93 38 3 0 1 0 0 = true by decide +kernel) rfl ?_
      refine md_get hut wk_q93 (show wk_at wk_m93 39 25 9 2 0 0 = true by decide +kernel) hP0.1 (v := .int zo) hzo ?_
      cases hc2 : wk_c 5 zo 0 with
      | false =>
        refine rs_iff wk_q93 (show wk_at wk_m93 42 22 5 68 0 0 = true by decide +kernel) hc2 ?_
        refine rs_st (cmp := am_cmp) wk_q93 (show wk_at wk_m93 45 3 0 1 0 0 = true by decide +kernel) rfl ?_
        refine rs_st (cmp := am_cmp) wk_q93 (show wk_at wk_m93 46 18 0 0 0 0 = true by decide +kernel) rfl ?_
        refine md_get hut wk_q93 (show wk_at wk_m93 47 25 9 2 0 0 = true by decide +kernel) hP0.1 (v := .int zo) hzo ?_
        refine rs_st (cmp := am_cmp) wk_q93 (show wk_at wk_m93 50 1 9 1 0 0 = true by decide +kernel) rfl ?_
        refine rs_st (cmp := am_cmp) wk_q93 (show wk_at wk_m93 51 8 0 0 0 0 = true by decide +kernel) rfl ?_
        refine md_put hut wk_q93 (show wk_at wk_m93 52 26 9 2 0 0 = true by decide +kernel) hP0 (by decide) (by decide +kernel) ⟨ab_top, List.mem_singleton_self _, gt _⟩ (fun h1 hP1 e1 => ?_)
        refine rs_st (cmp := am_cmp) wk_q93 (show wk_at wk_m93 55 3 0 1 0 0 = true by decide +kernel) rfl ?_
        refine rs_st (cmp := am_cmp) wk_q93 (show wk_at wk_m93 56 18 0 0 0 0 = true by decide +kernel) rfl ?_
        refine md_get hut wk_q93 (show wk_at wk_m93 57 25 9 3 0 0 = true by decide +kernel) hP1.1 (v := .int zd) (by rw [e1, if_neg (by omega)]; exact hzd) ?_
        refine rs_st (cmp := am_cmp) wk_q93 (show wk_at wk_m93 60 1 9 1 0 0 = true by decide +kernel) rfl ?_
        refine rs_st (cmp := am_cmp) wk_q93 (show wk_at wk_m93 61 7 0 0 0 0 = true by decide +kernel) rfl ?_
        refine md_put hut wk_q93 (show wk_at wk_m93 62 26 9 3 0 0 = true by decide +kernel) hP1 (by decide) (by decide +kernel) ⟨ab_top, List.mem_singleton_self _, gt _⟩ (fun h2 hP2 e2 => ?_)
        refine rs_st (cmp := am_cmp) wk_q93 (show wk_at wk_m93 65 21 131 0 0 0 = true by decide +kernel) rfl ?_
        exact hdone h2 hP2 (fun k i hk hk4 => by rw [e2, if_neg (fun z => hud k 40 hk (by decide +kernel) hk4 z.1), e1, if_neg (fun z => hud k 40 hk (by decide +kernel) hk4 z.1)]) (by rw [e2, if_neg (by omega), e1, if_neg (by omega)]) (by rw [e2, if_neg (by omega), e1, if_neg (by omega)]) _
      | true =>
        refine rs_ift wk_q93 (show wk_at wk_m93 42 22 5 68 0 0 = true by decide +kernel) hc2 ?_
        refine rs_st (cmp := am_cmp) wk_q93 (show wk_at wk_m93 68 3 0 1 0 0 = true by decide +kernel) rfl ?_
        refine rs_st (cmp := am_cmp) wk_q93 (show wk_at wk_m93 69 2 2 1 0 0 = true by decide +kernel) rfl ?_
        refine rs_st (cmp := am_cmp) wk_q93 (show wk_at wk_m93 70 3 0 1 0 0 = true by decide +kernel) rfl ?_
        refine md_get hut wk_q93 (show wk_at wk_m93 71 25 9 12 0 0 = true by decide +kernel) hP0.1 (v := .ref (u 47)) (hrow h hI) ?_
        refine rs_st (cmp := am_cmp) wk_q93 (show wk_at wk_m93 74 2 1 1 0 0 = true by decide +kernel) rfl ?_
        refine md_ial hut wk_q93 (show wk_at wk_m93 75 27 0 0 0 0 = true by decide +kernel) hI (k := 47) (by decide +kernel) (by decide) rfl k1 hnk (v := zt) hzt ?_
        refine rs_st (cmp := am_cmp) wk_q93 (show wk_at wk_m93 76 3 0 1 0 0 = true by decide +kernel) rfl ?_
        refine rs_st (cmp := am_cmp) wk_q93 (show wk_at wk_m93 77 2 1 1 0 0 = true by decide +kernel) rfl ?_
        refine rs_iv (as := [.int zk]) (r := [.int zt, .int zn, .ref (u 40)]) wk_q93 (show wk_at wk_m93 78 40 116 1 2 9 = true by decide +kernel) hI hu0 hk40 rfl rfl (Nat.le_of_ble_eq_true rfl) (mj := am_m116) rfl ⟨by decide, by decide, Nat.le_of_ble_eq_true rfl⟩ ?_
        refine md_ro (as := [.ref (u 40), .int zk]) hVp rfl hI hK ⟨Or.inr ⟨rfl, hu, by decide⟩, Or.inr (ab_g_0.mpr ⟨zk, rfl, k1, by rw [md_a]; omega⟩), trivial⟩ rfl rfl rfl (fun zq q1 q2 => ?_)
        rw [md_a] at q1 q2
        refine ⟨_, _, _, _, rfl, ?_⟩
        show cl_Rn am_m93 (81, [some (.ref (u 40)), some (.int zk), some (.int zn), some (.int zj), none], [.int zq, .int zt, .int zn, .ref (u 40)], h, 0, 0) _
        refine rs_st (cmp := am_cmp) wk_q93 (show wk_at wk_m93 81 2 3 1 0 0 = true by decide +kernel) rfl ?_
        have hzj0 : zj ≠ 0 := fun e => by
          rw [e, ab_b_0] at hzj
          omega
        refine rs_rem wk_q93 (show wk_at wk_m93 82 13 0 0 0 0 = true by decide +kernel) hzj0 ?_
        have hrem := ab_b_rem (x := zq) (y := zj) (by omega) (by omega)
        have hrl : (ab_b zq - 2147483648) % (ab_b zj - 2147483648) < ab_b zj - 2147483648 := Nat.mod_lt _ (by omega)
        generalize zq - zq / zj * zj = zx at hrem
        generalize (ab_b zq - 2147483648) % (ab_b zj - 2147483648) = bx at hrem hrl
        obtain ⟨zh, hzh, g1, g2⟩ := hall bx (by omega) zx (by rw [md_a]; exact hrem)
        refine rs_iv (as := [.int zn, .int zt, .int zx]) (r := []) wk_q93 (show wk_at wk_m93 83 40 100 3 2 9 = true by decide +kernel) hI hu0 hk40 rfl rfl (Nat.le_of_ble_eq_true rfl) (mj := am_m100) rfl ⟨by decide, by decide, Nat.le_of_ble_eq_true rfl⟩ ?_
        refine Rn_mono hzh (fun r hr => ?_)
        subst hr
        refine ⟨_, _, _, _, rfl, ?_⟩
        show cl_Rn am_m93 (86, [some (.ref (u 40)), some (.int zk), some (.int zn), some (.int zj), none], [.int zh], h, 0, 0) _
        refine rs_st (cmp := am_cmp) wk_q93 (show wk_at wk_m93 86 4 4 2 0 0 = true by decide +kernel) rfl ?_
        refine rs_st (cmp := am_cmp) wk_q93 (show wk_at wk_m93 88 3 0 1 0 0 = true by decide +kernel) rfl ?_
        refine md_get hut wk_q93 (show wk_at wk_m93 89 25 9 8 0 0 = true by decide +kernel) hP0.1 (v := .ref (u 43)) (md_row hU hut hI (i := 8) (k := 43) (by decide) rfl (by decide +kernel)) ?_
        refine rs_st (cmp := am_cmp) wk_q93 (show wk_at wk_m93 92 2 1 1 0 0 = true by decide +kernel) rfl ?_
        refine rs_st (cmp := am_cmp) wk_q93 (show wk_at wk_m93 93 2 2 1 0 0 = true by decide +kernel) rfl ?_
        refine rs_st (cmp := am_cmp) wk_q93 (show wk_at wk_m93 94 2 4 2 0 0 = true by decide +kernel) rfl ?_
        refine rs_is (as := [.int zn, .int zh]) (r := [.int zk, .ref (u 43)]) wk_q93 (show wk_at wk_m93 96 40 107 2 0 0 = true by decide +kernel) rfl rfl (Nat.le_of_ble_eq_true rfl) (mj := am_m107) rfl ⟨by decide, by decide, Nat.le_of_ble_eq_true rfl⟩ ?_
        refine md_ro (as := [.int zn, .int zh]) hVl rfl hI hK ⟨Or.inr (ab_g_0.mpr ⟨zn, rfl, n1, n2⟩), Or.inr (ab_g_0.mpr ⟨zh, rfl, by rw [md_a]; omega, by rw [md_a]; omega⟩), trivial⟩ rfl rfl rfl (fun zL L1 L2 => ?_)
        refine ⟨_, _, _, _, rfl, ?_⟩
        show cl_Rn am_m93 (99, [some (.ref (u 40)), some (.int zk), some (.int zn), some (.int zj), some (.int zh)], [.int zL, .int zk, .ref (u 43)], h, 0, 0) _
        refine md_ias hut wk_q93 (show wk_at wk_m93 99 31 0 0 0 0 = true by decide +kernel) hP0 (k := 43) (by decide +kernel) (by decide) (by decide +kernel) rfl k1 hnk (by exact k2) (by decide +kernel) ⟨w_r 0 7, List.mem_singleton_self _, zL, rfl, L1, L2⟩ (fun h1 hP1 e1 => ?_)
        refine rs_st (cmp := am_cmp) wk_q93 (show wk_at wk_m93 100 3 0 1 0 0 = true by decide +kernel) rfl ?_
        refine md_get hut wk_q93 (show wk_at wk_m93 101 25 9 9 0 0 = true by decide +kernel) hP1.1 (v := .ref (u 44)) (md_row hU hut hP1.1 (i := 9) (k := 44) (by decide) rfl (by decide +kernel)) ?_
        refine rs_st (cmp := am_cmp) wk_q93 (show wk_at wk_m93 104 2 1 1 0 0 = true by decide +kernel) rfl ?_
        refine rs_st (cmp := am_cmp) wk_q93 (show wk_at wk_m93 105 2 2 1 0 0 = true by decide +kernel) rfl ?_
        refine rs_st (cmp := am_cmp) wk_q93 (show wk_at wk_m93 106 2 4 2 0 0 = true by decide +kernel) rfl ?_
        have o1 : ∀ k i, w_uq k = true → k ≠ 43 → ab_sl h1 (u k) i = ab_sl h (u k) i := fun k i hk hk4 => by rw [e1, if_neg (fun z => hud k 43 hk (by decide +kernel) hk4 z.1)]
        have hK1 : km_K u mc h1 := km_same (fun k hk i => by simp only [List.mem_cons, List.not_mem_nil, or_false] at hk; rcases hk with rfl | rfl | rfl | rfl | rfl | rfl | rfl | rfl | rfl <;> exact o1 _ i (by decide +kernel) (by decide)) (o1 40 19 (by decide +kernel) (by decide)) hK
        refine rs_is (as := [.int zn, .int zh]) (r := [.int zk, .ref (u 44)]) wk_q93 (show wk_at wk_m93 108 40 111 2 0 0 = true by decide +kernel) rfl rfl (Nat.le_of_ble_eq_true rfl) (mj := am_m111) rfl ⟨by decide, by decide, Nat.le_of_ble_eq_true rfl⟩ ?_
        refine md_ro (as := [.int zn, .int zh]) hVn rfl hP1.1 hK1 ⟨Or.inr (ab_g_0.mpr ⟨zn, rfl, n1, n2⟩), Or.inr (ab_g_0.mpr ⟨zh, rfl, by rw [md_a]; omega, by rw [md_a]; omega⟩), trivial⟩ rfl rfl rfl (fun zN N1 N2 => ?_)
        rw [md_a] at N1 N2
        refine ⟨_, _, _, _, rfl, ?_⟩
        show cl_Rn am_m93 (111, [some (.ref (u 40)), some (.int zk), some (.int zn), some (.int zj), some (.int zh)], [.int zN, .int zk, .ref (u 44)], h1, 0, 0) _
        refine md_ias hut wk_q93 (show wk_at wk_m93 111 31 0 0 0 0 = true by decide +kernel) hP1 (k := 44) (by decide +kernel) (by decide) (by decide +kernel) rfl k1 hnk (by exact k2) (by decide +kernel) ⟨w_r 0 5, List.mem_singleton_self _, zN, rfl, by show Nat.add 2147483648 0 ≤ _; rw [md_a]; omega, by show _ ≤ Nat.add 2147483648 5; rw [md_a]; omega⟩ (fun h2 hP2 e2 => ?_)
        have o2 : ∀ k i, w_uq k = true → k ≠ 43 → k ≠ 44 → ab_sl h2 (u k) i = ab_sl h (u k) i := fun k i hk hk3 hk4 => by rw [e2, if_neg (fun z => hud k 44 hk (by decide +kernel) hk4 z.1)]; exact o1 k i hk hk3
        refine rs_st (cmp := am_cmp) wk_q93 (show wk_at wk_m93 112 3 0 1 0 0 = true by decide +kernel) rfl ?_
        refine rs_st (cmp := am_cmp) wk_q93 (show wk_at wk_m93 113 2 1 1 0 0 = true by decide +kernel) rfl ?_
        refine rs_st (cmp := am_cmp) wk_q93 (show wk_at wk_m93 114 3 0 1 0 0 = true by decide +kernel) rfl ?_
        refine md_get hut wk_q93 (show wk_at wk_m93 115 25 9 7 0 0 = true by decide +kernel) hP2.1 (v := .int zp) (by rw [o2 40 7 (by decide +kernel) (by decide) (by decide)]; exact hzp) ?_
        obtain ⟨np, hnp⟩ : ∃ n, ab_b zp - 2147483648 = n := ⟨_, rfl⟩
        refine rs_iv (as := [.int zk, .int zp]) (r := []) wk_q93 (show wk_at wk_m93 118 40 86 2 2 9 = true by decide +kernel) hP2.1 hu0 hk40 rfl rfl (Nat.le_of_ble_eq_true rfl) (mj := am_m86) rfl ⟨by decide, by decide, Nat.le_of_ble_eq_true rfl⟩ ?_
        show cl_Rn am_m86 (0, [some (.ref (u 40)), some (.int zk), some (.int zp)], [], h2, 0, 0) _
        refine md_copy_core hU hut hP2 (fun k hk => ?_) k1 p1 hnk hnp k2 (by omega) (fun h3 hP3 e3 e4 => ⟨_, _, _, _, rfl, ?_⟩)
        · simp only [List.mem_cons, List.not_mem_nil, or_false] at hk
          rcases hk with rfl | rfl | rfl | rfl | rfl | rfl | rfl | rfl | rfl | rfl | rfl <;> decide +kernel
        have o3 : ∀ k i, w_uq k = true → k ∉ [43, 44, 45, 46, 47, 48, 49, 50, 51, 52, 53] → ab_sl h3 (u k) i = ab_sl h (u k) i := fun k i hk hn => by
          rw [e4 (u k) i (fun k' hk' e => by
            have hk2 : w_uq k' = true := by
              simp only [List.mem_cons, List.not_mem_nil, or_false] at hk'
              rcases hk' with rfl | rfl | rfl | rfl | rfl | rfl | rfl | rfl | rfl | rfl | rfl <;> decide +kernel
            exact hud k k' hk hk2 (fun z => hn (by rw [z]; exact hk')) e)]
          exact o2 k i hk (fun z => hn (by rw [z]; decide)) (fun z => hn (by rw [z]; decide))
        show cl_Rn am_m93 (121, [some (.ref (u 40)), some (.int zk), some (.int zn), some (.int zj), some (.int zh)], [], h3, 0, 0) _
        refine rs_st (cmp := am_cmp) wk_q93 (show wk_at wk_m93 121 3 0 1 0 0 = true by decide +kernel) rfl ?_
        refine rs_st (cmp := am_cmp) wk_q93 (show wk_at wk_m93 122 18 0 0 0 0 = true by decide +kernel) rfl ?_
        refine md_get hut wk_q93 (show wk_at wk_m93 123 25 9 7 0 0 = true by decide +kernel) hP3.1 (v := .int zp) (by rw [o3 40 7 (by decide +kernel) (by decide)]; exact hzp) ?_
        refine rs_st (cmp := am_cmp) wk_q93 (show wk_at wk_m93 126 1 9 1 0 0 = true by decide +kernel) rfl ?_
        refine rs_st (cmp := am_cmp) wk_q93 (show wk_at wk_m93 127 7 0 0 0 0 = true by decide +kernel) rfl ?_
        have hinc := ab_b_add (x := zp) (y := Int32.ofNat (9 / 8)) (by omega) (by omega)
        refine md_put hut wk_q93 (show wk_at wk_m93 128 26 9 7 0 0 = true by decide +kernel) hP3 (by decide) (by decide +kernel) (by rw [hG7]; exact ⟨_, List.mem_singleton_self _, _, rfl, by show 2147483648 ≤ _; omega, by show _ ≤ 2147483708; omega⟩) (fun h5 hP5 e5 => ?_)
        have o5 : ∀ k i, w_uq k = true → k ≠ 40 → ab_sl h5 (u k) i = ab_sl h3 (u k) i := fun k i hk hk4 => by rw [e5, if_neg (fun z => hud k 40 hk (by decide +kernel) hk4 z.1)]
        refine rs_en (cmp := am_cmp) wk_q93 (show wk_at wk_m93 131 46 0 0 0 0 = true by decide +kernel) rfl (md_po hut hP5 hK (fun k hk i => ?_) ?_ (fun i hi => ?_) ?_ C hC)
        · simp only [List.mem_cons, List.not_mem_nil, or_false] at hk
          rcases hk with rfl | rfl | rfl | rfl | rfl | rfl | rfl <;> (rw [o5 _ i (by decide +kernel) (by decide)]; exact o3 _ i (by decide +kernel) (by decide))
        · rw [e5, if_neg (by omega)]
          exact o3 40 19 (by decide +kernel) (by decide)
        · refine ⟨if i = np then nk else i, by split <;> omega, ?_, ?_, ?_⟩
          · rw [o5 49 i (by decide +kernel) (by decide), e3 49 i (by decide +kernel) (by decide)]
            by_cases e : i = np
            · rw [if_pos e, if_pos e]
              exact o2 49 nk (by decide +kernel) (by decide) (by decide)
            · rw [if_neg e, if_neg e]
              exact o2 49 i (by decide +kernel) (by decide) (by decide)
          · rw [o5 52 i (by decide +kernel) (by decide), e3 52 i (by decide +kernel) (by decide)]
            by_cases e : i = np
            · rw [if_pos e, if_pos e]
              exact o2 52 nk (by decide +kernel) (by decide) (by decide)
            · rw [if_neg e, if_neg e]
              exact o2 52 i (by decide +kernel) (by decide) (by decide)
          · rw [o5 53 i (by decide +kernel) (by decide), e3 53 i (by decide +kernel) (by decide)]
            by_cases e : i = np
            · rw [if_pos e, if_pos e]
              exact o2 53 nk (by decide +kernel) (by decide) (by decide)
            · rw [if_neg e, if_neg e]
              exact o2 53 i (by decide +kernel) (by decide) (by decide)
        · unfold km_Q
          rw [md_v_int (by rw [e5, if_pos ⟨rfl, rfl⟩]), md_v_int hzp]
          omega
