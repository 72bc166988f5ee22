/-! ===== by hand: a frame into the queue ===== -/
section RSJ
variable {fty : Nat → Nat → Option FieldType} {dfl : Nat → Option (List Value)} {cmp : Nat → Option (Option Nat)} {lk : Nat → Nat → Option am_K} {ms : Nat → Option am_M} {cx : Nat → Option Nat}
variable {tls : Nat → List Nat} {mi : am_M} {mf : fm_M} {pc a b c d k q : Nat} {lo : List (Option Value)} {h : am_H} {Q : am_R → Prop}
theorem rs_ict (hmf : wk_mck fty lk tls mi mf = true) (hw : wk_at mf pc 23 a b c d = true) {x y : Int32} {r : List Value} (hc : wk_c a x y = true) (hn : Rn fty dfl cmp lk ms cx mi (b, lo, r, h, k, q) Q) : Rn fty dfl cmp lk ms cx mi (pc, lo, .int y :: .int x :: r, h, k, q) Q := by
  refine rs_st (cmp := cmp) hmf hw ?_ hn
  simp only [wk_ex]
  rw [hc]
  rfl
theorem rs_icf (hmf : wk_mck fty lk tls mi mf = true) (hw : wk_at mf pc 23 a b c d = true) {x y : Int32} {r : List Value} (hc : wk_c a x y = false) (hn : Rn fty dfl cmp lk ms cx mi (pc + 3, lo, r, h, k, q) Q) : Rn fty dfl cmp lk ms cx mi (pc, lo, .int y :: .int x :: r, h, k, q) Q := by
  refine rs_st (cmp := cmp) hmf hw ?_ hn
  simp only [wk_ex]
  rw [hc]
  rfl
theorem rs_ift (hmf : wk_mck fty lk tls mi mf = true) (hw : wk_at mf pc 22 a b c d = true) {x : Int32} {r : List Value} (hc : wk_c a x 0 = true) (hn : Rn fty dfl cmp lk ms cx mi (b, lo, r, h, k, q) Q) : Rn fty dfl cmp lk ms cx mi (pc, lo, .int x :: r, h, k, q) Q := by
  refine rs_st (cmp := cmp) hmf hw ?_ hn
  simp only [wk_ex]
  rw [hc]
  rfl
theorem rs_iff (hmf : wk_mck fty lk tls mi mf = true) (hw : wk_at mf pc 22 a b c d = true) {x : Int32} {r : List Value} (hc : wk_c a x 0 = false) (hn : Rn fty dfl cmp lk ms cx mi (pc + 3, lo, r, h, k, q) Q) : Rn fty dfl cmp lk ms cx mi (pc, lo, .int x :: r, h, k, q) Q := by
  refine rs_st (cmp := cmp) hmf hw ?_ hn
  simp only [wk_ex]
  rw [hc]
  rfl
/-- a division's rest by a known number -/
theorem rs_rem (hmf : wk_mck fty lk tls mi mf = true) (hw : wk_at mf pc 13 a b c d = true) {x y : Int32} {r : List Value} (hy : y ≠ 0) (hn : Rn fty dfl cmp lk ms cx mi (pc + 1, lo, .int (x - x / y * y) :: r, h, k, q) Q) : Rn fty dfl cmp lk ms cx mi (pc, lo, .int y :: .int x :: r, h, k, q) Q := by
  refine rs_st (cmp := cmp) hmf hw ?_ hn
  simp only [wk_ex]
  unfold am_bin
  rw [if_pos rfl]
  dsimp only
  rw [if_neg hy]
  rfl
end RSJ
/-- a slot of a cell of a kind that holds an int -/
theorem kc_int {mc : Nat} {τ : Nat → Nat} {tv : Nat} {h : am_H} (hI : ab_I w_kd w_un (w_G mc) τ tv h) {x κ i lo hi : Nat} (hx : τ x = κ) (h0 : κ ≠ 0) (hi' : i < (w_kd κ).2) (hG : w_G mc κ (ab_gi w_un κ i) = [(0, lo, hi)]) : ∃ z : Int32, ab_sl h x i = some (.int z) ∧ lo ≤ ab_b z ∧ ab_b z ≤ hi := by
  obtain ⟨vs, y, -, -, -, hs, w, hw, hg⟩ := ab_I_sl hI (a := x) (i := i) (by rw [hx]; exact h0) (by rw [hx]; exact hi')
  rw [hx, hG] at hw
  have := List.mem_singleton.mp hw
  subst this
  obtain ⟨z, rfl, z1, z2⟩ := hg
  exact ⟨z, hs, z1, z2⟩
theorem kc_ref {mc : Nat} {τ : Nat → Nat} {tv : Nat} {h : am_H} (hI : ab_I w_kd w_un (w_G mc) τ tv h) {x κ i κ' b : Nat} (hx : τ x = κ) (h0 : κ ≠ 0) (hi' : i < (w_kd κ).2) (hG : w_G mc κ (ab_gi w_un κ i) = [(2, κ', b)]) : ∃ y, ab_sl h x i = some (.ref y) ∧ τ y = κ' ∧ κ' ≠ 0 := by
  obtain ⟨vs, y, -, -, -, hs, w, hw, hg⟩ := ab_I_sl hI (a := x) (i := i) (by rw [hx]; exact h0) (by rw [hx]; exact hi')
  rw [hx, hG] at hw
  have := List.mem_singleton.mp hw
  subst this
  obtain ⟨z, rfl, z1, z2⟩ := hg
  exact ⟨z, hs, z1, z2⟩
def kc_put (k r f s : ab_V) (mc : Nat) : ab_C := ([(1, 80, 0), k, w_mm mc, r, f, s], [], [(0, (3, 0, 0), [])], 0x1f0000000000000000000000000000000000000000000000000000000000000000000000000000000000000000000000000000000000000000000000000000000000000000000000000000000000000000000000000000000000000000000000000000000000000000000000000000000000000000000000000000000000000000000000000000000400000000000000000000000000000000000000000000000000000000000000000000000000000000, w_g0)
set_option maxRecDepth 100000 in
theorem kc_put_core {mc : Nat} {τ u : Nat → Nat} {tv : Nat} (hmc : Nat.beq mc 0 = false) {h : am_H} (hI : ab_I w_kd w_un (w_G mc) τ tv h) (hK : kc_K τ mc h) {x : Nat} (hx : τ x = 5) (hxu : u 5 = x) {zk zs zr zf zg : Int32} (gk : ∃ w ∈ w_G mc 22 0, ab_gc τ tv w (.int zk)) (gs : ∃ w ∈ w_G mc 22 1, ab_gc τ tv w (.int zs)) (gr : ∃ w ∈ w_G mc 22 2, ab_gc τ tv w (.int zr)) (hal : kc_al mc (some (.int zk)) (some (.int zf)) (some (.int zg))) (C : ab_C) (hC : C.2.2 = ([(0, (3, 0, 0), [])], 0x1f0000000000000000000000000000000000000000000000000000000000000000000000000000000000000000000000000000000000000000000000000000000000000000000000000000000000000000000000000000000000000000000000000000000000000000000000000000000000000000000000000000000000000000000000000000000400000000000000000000000000000000000000000000000000000000000000000000000000000000, w_g0)) : cl_Rn am_m47 (0, [some (.ref x), some (.int zk), some (.int zs), some (.int zr), some (.int zf), some (.int zg), none], [], h, 0, 0) (ab_Po w_kd w_un (w_G mc) τ u tv (kc_K τ mc) (kc_P u) (fun _ => 0) C h) := by
  have hx0 : τ x ≠ 0 := by rw [hx]; decide
  have hkx : (w_kd (τ x)).1 = 4 := by rw [hx]; rfl
  have hG2 : w_G mc 5 (ab_gi w_un 5 2) = [w_r 0 16] := by
    show (bif Nat.beq mc 0 then [w_e 0] else [w_r 0 16]) = _
    rw [hmc]
    rfl
  have hP0 : cl_H mc τ tv 0x1f0000000000000000000000000000000000000000000000000000000000000000000000000000000000000000000000000000000000000000000000000000000000000000000000000000000000000000000000000000000000000000000000000000000000000000000000000000000000000000000000000000000000000000000000000000000400000000000000000000000000000000000000000000000000000000000000000000000000000000 h h 0 := cl_0 hI
  obtain ⟨pl, hpl, p1, p2⟩ := kc_ref hI hx (by decide) (i := 0) (by decide) (κ' := 23) (b := 0) rfl
  obtain ⟨zt, hzt, t1, t2⟩ := kc_int hI hx (by decide) (i := 1) (by decide) (lo := 2147483648) (hi := 2147483663) rfl
  obtain ⟨zl, hzl, l1, l2⟩ := kc_int hI hx (by decide) (i := 2) (by decide) (lo := 2147483648) (hi := 2147483664) hG2
  have l1 : 2147483648 ≤ ab_b zl := l1
  have l2 : ab_b zl ≤ 2147483664 := l2
  have hend : ∀ h', cl_H mc τ tv 0x1f0000000000000000000000000000000000000000000000000000000000000000000000000000000000000000000000000000000000000000000000000000000000000000000000000000000000000000000000000000000000000000000000000000000000000000000000000000000000000000000000000000000000000000000000000000000400000000000000000000000000000000000000000000000000000000000000000000000000000000 h h' 0 → kc_K τ mc h' → (∃ z : Int32, ab_sl h' x 2 = some (.int z) ∧ ab_b zl ≤ ab_b z) → ab_Po w_kd w_un (w_G mc) τ u tv (kc_K τ mc) (kc_P u) (fun _ => 0) C h (.inl none, h', 0, 0) := fun h' hP' hK' hl' => by
    refine ⟨(0, (3, 0, 0), []), by rw [hC]; exact List.mem_singleton_self _, Or.inl ⟨rfl, rfl⟩, ?_, fun f hf => by cases hf⟩
    rw [hC]
    refine cl_Hp hP' hK' ?_ (Nat.le_refl _) (Nat.le_refl _) (Nat.le_refl _)
    obtain ⟨z, hz, hz2⟩ := hl'
    unfold kc_P
    rw [hxu, hz, hzl]
    show 2147483664 - ab_b z + 1000 ≤ 2147483664 - ab_b zl + 1000
    omega
  refine rs_st (cmp := am_cmp) wk_q47 (show wk_at wk_m47 0 3 0 1 0 0 = true by decide +kernel) rfl ?_
  refine rs_get wk_q47 (show wk_at wk_m47 1 25 4 2 0 0 = true by decide +kernel) hP0.1 hx0 hkx (v := .int zl) hzl ?_
  refine rs_st (cmp := am_cmp) wk_q47 (show wk_at wk_m47 4 1 129 2 0 0 = true by decide +kernel) rfl ?_
  have c16 : ab_b (Int32.ofNat (129 / 8)) = 2147483664 := by decide
  cases hc : wk_c 1 zl (Int32.ofNat (129 / 8)) with
  | false =>
    refine rs_icf wk_q47 (show wk_at wk_m47 6 23 1 10 0 0 = true by decide +kernel) hc ?_
    refine rs_en (cmp := am_cmp) wk_q47 (show wk_at wk_m47 9 46 0 0 0 0 = true by decide +kernel) rfl (hend h hP0 hK ⟨zl, hzl, Nat.le_refl _⟩)
  | true =>
    have hne : ab_b zl ≠ 2147483664 := fun e => by
      have : zl = Int32.ofNat (129 / 8) := ab_b_inj (by rw [e, c16])
      rw [this] at hc
      revert hc
      decide
    refine rs_ict wk_q47 (show wk_at wk_m47 6 23 1 10 0 0 = true by decide +kernel) hc ?_
    refine rs_st (cmp := am_cmp) wk_q47 (show wk_at wk_m47 10 3 0 1 0 0 = true by decide +kernel) rfl ?_
    refine rs_get wk_q47 (show wk_at wk_m47 11 25 4 0 0 0 = true by decide +kernel) hP0.1 hx0 hkx (v := .ref pl) hpl ?_
    refine rs_st (cmp := am_cmp) wk_q47 (show wk_at wk_m47 14 3 0 1 0 0 = true by decide +kernel) rfl ?_
    refine rs_get wk_q47 (show wk_at wk_m47 15 25 4 1 0 0 = true by decide +kernel) hP0.1 hx0 hkx (v := .int zt) hzt ?_
    refine rs_st (cmp := am_cmp) wk_q47 (show wk_at wk_m47 18 3 0 1 0 0 = true by decide +kernel) rfl ?_
    refine rs_get wk_q47 (show wk_at wk_m47 19 25 4 2 0 0 = true by decide +kernel) hP0.1 hx0 hkx (v := .int zl) hzl ?_
    refine rs_st (cmp := am_cmp) wk_q47 (show wk_at wk_m47 22 7 0 0 0 0 = true by decide +kernel) rfl ?_
    refine rs_st (cmp := am_cmp) wk_q47 (show wk_at wk_m47 23 1 129 2 0 0 = true by decide +kernel) rfl ?_
    refine rs_rem wk_q47 (show wk_at wk_m47 25 13 0 0 0 0 = true by decide +kernel) (by decide) ?_
    have hadd := ab_b_add (x := zt) (y := zl) (by omega) (by omega)
    have hrem := ab_b_rem (x := zt + zl) (y := Int32.ofNat (129 / 8)) (by omega) (by rw [c16]; decide)
    rw [c16] at hrem
    generalize zt + zl - (zt + zl) / Int32.ofNat (129 / 8) * Int32.ofNat (129 / 8) = zi at hrem
    have hi1 : ab_b zi - 2147483648 < 16 := by omega
    have hpl0 : τ pl ≠ 0 := by rw [p1]; decide
    obtain ⟨fr, hfr, f1, f2⟩ := kc_ref hI p1 (by decide) (i := ab_b zi - 2147483648) (by exact hi1) (κ' := 22) (b := 0) rfl
    refine rs_aal wk_cmp_ok wk_q47 (show wk_at wk_m47 26 30 0 0 0 0 = true by decide +kernel) hP0.1 hpl0 (by rw [p1]; decide) (by omega) hfr ?_
    refine rs_st (cmp := am_cmp) wk_q47 (show wk_at wk_m47 27 5 6 2 0 0 = true by decide +kernel) rfl ?_
    have hf0 : τ fr ≠ 0 := by rw [f1]; decide
    have hkf : (w_kd (τ fr)).1 = 3 := by rw [f1]; rfl
    have gf : ∀ z : Int32, ∃ w ∈ w_G mc 22 3, ab_gc τ tv w (.int z) := fun z => ⟨ab_top, List.mem_singleton_self _, z, rfl, Nat.zero_le _, Nat.le_of_lt_succ (ab_b_lt z)⟩
    have gg : ∀ z : Int32, ∃ w ∈ w_G mc 22 4, ab_gc τ tv w (.int z) := fun z => ⟨ab_top, List.mem_singleton_self _, z, rfl, Nat.zero_le _, Nat.le_of_lt_succ (ab_b_lt z)⟩
    refine rs_st (cmp := am_cmp) wk_q47 (show wk_at wk_m47 29 3 6 2 0 0 = true by decide +kernel) rfl ?_
    refine rs_st (cmp := am_cmp) wk_q47 (show wk_at wk_m47 31 2 1 1 0 0 = true by decide +kernel) rfl ?_
    refine rs_put wk_q47 (show wk_at wk_m47 32 26 3 0 0 0 = true by decide +kernel) hP0 hf0 hkf (by rw [f1]; decide) rfl (by rw [f1]; decide +kernel) (by rw [f1]; exact gk) (fun h1 hP1 e1 => ?_)
    refine rs_st (cmp := am_cmp) wk_q47 (show wk_at wk_m47 35 3 6 2 0 0 = true by decide +kernel) rfl ?_
    refine rs_st (cmp := am_cmp) wk_q47 (show wk_at wk_m47 37 2 2 1 0 0 = true by decide +kernel) rfl ?_
    refine rs_put wk_q47 (show wk_at wk_m47 38 26 3 1 0 0 = true by decide +kernel) hP1 hf0 hkf (by rw [f1]; decide) rfl (by rw [f1]; decide +kernel) (by rw [f1]; exact gs) (fun h2 hP2 e2 => ?_)
    refine rs_st (cmp := am_cmp) wk_q47 (show wk_at wk_m47 41 3 6 2 0 0 = true by decide +kernel) rfl ?_
    refine rs_st (cmp := am_cmp) wk_q47 (show wk_at wk_m47 43 2 3 1 0 0 = true by decide +kernel) rfl ?_
    refine rs_put wk_q47 (show wk_at wk_m47 44 26 3 2 0 0 = true by decide +kernel) hP2 hf0 hkf (by rw [f1]; decide) rfl (by rw [f1]; decide +kernel) (by rw [f1]; exact gr) (fun h3 hP3 e3 => ?_)
    refine rs_st (cmp := am_cmp) wk_q47 (show wk_at wk_m47 47 3 6 2 0 0 = true by decide +kernel) rfl ?_
    refine rs_st (cmp := am_cmp) wk_q47 (show wk_at wk_m47 49 2 4 2 0 0 = true by decide +kernel) rfl ?_
    refine rs_put wk_q47 (show wk_at wk_m47 51 26 3 3 0 0 = true by decide +kernel) hP3 hf0 hkf (by rw [f1]; decide) rfl (by rw [f1]; decide +kernel) (by rw [f1]; exact gf _) (fun h4 hP4 e4 => ?_)
    refine rs_st (cmp := am_cmp) wk_q47 (show wk_at wk_m47 54 3 6 2 0 0 = true by decide +kernel) rfl ?_
    refine rs_st (cmp := am_cmp) wk_q47 (show wk_at wk_m47 56 2 5 2 0 0 = true by decide +kernel) rfl ?_
    refine rs_put wk_q47 (show wk_at wk_m47 58 26 3 4 0 0 = true by decide +kernel) hP4 hf0 hkf (by rw [f1]; decide) rfl (by rw [f1]; decide +kernel) (by rw [f1]; exact gg _) (fun h5 hP5 e5 => ?_)
    have hxf : x ≠ fr := fun e => by rw [e, f1] at hx; cases hx
    have hzl5 : ab_sl h5 x 2 = some (.int zl) := by rw [e5, if_neg (fun z => hxf z.1), e4, if_neg (fun z => hxf z.1), e3, if_neg (fun z => hxf z.1), e2, if_neg (fun z => hxf z.1), e1, if_neg (fun z => hxf z.1)]; exact hzl
    refine rs_st (cmp := am_cmp) wk_q47 (show wk_at wk_m47 61 3 0 1 0 0 = true by decide +kernel) rfl ?_
    refine rs_st (cmp := am_cmp) wk_q47 (show wk_at wk_m47 62 18 0 0 0 0 = true by decide +kernel) rfl ?_
    refine rs_get wk_q47 (show wk_at wk_m47 63 25 4 2 0 0 = true by decide +kernel) hP5.1 hx0 hkx (v := .int zl) hzl5 ?_
    refine rs_st (cmp := am_cmp) wk_q47 (show wk_at wk_m47 66 1 9 1 0 0 = true by decide +kernel) rfl ?_
    refine rs_st (cmp := am_cmp) wk_q47 (show wk_at wk_m47 67 7 0 0 0 0 = true by decide +kernel) rfl ?_
    have c1 : ab_b (Int32.ofNat (9 / 8)) = 2147483649 := by decide
    have hl1 := ab_b_add (x := zl) (y := Int32.ofNat (9 / 8)) (by omega) (by omega)
    refine rs_put wk_q47 (show wk_at wk_m47 68 26 4 2 0 0 = true by decide +kernel) hP5 hx0 hkx (by rw [hx]; decide) rfl (by rw [hx]; decide +kernel) (by rw [hx, hG2]; exact ⟨_, List.mem_singleton_self _, _, rfl, by show 2147483648 ≤ _; omega, by show _ ≤ 2147483664; omega⟩) (fun h6 hP6 e6 => ?_)
    refine rs_en (cmp := am_cmp) wk_q47 (show wk_at wk_m47 71 46 0 0 0 0 = true by decide +kernel) rfl (hend h6 hP6 ?_ ⟨_, by rw [e6, if_pos ⟨rfl, rfl⟩], by omega⟩)
    intro a ha
    have hax : a ≠ x := fun e => by rw [e, hx] at ha; cases ha
    by_cases e : a = fr
    · subst e
      have k0 : ab_sl h6 a 0 = some (.int zk) := by rw [e6, if_neg (fun z => hax z.1), e5, if_neg (by omega), e4, if_neg (by omega), e3, if_neg (by omega), e2, if_neg (by omega), e1, if_pos ⟨rfl, rfl⟩]
      have k3 : ab_sl h6 a 3 = some (.int zf) := by rw [e6, if_neg (fun z => hax z.1), e5, if_neg (by omega), e4, if_pos ⟨rfl, rfl⟩]
      have k4 : ab_sl h6 a 4 = some (.int zg) := by rw [e6, if_neg (fun z => hax z.1), e5, if_pos ⟨rfl, rfl⟩]
      rw [k0, k3, k4]
      exact hal
    · have ks : ∀ i, ab_sl h6 a i = ab_sl h a i := fun i => by rw [e6, if_neg (fun z => hax z.1), e5, if_neg (fun z => e z.1), e4, if_neg (fun z => e z.1), e3, if_neg (fun z => e z.1), e2, if_neg (fun z => e z.1), e1, if_neg (fun z => e z.1)]
      rw [ks, ks, ks]
      exact hK a ha
theorem kc_put_ok {mc : Nat} {τ u : Nat → Nat} {tv : Nat} (hmc : Nat.beq mc 0 = false) {k r f s : ab_V} (hk : k.1 = 0) (hr : r.1 = 0) (hf : f.1 = 0) (hs : s.1 = 0) (hkk : 2147483648 ≤ k.2.1 ∧ k.2.2 ≤ 2147483651) (hrr : r = w_mm mc ∨ r = w_e 15) (hal : ∀ zk zf zg : Int32, k.2.1 ≤ ab_b zk → ab_b zk ≤ k.2.2 → f.2.1 ≤ ab_b zf → ab_b zf ≤ f.2.2 → s.2.1 ≤ ab_b zg → ab_b zg ≤ s.2.2 → kc_al mc (some (.int zk)) (some (.int zf)) (some (.int zg))) : cl_Vd mc τ u tv 47 (kc_put k r f s mc) := by
  intro mj hmj ρ h as had hI hK hA hF
  have hmj : am_m47 = mj := Option.some.inj hmj
  subst hmj
  have int : ∀ {v : ab_V} {x : Value}, v.1 = 0 → (v.1 = 5 ∨ ab_g τ tv ρ v x) → ∃ z : Int32, x = .int z ∧ v.2.1 ≤ ab_b z ∧ ab_b z ≤ v.2.2 := fun {v x} h0 hv => by
    obtain ⟨t, a, b⟩ := v
    have h0 : t = 0 := h0
    subst h0
    rcases hv with hv | hv
    · cases hv
    · exact hv
  match as, hA with
  | [v0, v1, v2, v3, v4, v5], hA =>
    obtain ⟨h0, h1, h2, h3, h4, h5, -⟩ := hA
    obtain ⟨zk, rfl, k1, k2⟩ := int hk h1
    obtain ⟨zs, rfl, s1, s2⟩ := int (v := w_mm mc) rfl h2
    obtain ⟨zr, rfl, r1, r2⟩ := int hr h3
    obtain ⟨zf, rfl, f1, f2⟩ := int hf h4
    obtain ⟨zg, rfl, g1, g2⟩ := int hs h5
    rcases h0 with h0 | ⟨rfl, x1, x2⟩
    · cases h0
    have x1 : τ (ρ 80) = 5 := x1
    refine kc_put_core hmc hI hK x1 (had 5 (by decide +kernel)).symm ⟨w_r 0 3, List.mem_singleton_self _, zk, rfl, Nat.le_trans hkk.1 k1, Nat.le_trans k2 hkk.2⟩ ⟨w_mm mc, List.mem_singleton_self _, zs, rfl, s1, s2⟩ ?_ (hal zk zf zg k1 k2 f1 f2 g1 g2) (kc_put k r f s mc) rfl
    rcases hrr with rfl | rfl
    · exact ⟨w_mm mc, List.mem_cons_self, zr, rfl, r1, r2⟩
    · exact ⟨w_e 15, List.mem_cons_of_mem _ List.mem_cons_self, zr, rfl, r1, r2⟩
  | [], hA => exact hA.elim
  | [_], hA => exact hA.2.elim
  | [_, _], hA => exact hA.2.2.elim
  | [_, _, _], hA => exact hA.2.2.2.elim
  | [_, _, _, _], hA => exact hA.2.2.2.2.elim
  | [_, _, _, _, _], hA => exact hA.2.2.2.2.2.elim
  | _ :: _ :: _ :: _ :: _ :: _ :: _ :: _, hA => exact hA.2.2.2.2.2.2.elim
