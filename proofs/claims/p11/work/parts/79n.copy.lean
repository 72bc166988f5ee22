/-! ===== the reference: say's kinds; a packet's copy ===== -/
theorem md_say_ok {mc : Nat} {τ u : Nat → Nat} {tv : Nat} (hU : ab_U w_uq τ u) (hut : ∀ k, w_uq k = true → τ (u k) = k) (hmc : Nat.beq mc 0 = false) {k r a b : ab_V} {w g : Nat} (hw : w < 63) (hk : k.1 = 0) (hr : r.1 = 0) (ha : a.1 = 0) (hb : b.1 = 0) (hkk : 2147483648 ≤ k.2.1 ∧ k.2.2 ≤ 2147483651) (hrr : r = w_mm mc ∨ r = w_e 15) (hal : ∀ zk zf zg : Int32, k.2.1 ≤ ab_b zk → ab_b zk ≤ k.2.2 → a.2.1 ≤ ab_b zf → ab_b zf ≤ a.2.2 → b.2.1 ≤ ab_b zg → ab_b zg ≤ b.2.2 → kc_al mc (some (.int zk)) (some (.int zf)) (some (.int zg))) (hh : ∀ x y : Nat, k.2.1 ≤ x → x ≤ k.2.2 → r.2.1 ≤ y → y ≤ r.2.2 → (x ≤ 2147483649 → y ≠ 2147483663) ∧ ¬ (x = 2147483651 ∧ y = 2147483663) ∧ km_w x y ≤ g) : md_Vd mc τ u tv 120 (md_say k r a b mc w g) := by
  intro mj hmj ρ h as had hI hK hA hF
  have hmj : am_m120 = mj := Option.some.inj hmj
  subst hmj
  have int : ∀ {v : ab_V} {x : Value}, v.1 = 0 → (v.1 = 5 ∨ ab_g τ tv ρ v x) → ∃ z : Int32, x = .int z ∧ v.2.1 ≤ ab_b z ∧ ab_b z ≤ v.2.2 := fun {v x} h0 hv => by
    obtain ⟨t, a, b⟩ := v
    have h0 : t = 0 := h0
    subst h0
    rcases hv with hv | hv
    · cases hv
    · exact hv
  match as, hA with
  | [v0, v1, v2, v3, v4, v5], hA =>
    obtain ⟨h0, h1, h2, h3, h4, h5, -⟩ := hA
    obtain ⟨zk, rfl, k1, k2⟩ := int hk h1
    obtain ⟨zs, rfl, s1, s2⟩ := int (v := w_mm mc) rfl h2
    obtain ⟨zr, rfl, r1, r2⟩ := int hr h3
    obtain ⟨za, rfl, f1, f2⟩ := int ha h4
    obtain ⟨zb, rfl, g1, g2⟩ := int hb h5
    rcases h0 with h0 | ⟨rfl, x1, x2⟩
    · cases h0
    have hx : ρ 640 = u 40 := had 40 (by decide +kernel)
    obtain ⟨zw, hzw, w1, w2⟩ := kc_fact hF
    rw [hx] at hzw
    obtain ⟨q1, q2, q3⟩ := hh _ _ k1 k2 r1 r2
    show cl_Rn am_m120 (0, [some (.ref (ρ 640)), some (.int zk), some (.int zs), some (.int zr), some (.int za), some (.int zb)], [], h, 0, 0) _
    rw [hx]
    refine md_say_core hU hut hmc hI hK hw hzw w1 w2 ⟨w_r 0 3, List.mem_singleton_self _, zk, rfl, Nat.le_trans hkk.1 k1, Nat.le_trans k2 hkk.2⟩ ⟨w_mm mc, List.mem_singleton_self _, zs, rfl, s1, s2⟩ ?_ (hal zk za zb k1 k2 f1 f2 g1 g2) q1 q2 q3 (md_say k r a b mc w g) rfl
    rcases hrr with rfl | rfl
    · exact ⟨w_mm mc, List.mem_cons_self, zr, rfl, r1, r2⟩
    · exact ⟨w_e 15, List.mem_cons_of_mem _ List.mem_cons_self, zr, rfl, r1, r2⟩
  | [], hA => exact hA.elim
  | [_], hA => exact hA.2.elim
  | [_, _], hA => exact hA.2.2.elim
  | [_, _, _], hA => exact hA.2.2.2.elim
  | [_, _, _, _], hA => exact hA.2.2.2.2.elim
  | [_, _, _, _, _], hA => exact hA.2.2.2.2.2.elim
  | _ :: _ :: _ :: _ :: _ :: _ :: _ :: _, hA => exact hA.2.2.2.2.2.2.elim
/-- a slot of a row of ints -/
theorem md_int {mc : Nat} {τ u : Nat → Nat} {tv : Nat} (hut : ∀ k, w_uq k = true → τ (u k) = k) {h : am_H} (hI : ab_I w_kd w_un (w_G mc) τ tv h) {k i : Nat} (hk : w_uq k = true) (hk0 : k ≠ 0) (hun : w_un k = true) (hi : i < (w_kd k).2) (hG : (w_G mc k 0).all (fun v => Nat.beq v.1 0) = true) : ∃ z : Int32, ab_sl h (u k) i = some (.int z) ∧ ∃ v ∈ w_G mc k 0, ab_gc τ tv v (.int z) := by
  have t := hut k hk
  obtain ⟨vs, x, -, -, -, hs, w, hw, hg⟩ := ab_I_sl hI (a := u k) (i := i) (by rw [t]; exact hk0) (by rw [t]; exact hi)
  rw [t, ab_gi_un hun] at hw
  have ht : w.1 = 0 := ab_beq (List.all_eq_true.mp hG w hw)
  obtain ⟨tg, a, b⟩ := w
  have ht : tg = 0 := ht
  subst ht
  obtain ⟨z, rfl, z1, z2⟩ := hg
  exact ⟨z, hs, (0, a, b), hw, z, rfl, z1, z2⟩
/-- an int stored into a row of ints -/
theorem md_ias {mc : Nat} {τ u : Nat → Nat} {tv : Nat} {mi : am_M} {mf : fm_M} {pc wr : Nat} {lo : List (Option Value)} {r : List Value} {h h0 : am_H} {Q : am_R → Prop} {i v : Int32} {k n : Nat} (hut : ∀ k, w_uq k = true → τ (u k) = k) (hmf : wk_mck am_fty am_lk wk_tls mi mf = true) (hw : wk_at mf pc 31 0 0 0 0 = true) (hP : cl_H mc τ tv wr h0 h 0) (hk : w_uq k = true) (hk0 : k ≠ 0) (hun : w_un k = true) (ht : (w_kd k).1 = 100) (hi : 2147483648 ≤ ab_b i) (hn : ab_b i - 2147483648 = n) (hlt : n < (w_kd k).2) (hwr : ab_tb wr (ab_bt w_kd k 0) = true) (hg : ∃ w ∈ w_G mc k 0, ab_gc τ tv w (.int v)) (hnx : ∀ h', cl_H mc τ tv wr h0 h' 0 → (∀ a' i', ab_sl h' a' i' = if a' = u k ∧ i' = n then some (.int v) else ab_sl h a' i') → cl_Rn mi (pc + 1, lo, r, h', 0, 0) Q) : cl_Rn mi (pc, lo, .int v :: .int i :: .ref (u k) :: r, h, 0, 0) Q := by
  have t := hut k hk
  subst hn
  exact rs_ias hmf hw hP (by rw [t]; exact hk0) (by rw [t]; exact ht) hi (by rw [t]; exact hlt) (by rw [t, ab_bt_arr (by omega)]; exact hwr) (by rw [t, ab_gi_un hun]; exact hg) hnx
/-- an int of a row of ints -/
theorem md_ial {mc : Nat} {τ u : Nat → Nat} {tv : Nat} {mi : am_M} {mf : fm_M} {pc : Nat} {lo : List (Option Value)} {r : List Value} {h : am_H} {Q : am_R → Prop} {i v : Int32} {k n : Nat} (hut : ∀ k, w_uq k = true → τ (u k) = k) (hmf : wk_mck am_fty am_lk wk_tls mi mf = true) (hw : wk_at mf pc 27 0 0 0 0 = true) (hI : ab_I w_kd w_un (w_G mc) τ tv h) (hk : w_uq k = true) (hk0 : k ≠ 0) (ht : (w_kd k).1 = 100) (hi : 2147483648 ≤ ab_b i) (hn : ab_b i - 2147483648 = n) (hv : ab_sl h (u k) n = some (.int v)) (hnx : cl_Rn mi (pc + 1, lo, .int v :: r, h, 0, 0) Q) : cl_Rn mi (pc, lo, .int i :: .ref (u k) :: r, h, 0, 0) Q := by
  have t := hut k hk
  subst hn
  exact rs_ald (Or.inl ⟨rfl, rfl⟩) hmf hw hI (by rw [t]; exact hk0) (by rw [t]; exact ht) hi hv hnx
/-- a field of the reference -/
theorem md_get {mc : Nat} {τ u : Nat → Nat} {tv : Nat} {mi : am_M} {mf : fm_M} {pc b : Nat} {lo : List (Option Value)} {r : List Value} {h : am_H} {Q : am_R → Prop} {v : Value} (hut : ∀ k, w_uq k = true → τ (u k) = k) (hmf : wk_mck am_fty am_lk wk_tls mi mf = true) (hw : wk_at mf pc 25 9 b 0 0 = true) (hI : ab_I w_kd w_un (w_G mc) τ tv h) (hv : ab_sl h (u 40) b = some v) (hnx : cl_Rn mi (pc + 3, lo, v :: r, h, 0, 0) Q) : cl_Rn mi (pc, lo, .ref (u 40) :: r, h, 0, 0) Q := by
  have t := hut 40 (by decide +kernel)
  exact rs_get hmf hw hI (by rw [t]; decide) (by rw [t]; rfl) hv hnx
def md_copy : ab_C := ([(1, 640, 0), w_r 0 79, w_r 0 79], [], [(0, (3, 0, 0), [])], 0x800000000000000080000000000000008000000000000000800000000000000080000000000000008000000000000000800000000000000080000000000000008000000000000000800000000000000080000000000000000000000000000000000000000000000000000000000000000000000000000000000000000000000000000000000000000000000000000000000000000000000000000000000000000000000000000000000000000000000000000000000000000000000000000000000000000000000000000000000000000000000000000000000000000000000000000000000000000000000000000000000000000000000000000000000000000000000000000000000000000000000000000000000000000000000000000000000000000000000000000000000000000000000000000000000000000000000000000000000000000000000000000000000000000000000000000000000000000000000000000000000000000000000000000000000000000000000000000000000000000000000000000000000000000000000000000000000000000000000000000000000000000000000000000000, w_g0)
theorem md_ud {τ u : Nat → Nat} (hut : ∀ k, w_uq k = true → τ (u k) = k) : ∀ p q, w_uq p = true → w_uq q = true → p ≠ q → u p ≠ u q := fun p q h1 h2 h3 e => h3 (by rw [← hut p h1, ← hut q h2, e])
set_option maxRecDepth 100000 in
/-- the eleven rows, one after the other -/
theorem md_copy_core {mc : Nat} {τ u : Nat → Nat} {tv wr : Nat} (hU : ab_U w_uq τ u) (hut : ∀ k, w_uq k = true → τ (u k) = k) {h0 h : am_H} (hP0 : cl_H mc τ tv wr h0 h 0) (hwr : ∀ k, k ∈ [43, 44, 45, 46, 47, 48, 49, 50, 51, 52, 53] → ab_tb wr (ab_bt w_kd k 0) = true) {zf zi : Int32} {nf ni : Nat} (f1 : 2147483648 ≤ ab_b zf) (i1 : 2147483648 ≤ ab_b zi) (hnf : ab_b zf - 2147483648 = nf) (hni : ab_b zi - 2147483648 = ni) (f2 : nf < 80) (i2 : ni < 80) {Q : am_R → Prop} (hQ : ∀ h', cl_H mc τ tv wr h0 h' 0 → (∀ k i, w_uq k = true → k ∈ [43, 44, 45, 46, 47, 48, 49, 50, 51, 52, 53] → ab_sl h' (u k) i = if i = ni then ab_sl h (u k) nf else ab_sl h (u k) i) → (∀ a i, (∀ k, k ∈ [43, 44, 45, 46, 47, 48, 49, 50, 51, 52, 53] → a ≠ u k) → ab_sl h' a i = ab_sl h a i) → Q (.inl none, h', 0, 0)) : cl_Rn am_m86 (0, [some (.ref (u 40)), some (.int zf), some (.int zi)], [], h, 0, 0) Q := by
  have hud := md_ud hut
  obtain ⟨z43, hz43, g43⟩ := md_int hut hP0.1 (k := 43) (i := nf) (by decide +kernel) (by decide) (by decide +kernel) (by exact f2) rfl
  obtain ⟨z44, hz44, g44⟩ := md_int hut hP0.1 (k := 44) (i := nf) (by decide +kernel) (by decide) (by decide +kernel) (by exact f2) rfl
  obtain ⟨z45, hz45, g45⟩ := md_int hut hP0.1 (k := 45) (i := nf) (by decide +kernel) (by decide) (by decide +kernel) (by exact f2) rfl
  obtain ⟨z46, hz46, g46⟩ := md_int hut hP0.1 (k := 46) (i := nf) (by decide +kernel) (by decide) (by decide +kernel) (by exact f2) rfl
  obtain ⟨z47, hz47, g47⟩ := md_int hut hP0.1 (k := 47) (i := nf) (by decide +kernel) (by decide) (by decide +kernel) (by exact f2) rfl
  obtain ⟨z48, hz48, g48⟩ := md_int hut hP0.1 (k := 48) (i := nf) (by decide +kernel) (by decide) (by decide +kernel) (by exact f2) rfl
  obtain ⟨z49, hz49, g49⟩ := md_int hut hP0.1 (k := 49) (i := nf) (by decide +kernel) (by decide) (by decide +kernel) (by exact f2) rfl
  obtain ⟨z50, hz50, g50⟩ := md_int hut hP0.1 (k := 50) (i := nf) (by decide +kernel) (by decide) (by decide +kernel) (by exact f2) rfl
  obtain ⟨z51, hz51, g51⟩ := md_int hut hP0.1 (k := 51) (i := nf) (by decide +kernel) (by decide) (by decide +kernel) (by exact f2) rfl
  obtain ⟨z52, hz52, g52⟩ := md_int hut hP0.1 (k := 52) (i := nf) (by decide +kernel) (by decide) (by decide +kernel) (by exact f2) rfl
  obtain ⟨z53, hz53, g53⟩ := md_int hut hP0.1 (k := 53) (i := nf) (by decide +kernel) (by decide) (by decide +kernel) (by exact f2) rfl
  refine rs_st (cmp := am_cmp) wk_q86 (show wk_at wk_m86 0 3 0 1 0 0 = true by decide +kernel) rfl ?_
  refine md_get hut wk_q86 (show wk_at wk_m86 1 25 9 8 0 0 = true by decide +kernel) hP0.1 (md_row hU hut hP0.1 (i := 8) (k := 43) (by decide) rfl (by decide +kernel)) ?_
  refine rs_st (cmp := am_cmp) wk_q86 (show wk_at wk_m86 4 2 2 1 0 0 = true by decide +kernel) rfl ?_
  refine rs_st (cmp := am_cmp) wk_q86 (show wk_at wk_m86 5 3 0 1 0 0 = true by decide +kernel) rfl ?_
  refine md_get hut wk_q86 (show wk_at wk_m86 6 25 9 8 0 0 = true by decide +kernel) hP0.1 (md_row hU hut hP0.1 (i := 8) (k := 43) (by decide) rfl (by decide +kernel)) ?_
  refine rs_st (cmp := am_cmp) wk_q86 (show wk_at wk_m86 9 2 1 1 0 0 = true by decide +kernel) rfl ?_
  refine md_ial hut wk_q86 (show wk_at wk_m86 10 27 0 0 0 0 = true by decide +kernel) hP0.1 (k := 43) (by decide +kernel) (by decide) rfl f1 hnf (v := z43) hz43 ?_
  refine md_ias hut wk_q86 (show wk_at wk_m86 11 31 0 0 0 0 = true by decide +kernel) hP0 (k := 43) (by decide +kernel) (by decide) (by decide +kernel) rfl i1 hni (by exact i2) (hwr 43 (by decide)) g43 (fun h1 hP1 e1 => ?_)
  refine rs_st (cmp := am_cmp) wk_q86 (show wk_at wk_m86 12 3 0 1 0 0 = true by decide +kernel) rfl ?_
  refine md_get hut wk_q86 (show wk_at wk_m86 13 25 9 9 0 0 = true by decide +kernel) hP1.1 (md_row hU hut hP1.1 (i := 9) (k := 44) (by decide) rfl (by decide +kernel)) ?_
  refine rs_st (cmp := am_cmp) wk_q86 (show wk_at wk_m86 16 2 2 1 0 0 = true by decide +kernel) rfl ?_
  refine rs_st (cmp := am_cmp) wk_q86 (show wk_at wk_m86 17 3 0 1 0 0 = true by decide +kernel) rfl ?_
  refine md_get hut wk_q86 (show wk_at wk_m86 18 25 9 9 0 0 = true by decide +kernel) hP1.1 (md_row hU hut hP1.1 (i := 9) (k := 44) (by decide) rfl (by decide +kernel)) ?_
  refine rs_st (cmp := am_cmp) wk_q86 (show wk_at wk_m86 21 2 1 1 0 0 = true by decide +kernel) rfl ?_
  refine md_ial hut wk_q86 (show wk_at wk_m86 22 27 0 0 0 0 = true by decide +kernel) hP1.1 (k := 44) (by decide +kernel) (by decide) rfl f1 hnf (v := z44) (by rw [e1, if_neg (fun z => hud 44 43 (by decide +kernel) (by decide +kernel) (by decide) z.1)]; exact hz44) ?_
  refine md_ias hut wk_q86 (show wk_at wk_m86 23 31 0 0 0 0 = true by decide +kernel) hP1 (k := 44) (by decide +kernel) (by decide) (by decide +kernel) rfl i1 hni (by exact i2) (hwr 44 (by decide)) g44 (fun h2 hP2 e2 => ?_)
  refine rs_st (cmp := am_cmp) wk_q86 (show wk_at wk_m86 24 3 0 1 0 0 = true by decide +kernel) rfl ?_
  refine md_get hut wk_q86 (show wk_at wk_m86 25 25 9 10 0 0 = true by decide +kernel) hP2.1 (md_row hU hut hP2.1 (i := 10) (k := 45) (by decide) rfl (by decide +kernel)) ?_
  refine rs_st (cmp := am_cmp) wk_q86 (show wk_at wk_m86 28 2 2 1 0 0 = true by decide +kernel) rfl ?_
  refine rs_st (cmp := am_cmp) wk_q86 (show wk_at wk_m86 29 3 0 1 0 0 = true by decide +kernel) rfl ?_
  refine md_get hut wk_q86 (show wk_at wk_m86 30 25 9 10 0 0 = true by decide +kernel) hP2.1 (md_row hU hut hP2.1 (i := 10) (k := 45) (by decide) rfl (by decide +kernel)) ?_
  refine rs_st (cmp := am_cmp) wk_q86 (show wk_at wk_m86 33 2 1 1 0 0 = true by decide +kernel) rfl ?_
  refine md_ial hut wk_q86 (show wk_at wk_m86 34 27 0 0 0 0 = true by decide +kernel) hP2.1 (k := 45) (by decide +kernel) (by decide) rfl f1 hnf (v := z45) (by rw [e2, if_neg (fun z => hud 45 44 (by decide +kernel) (by decide +kernel) (by decide) z.1), e1, if_neg (fun z => hud 45 43 (by decide +kernel) (by decide +kernel) (by decide) z.1)]; exact hz45) ?_
  refine md_ias hut wk_q86 (show wk_at wk_m86 35 31 0 0 0 0 = true by decide +kernel) hP2 (k := 45) (by decide +kernel) (by decide) (by decide +kernel) rfl i1 hni (by exact i2) (hwr 45 (by decide)) g45 (fun h3 hP3 e3 => ?_)
  refine rs_st (cmp := am_cmp) wk_q86 (show wk_at wk_m86 36 3 0 1 0 0 = true by decide +kernel) rfl ?_
  refine md_get hut wk_q86 (show wk_at wk_m86 37 25 9 11 0 0 = true by decide +kernel) hP3.1 (md_row hU hut hP3.1 (i := 11) (k := 46) (by decide) rfl (by decide +kernel)) ?_
  refine rs_st (cmp := am_cmp) wk_q86 (show wk_at wk_m86 40 2 2 1 0 0 = true by decide +kernel) rfl ?_
  refine rs_st (cmp := am_cmp) wk_q86 (show wk_at wk_m86 41 3 0 1 0 0 = true by decide +kernel) rfl ?_
  refine md_get hut wk_q86 (show wk_at wk_m86 42 25 9 11 0 0 = true by decide +kernel) hP3.1 (md_row hU hut hP3.1 (i := 11) (k := 46) (by decide) rfl (by decide +kernel)) ?_
  refine rs_st (cmp := am_cmp) wk_q86 (show wk_at wk_m86 45 2 1 1 0 0 = true by decide +kernel) rfl ?_
  refine md_ial hut wk_q86 (show wk_at wk_m86 46 27 0 0 0 0 = true by decide +kernel) hP3.1 (k := 46) (by decide +kernel) (by decide) rfl f1 hnf (v := z46) (by rw [e3, if_neg (fun z => hud 46 45 (by decide +kernel) (by decide +kernel) (by decide) z.1), e2, if_neg (fun z => hud 46 44 (by decide +kernel) (by decide +kernel) (by decide) z.1), e1, if_neg (fun z => hud 46 43 (by decide +kernel) (by decide +kernel) (by decide) z.1)]; exact hz46) ?_
  refine md_ias hut wk_q86 (show wk_at wk_m86 47 31 0 0 0 0 = true by decide +kernel) hP3 (k := 46) (by decide +kernel) (by decide) (by decide +kernel) rfl i1 hni (by exact i2) (hwr 46 (by decide)) g46 (fun h4 hP4 e4 => ?_)
  refine rs_st (cmp := am_cmp) wk_q86 (show wk_at wk_m86 48 3 0 1 0 0 = true by decide +kernel) rfl ?_
  refine md_get hut wk_q86 (show wk_at wk_m86 49 25 9 12 0 0 = true by decide +kernel) hP4.1 (md_row hU hut hP4.1 (i := 12) (k := 47) (by decide) rfl (by decide +kernel)) ?_
  refine rs_st (cmp := am_cmp) wk_q86 (show wk_at wk_m86 52 2 2 1 0 0 = true by decide +kernel) rfl ?_
  refine rs_st (cmp := am_cmp) wk_q86 (show wk_at wk_m86 53 3 0 1 0 0 = true by decide +kernel) rfl ?_
  refine md_get hut wk_q86 (show wk_at wk_m86 54 25 9 12 0 0 = true by decide +kernel) hP4.1 (md_row hU hut hP4.1 (i := 12) (k := 47) (by decide) rfl (by decide +kernel)) ?_
  refine rs_st (cmp := am_cmp) wk_q86 (show wk_at wk_m86 57 2 1 1 0 0 = true by decide +kernel) rfl ?_
  refine md_ial hut wk_q86 (show wk_at wk_m86 58 27 0 0 0 0 = true by decide +kernel) hP4.1 (k := 47) (by decide +kernel) (by decide) rfl f1 hnf (v := z47) (by rw [e4, if_neg (fun z => hud 47 46 (by decide +kernel) (by decide +kernel) (by decide) z.1), e3, if_neg (fun z => hud 47 45 (by decide +kernel) (by decide +kernel) (by decide) z.1), e2, if_neg (fun z => hud 47 44 (by decide +kernel) (by decide +kernel) (by decide) z.1), e1, if_neg (fun z => hud 47 43 (by decide +kernel) (by decide +kernel) (by decide) z.1)]; exact hz47) ?_
  refine md_ias hut wk_q86 (show wk_at wk_m86 59 31 0 0 0 0 = true by decide +kernel) hP4 (k := 47) (by decide +kernel) (by decide) (by decide +kernel) rfl i1 hni (by exact i2) (hwr 47 (by decide)) g47 (fun h5 hP5 e5 => ?_)
  refine rs_st (cmp := am_cmp) wk_q86 (show wk_at wk_m86 60 3 0 1 0 0 = true by decide +kernel) rfl ?_
  refine md_get hut wk_q86 (show wk_at wk_m86 61 25 9 13 0 0 = true by decide +kernel) hP5.1 (md_row hU hut hP5.1 (i := 13) (k := 48) (by decide) rfl (by decide +kernel)) ?_
  refine rs_st (cmp := am_cmp) wk_q86 (show wk_at wk_m86 64 2 2 1 0 0 = true by decide +kernel) rfl ?_
  refine rs_st (cmp := am_cmp) wk_q86 (show wk_at wk_m86 65 3 0 1 0 0 = true by decide +kernel) rfl ?_
  refine md_get hut wk_q86 (show wk_at wk_m86 66 25 9 13 0 0 = true by decide +kernel) hP5.1 (md_row hU hut hP5.1 (i := 13) (k := 48) (by decide) rfl (by decide +kernel)) ?_
  refine rs_st (cmp := am_cmp) wk_q86 (show wk_at wk_m86 69 2 1 1 0 0 = true by decide +kernel) rfl ?_
  refine md_ial hut wk_q86 (show wk_at wk_m86 70 27 0 0 0 0 = true by decide +kernel) hP5.1 (k := 48) (by decide +kernel) (by decide) rfl f1 hnf (v := z48) (by rw [e5, if_neg (fun z => hud 48 47 (by decide +kernel) (by decide +kernel) (by decide) z.1), e4, if_neg (fun z => hud 48 46 (by decide +kernel) (by decide +kernel) (by decide) z.1), e3, if_neg (fun z => hud 48 45 (by decide +kernel) (by decide +kernel) (by decide) z.1), e2, if_neg (fun z => hud 48 44 (by decide +kernel) (by decide +kernel) (by decide) z.1), e1, if_neg (fun z => hud 48 43 (by decide +kernel) (by decide +kernel) (by decide) z.1)]; exact hz48) ?_
  refine md_ias hut wk_q86 (show wk_at wk_m86 71 31 0 0 0 0 = true by decide +kernel) hP5 (k := 48) (by decide +kernel) (by decide) (by decide +kernel) rfl i1 hni (by exact i2) (hwr 48 (by decide)) g48 (fun h6 hP6 e6 => ?_)
  refine rs_st (cmp := am_cmp) wk_q86 (show wk_at wk_m86 72 3 0 1 0 0 = true by decide +kernel) rfl ?_
  refine md_get hut wk_q86 (show wk_at wk_m86 73 25 9 14 0 0 = true by decide +kernel) hP6.1 (md_row hU hut hP6.1 (i := 14) (k := 49) (by decide) rfl (by decide +kernel)) ?_
  refine rs_st (cmp := am_cmp) wk_q86 (show wk_at wk_m86 76 2 2 1 0 0 = true by decide +kernel) rfl ?_
  refine rs_st (cmp := am_cmp) wk_q86 (show wk_at wk_m86 77 3 0 1 0 0 = true by decide +kernel) rfl ?_
  refine md_get hut wk_q86 (show wk_at wk_m86 78 25 9 14 0 0 = true by decide +kernel) hP6.1 (md_row hU hut hP6.1 (i := 14) (k := 49) (by decide) rfl (by decide +kernel)) ?_
  refine rs_st (cmp := am_cmp) wk_q86 (show wk_at wk_m86 81 2 1 1 0 0 = true by decide +kernel) rfl ?_
  refine md_ial hut wk_q86 (show wk_at wk_m86 82 27 0 0 0 0 = true by decide +kernel) hP6.1 (k := 49) (by decide +kernel) (by decide) rfl f1 hnf (v := z49) (by rw [e6, if_neg (fun z => hud 49 48 (by decide +kernel) (by decide +kernel) (by decide) z.1), e5, if_neg (fun z => hud 49 47 (by decide +kernel) (by decide +kernel) (by decide) z.1), e4, if_neg (fun z => hud 49 46 (by decide +kernel) (by decide +kernel) (by decide) z.1), e3, if_neg (fun z => hud 49 45 (by decide +kernel) (by decide +kernel) (by decide) z.1), e2, if_neg (fun z => hud 49 44 (by decide +kernel) (by decide +kernel) (by decide) z.1), e1, if_neg (fun z => hud 49 43 (by decide +kernel) (by decide +kernel) (by decide) z.1)]; exact hz49) ?_
  refine md_ias hut wk_q86 (show wk_at wk_m86 83 31 0 0 0 0 = true by decide +kernel) hP6 (k := 49) (by decide +kernel) (by decide) (by decide +kernel) rfl i1 hni (by exact i2) (hwr 49 (by decide)) g49 (fun h7 hP7 e7 => ?_)
  refine rs_st (cmp := am_cmp) wk_q86 (show wk_at wk_m86 84 3 0 1 0 0 = true by decide +kernel) rfl ?_
  refine md_get hut wk_q86 (show wk_at wk_m86 85 25 9 15 0 0 = true by decide +kernel) hP7.1 (md_row hU hut hP7.1 (i := 15) (k := 50) (by decide) rfl (by decide +kernel)) ?_
  refine rs_st (cmp := am_cmp) wk_q86 (show wk_at wk_m86 88 2 2 1 0 0 = true by decide +kernel) rfl ?_
  refine rs_st (cmp := am_cmp) wk_q86 (show wk_at wk_m86 89 3 0 1 0 0 = true by decide +kernel) rfl ?_
  refine md_get hut wk_q86 (show wk_at wk_m86 90 25 9 15 0 0 = true by decide +kernel) hP7.1 (md_row hU hut hP7.1 (i := 15) (k := 50) (by decide) rfl (by decide +kernel)) ?_
  refine rs_st (cmp := am_cmp) wk_q86 (show wk_at wk_m86 93 2 1 1 0 0 = true by decide +kernel) rfl ?_
  refine md_ial hut wk_q86 (show wk_at wk_m86 94 27 0 0 0 0 = true by decide +kernel) hP7.1 (k := 50) (by decide +kernel) (by decide) rfl f1 hnf (v := z50) (by rw [e7, if_neg (fun z => hud 50 49 (by decide +kernel) (by decide +kernel) (by decide) z.1), e6, if_neg (fun z => hud 50 48 (by decide +kernel) (by decide +kernel) (by decide) z.1), e5, if_neg (fun z => hud 50 47 (by decide +kernel) (by decide +kernel) (by decide) z.1), e4, if_neg (fun z => hud 50 46 (by decide +kernel) (by decide +kernel) (by decide) z.1), e3, if_neg (fun z => hud 50 45 (by decide +kernel) (by decide +kernel) (by decide) z.1), e2, if_neg (fun z => hud 50 44 (by decide +kernel) (by decide +kernel) (by decide) z.1), e1, if_neg (fun z => hud 50 43 (by decide +kernel) (by decide +kernel) (by decide) z.1)]; exact hz50) ?_
  refine md_ias hut wk_q86 (show wk_at wk_m86 95 31 0 0 0 0 = true by decide +kernel) hP7 (k := 50) (by decide +kernel) (by decide) (by decide +kernel) rfl i1 hni (by exact i2) (hwr 50 (by decide)) g50 (fun h8 hP8 e8 => ?_)
  refine rs_st (cmp := am_cmp) wk_q86 (show wk_at wk_m86 96 3 0 1 0 0 = true by decide +kernel) rfl ?_
  refine md_get hut wk_q86 (show wk_at wk_m86 97 25 9 16 0 0 = true by decide +kernel) hP8.1 (md_row hU hut hP8.1 (i := 16) (k := 51) (by decide) rfl (by decide +kernel)) ?_
  refine rs_st (cmp := am_cmp) wk_q86 (show wk_at wk_m86 100 2 2 1 0 0 = true by decide +kernel) rfl ?_
  refine rs_st (cmp := am_cmp) wk_q86 (show wk_at wk_m86 101 3 0 1 0 0 = true by decide +kernel) rfl ?_
  refine md_get hut wk_q86 (show wk_at wk_m86 102 25 9 16 0 0 = true by decide +kernel) hP8.1 (md_row hU hut hP8.1 (i := 16) (k := 51) (by decide) rfl (by decide +kernel)) ?_
  refine rs_st (cmp := am_cmp) wk_q86 (show wk_at wk_m86 105 2 1 1 0 0 = true by decide +kernel) rfl ?_
  refine md_ial hut wk_q86 (show wk_at wk_m86 106 27 0 0 0 0 = true by decide +kernel) hP8.1 (k := 51) (by decide +kernel) (by decide) rfl f1 hnf (v := z51) (by rw [e8, if_neg (fun z => hud 51 50 (by decide +kernel) (by decide +kernel) (by decide) z.1), e7, if_neg (fun z => hud 51 49 (by decide +kernel) (by decide +kernel) (by decide) z.1), e6, if_neg (fun z => hud 51 48 (by decide +kernel) (by decide +kernel) (by decide) z.1), e5, if_neg (fun z => hud 51 47 (by decide +kernel) (by decide +kernel) (by decide) z.1), e4, if_neg (fun z => hud 51 46 (by decide +kernel) (by decide +kernel) (by decide) z.1), e3, if_neg (fun z => hud 51 45 (by decide +kernel) (by decide +kernel) (by decide) z.1), e2, if_neg (fun z => hud 51 44 (by decide +kernel) (by decide +kernel) (by decide) z.1), e1, if_neg (fun z => hud 51 43 (by decide +kernel) (by decide +kernel) (by decide) z.1)]; exact hz51) ?_
  refine md_ias hut wk_q86 (show wk_at wk_m86 107 31 0 0 0 0 = true by decide +kernel) hP8 (k := 51) (by decide +kernel) (by decide) (by decide +kernel) rfl i1 hni (by exact i2) (hwr 51 (by decide)) g51 (fun h9 hP9 e9 => ?_)
  refine rs_st (cmp := am_cmp) wk_q86 (show wk_at wk_m86 108 3 0 1 0 0 = true by decide +kernel) rfl ?_
  refine md_get hut wk_q86 (show wk_at wk_m86 109 25 9 17 0 0 = true by decide +kernel) hP9.1 (md_row hU hut hP9.1 (i := 17) (k := 52) (by decide) rfl (by decide +kernel)) ?_
  refine rs_st (cmp := am_cmp) wk_q86 (show wk_at wk_m86 112 2 2 1 0 0 = true by decide +kernel) rfl ?_
  refine rs_st (cmp := am_cmp) wk_q86 (show wk_at wk_m86 113 3 0 1 0 0 = true by decide +kernel) rfl ?_
  refine md_get hut wk_q86 (show wk_at wk_m86 114 25 9 17 0 0 = true by decide +kernel) hP9.1 (md_row hU hut hP9.1 (i := 17) (k := 52) (by decide) rfl (by decide +kernel)) ?_
  refine rs_st (cmp := am_cmp) wk_q86 (show wk_at wk_m86 117 2 1 1 0 0 = true by decide +kernel) rfl ?_
  refine md_ial hut wk_q86 (show wk_at wk_m86 118 27 0 0 0 0 = true by decide +kernel) hP9.1 (k := 52) (by decide +kernel) (by decide) rfl f1 hnf (v := z52) (by rw [e9, if_neg (fun z => hud 52 51 (by decide +kernel) (by decide +kernel) (by decide) z.1), e8, if_neg (fun z => hud 52 50 (by decide +kernel) (by decide +kernel) (by decide) z.1), e7, if_neg (fun z => hud 52 49 (by decide +kernel) (by decide +kernel) (by decide) z.1), e6, if_neg (fun z => hud 52 48 (by decide +kernel) (by decide +kernel) (by decide) z.1), e5, if_neg (fun z => hud 52 47 (by decide +kernel) (by decide +kernel) (by decide) z.1), e4, if_neg (fun z => hud 52 46 (by decide +kernel) (by decide +kernel) (by decide) z.1), e3, if_neg (fun z => hud 52 45 (by decide +kernel) (by decide +kernel) (by decide) z.1), e2, if_neg (fun z => hud 52 44 (by decide +kernel) (by decide +kernel) (by decide) z.1), e1, if_neg (fun z => hud 52 43 (by decide +kernel) (by decide +kernel) (by decide) z.1)]; exact hz52) ?_
  refine md_ias hut wk_q86 (show wk_at wk_m86 119 31 0 0 0 0 = true by decide +kernel) hP9 (k := 52) (by decide +kernel) (by decide) (by decide +kernel) rfl i1 hni (by exact i2) (hwr 52 (by decide)) g52 (fun h10 hP10 e10 => ?_)
  refine rs_st (cmp := am_cmp) wk_q86 (show wk_at wk_m86 120 3 0 1 0 0 = true by decide +kernel) rfl ?_
  refine md_get hut wk_q86 (show wk_at wk_m86 121 25 9 18 0 0 = true by decide +kernel) hP10.1 (md_row hU hut hP10.1 (i := 18) (k := 53) (by decide) rfl (by decide +kernel)) ?_
  refine rs_st (cmp := am_cmp) wk_q86 (show wk_at wk_m86 124 2 2 1 0 0 = true by decide +kernel) rfl ?_
  refine rs_st (cmp := am_cmp) wk_q86 (show wk_at wk_m86 125 3 0 1 0 0 = true by decide +kernel) rfl ?_
  refine md_get hut wk_q86 (show wk_at wk_m86 126 25 9 18 0 0 = true by decide +kernel) hP10.1 (md_row hU hut hP10.1 (i := 18) (k := 53) (by decide) rfl (by decide +kernel)) ?_
  refine rs_st (cmp := am_cmp) wk_q86 (show wk_at wk_m86 129 2 1 1 0 0 = true by decide +kernel) rfl ?_
  refine md_ial hut wk_q86 (show wk_at wk_m86 130 27 0 0 0 0 = true by decide +kernel) hP10.1 (k := 53) (by decide +kernel) (by decide) rfl f1 hnf (v := z53) (by rw [e10, if_neg (fun z => hud 53 52 (by decide +kernel) (by decide +kernel) (by decide) z.1), e9, if_neg (fun z => hud 53 51 (by decide +kernel) (by decide +kernel) (by decide) z.1), e8, if_neg (fun z => hud 53 50 (by decide +kernel) (by decide +kernel) (by decide) z.1), e7, if_neg (fun z => hud 53 49 (by decide +kernel) (by decide +kernel) (by decide) z.1), e6, if_neg (fun z => hud 53 48 (by decide +kernel) (by decide +kernel) (by decide) z.1), e5, if_neg (fun z => hud 53 47 (by decide +kernel) (by decide +kernel) (by decide) z.1), e4, if_neg (fun z => hud 53 46 (by decide +kernel) (by decide +kernel) (by decide) z.1), e3, if_neg (fun z => hud 53 45 (by decide +kernel) (by decide +kernel) (by decide) z.1), e2, if_neg (fun z => hud 53 44 (by decide +kernel) (by decide +kernel) (by decide) z.1), e1, if_neg (fun z => hud 53 43 (by decide +kernel) (by decide +kernel) (by decide) z.1)]; exact hz53) ?_
  refine md_ias hut wk_q86 (show wk_at wk_m86 131 31 0 0 0 0 = true by decide +kernel) hP10 (k := 53) (by decide +kernel) (by decide) (by decide +kernel) rfl i1 hni (by exact i2) (hwr 53 (by decide)) g53 (fun h11 hP11 e11 => ?_)
  refine rs_en (cmp := am_cmp) wk_q86 (show wk_at wk_m86 132 46 0 0 0 0 = true by decide +kernel) rfl (hQ h11 hP11 (fun k i hk hm => ?_) (fun a i hn => ?_))
  · simp only [List.mem_cons, List.not_mem_nil, or_false] at hm
    rcases hm with rfl | rfl | rfl | rfl | rfl | rfl | rfl | rfl | rfl | rfl | rfl
    · rw [e11, if_neg (fun z => hud 43 53 (by decide +kernel) (by decide +kernel) (by decide) z.1), e10, if_neg (fun z => hud 43 52 (by decide +kernel) (by decide +kernel) (by decide) z.1), e9, if_neg (fun z => hud 43 51 (by decide +kernel) (by decide +kernel) (by decide) z.1), e8, if_neg (fun z => hud 43 50 (by decide +kernel) (by decide +kernel) (by decide) z.1), e7, if_neg (fun z => hud 43 49 (by decide +kernel) (by decide +kernel) (by decide) z.1), e6, if_neg (fun z => hud 43 48 (by decide +kernel) (by decide +kernel) (by decide) z.1), e5, if_neg (fun z => hud 43 47 (by decide +kernel) (by decide +kernel) (by decide) z.1), e4, if_neg (fun z => hud 43 46 (by decide +kernel) (by decide +kernel) (by decide) z.1), e3, if_neg (fun z => hud 43 45 (by decide +kernel) (by decide +kernel) (by decide) z.1), e2, if_neg (fun z => hud 43 44 (by decide +kernel) (by decide +kernel) (by decide) z.1), e1]
      by_cases e : i = ni
      · rw [if_pos ⟨rfl, e⟩, if_pos e, hz43]
      · rw [if_neg (fun z => e z.2), if_neg e]
    · rw [e11, if_neg (fun z => hud 44 53 (by decide +kernel) (by decide +kernel) (by decide) z.1), e10, if_neg (fun z => hud 44 52 (by decide +kernel) (by decide +kernel) (by decide) z.1), e9, if_neg (fun z => hud 44 51 (by decide +kernel) (by decide +kernel) (by decide) z.1), e8, if_neg (fun z => hud 44 50 (by decide +kernel) (by decide +kernel) (by decide) z.1), e7, if_neg (fun z => hud 44 49 (by decide +kernel) (by decide +kernel) (by decide) z.1), e6, if_neg (fun z => hud 44 48 (by decide +kernel) (by decide +kernel) (by decide) z.1), e5, if_neg (fun z => hud 44 47 (by decide +kernel) (by decide +kernel) (by decide) z.1), e4, if_neg (fun z => hud 44 46 (by decide +kernel) (by decide +kernel) (by decide) z.1), e3, if_neg (fun z => hud 44 45 (by decide +kernel) (by decide +kernel) (by decide) z.1), e2]
      by_cases e : i = ni
      · rw [if_pos ⟨rfl, e⟩, if_pos e, hz44]
      · rw [if_neg (fun z => e z.2), if_neg e, e1, if_neg (fun z => hud 44 43 (by decide +kernel) (by decide +kernel) (by decide) z.1)]
    · rw [e11, if_neg (fun z => hud 45 53 (by decide +kernel) (by decide +kernel) (by decide) z.1), e10, if_neg (fun z => hud 45 52 (by decide +kernel) (by decide +kernel) (by decide) z.1), e9, if_neg (fun z => hud 45 51 (by decide +kernel) (by decide +kernel) (by decide) z.1), e8, if_neg (fun z => hud 45 50 (by decide +kernel) (by decide +kernel) (by decide) z.1), e7, if_neg (fun z => hud 45 49 (by decide +kernel) (by decide +kernel) (by decide) z.1), e6, if_neg (fun z => hud 45 48 (by decide +kernel) (by decide +kernel) (by decide) z.1), e5, if_neg (fun z => hud 45 47 (by decide +kernel) (by decide +kernel) (by decide) z.1), e4, if_neg (fun z => hud 45 46 (by decide +kernel) (by decide +kernel) (by decide) z.1), e3]
      by_cases e : i = ni
      · rw [if_pos ⟨rfl, e⟩, if_pos e, hz45]
      · rw [if_neg (fun z => e z.2), if_neg e, e2, if_neg (fun z => hud 45 44 (by decide +kernel) (by decide +kernel) (by decide) z.1), e1, if_neg (fun z => hud 45 43 (by decide +kernel) (by decide +kernel) (by decide) z.1)]
    · rw [e11, if_neg (fun z => hud 46 53 (by decide +kernel) (by decide +kernel) (by decide) z.1), e10, if_neg (fun z => hud 46 52 (by decide +kernel) (by decide +kernel) (by decide) z.1), e9, if_neg (fun z => hud 46 51 (by decide +kernel) (by decide +kernel) (by decide) z.1), e8, if_neg (fun z => hud 46 50 (by decide +kernel) (by decide +kernel) (by decide) z.1), e7, if_neg (fun z => hud 46 49 (by decide +kernel) (by decide +kernel) (by decide) z.1), e6, if_neg (fun z => hud 46 48 (by decide +kernel) (by decide +kernel) (by decide) z.1), e5, if_neg (fun z => hud 46 47 (by decide +kernel) (by decide +kernel) (by decide) z.1), e4]
      by_cases e : i = ni
      · rw [if_pos ⟨rfl, e⟩, if_pos e, hz46]
      · rw [if_neg (fun z => e z.2), if_neg e, e3, if_neg (fun z => hud 46 45 (by decide +kernel) (by decide +kernel) (by decide) z.1), e2, if_neg (fun z => hud 46 44 (by decide +kernel) (by decide +kernel) (by decide) z.1), e1, if_neg (fun z => hud 46 43 (by decide +kernel) (by decide +kernel) (by decide) z.1)]
    · rw [e11, if_neg (fun z => hud 47 53 (by decide +kernel) (by decide +kernel) (by decide) z.1), e10, if_neg (fun z => hud 47 52 (by decide +kernel) (by decide +kernel) (by decide) z.1), e9, if_neg (fun z => hud 47 51 (by decide +kernel) (by decide +kernel) (by decide) z.1), e8, if_neg (fun z => hud 47 50 (by decide +kernel) (by decide +kernel) (by decide) z.1), e7, if_neg (fun z => hud 47 49 (by decide +kernel) (by decide +kernel) (by decide) z.1), e6, if_neg (fun z => hud 47 48 (by decide +kernel) (by decide +kernel) (by decide) z.1), e5]
      by_cases e : i = ni
      · rw [if_pos ⟨rfl, e⟩, if_pos e, hz47]
      · rw [if_neg (fun z => e z.2), if_neg e, e4, if_neg (fun z => hud 47 46 (by decide +kernel) (by decide +kernel) (by decide) z.1), e3, if_neg (fun z => hud 47 45 (by decide +kernel) (by decide +kernel) (by decide) z.1), e2, if_neg (fun z => hud 47 44 (by decide +kernel) (by decide +kernel) (by decide) z.1), e1, if_neg (fun z => hud 47 43 (by decide +kernel) (by decide +kernel) (by decide) z.1)]
    · rw [e11, if_neg (fun z => hud 48 53 (by decide +kernel) (by decide +kernel) (by decide) z.1), e10, if_neg (fun z => hud 48 52 (by decide +kernel) (by decide +kernel) (by decide) z.1), e9, if_neg (fun z => hud 48 51 (by decide +kernel) (by decide +kernel) (by decide) z.1), e8, if_neg (fun z => hud 48 50 (by decide +kernel) (by decide +kernel) (by decide) z.1), e7, if_neg (fun z => hud 48 49 (by decide +kernel) (by decide +kernel) (by decide) z.1), e6]
      by_cases e : i = ni
      · rw [if_pos ⟨rfl, e⟩, if_pos e, hz48]
      · rw [if_neg (fun z => e z.2), if_neg e, e5, if_neg (fun z => hud 48 47 (by decide +kernel) (by decide +kernel) (by decide) z.1), e4, if_neg (fun z => hud 48 46 (by decide +kernel) (by decide +kernel) (by decide) z.1), e3, if_neg (fun z => hud 48 45 (by decide +kernel) (by decide +kernel) (by decide) z.1), e2, if_neg (fun z => hud 48 44 (by decide +kernel) (by decide +kernel) (by decide) z.1), e1, if_neg (fun z => hud 48 43 (by decide +kernel) (by decide +kernel) (by decide) z.1)]
    · rw [e11, if_neg (fun z => hud 49 53 (by decide +kernel) (by decide +kernel) (by decide) z.1), e10, if_neg (fun z => hud 49 52 (by decide +kernel) (by decide +kernel) (by decide) z.1), e9, if_neg (fun z => hud 49 51 (by decide +kernel) (by decide +kernel) (by decide) z.1), e8, if_neg (fun z => hud 49 50 (by decide +kernel) (by decide +kernel) (by decide) z.1), e7]
      by_cases e : i = ni
      · rw [if_pos ⟨rfl, e⟩, if_pos e, hz49]
      · rw [if_neg (fun z => e z.2), if_neg e, e6, if_neg (fun z => hud 49 48 (by decide +kernel) (by decide +kernel) (by decide) z.1), e5, if_neg (fun z => hud 49 47 (by decide +kernel) (by decide +kernel) (by decide) z.1), e4, if_neg (fun z => hud 49 46 (by decide +kernel) (by decide +kernel) (by decide) z.1), e3, if_neg (fun z => hud 49 45 (by decide +kernel) (by decide +kernel) (by decide) z.1), e2, if_neg (fun z => hud 49 44 (by decide +kernel) (by decide +kernel) (by decide) z.1), e1, if_neg (fun z => hud 49 43 (by decide +kernel) (by decide +kernel) (by decide) z.1)]
    · rw [e11, if_neg (fun z => hud 50 53 (by decide +kernel) (by decide +kernel) (by decide) z.1), e10, if_neg (fun z => hud 50 52 (by decide +kernel) (by decide +kernel) (by decide) z.1), e9, if_neg (fun z => hud 50 51 (by decide +kernel) (by decide +kernel) (by decide) z.1), e8]
      by_cases e : i = ni
      · rw [if_pos ⟨rfl, e⟩, if_pos e, hz50]
      · rw [if_neg (fun z => e z.2), if_neg e, e7, if_neg (fun z => hud 50 49 (by decide +kernel) (by decide +kernel) (by decide) z.1), e6, if_neg (fun z => hud 50 48 (by decide +kernel) (by decide +kernel) (by decide) z.1), e5, if_neg (fun z => hud 50 47 (by decide +kernel) (by decide +kernel) (by decide) z.1), e4, if_neg (fun z => hud 50 46 (by decide +kernel) (by decide +kernel) (by decide) z.1), e3, if_neg (fun z => hud 50 45 (by decide +kernel) (by decide +kernel) (by decide) z.1), e2, if_neg (fun z => hud 50 44 (by decide +kernel) (by decide +kernel) (by decide) z.1), e1, if_neg (fun z => hud 50 43 (by decide +kernel) (by decide +kernel) (by decide) z.1)]
    · rw [e11, if_neg (fun z => hud 51 53 (by decide +kernel) (by decide +kernel) (by decide) z.1), e10, if_neg (fun z => hud 51 52 (by decide +kernel) (by decide +kernel) (by decide) z.1), e9]
      by_cases e : i = ni
      · rw [if_pos ⟨rfl, e⟩, if_pos e, hz51]
      · rw [if_neg (fun z => e z.2), if_neg e, e8, if_neg (fun z => hud 51 50 (by decide +kernel) (by decide +kernel) (by decide) z.1), e7, if_neg (fun z => hud 51 49 (by decide +kernel) (by decide +kernel) (by decide) z.1), e6, if_neg (fun z => hud 51 48 (by decide +kernel) (by decide +kernel) (by decide) z.1), e5, if_neg (fun z => hud 51 47 (by decide +kernel) (by decide +kernel) (by decide) z.1), e4, if_neg (fun z => hud 51 46 (by decide +kernel) (by decide +kernel) (by decide) z.1), e3, if_neg (fun z => hud 51 45 (by decide +kernel) (by decide +kernel) (by decide) z.1), e2, if_neg (fun z => hud 51 44 (by decide +kernel) (by decide +kernel) (by decide) z.1), e1, if_neg (fun z => hud 51 43 (by decide +kernel) (by decide +kernel) (by decide) z.1)]
    · rw [e11, if_neg (fun z => hud 52 53 (by decide +kernel) (by decide +kernel) (by decide) z.1), e10]
      by_cases e : i = ni
      · rw [if_pos ⟨rfl, e⟩, if_pos e, hz52]
      · rw [if_neg (fun z => e z.2), if_neg e, e9, if_neg (fun z => hud 52 51 (by decide +kernel) (by decide +kernel) (by decide) z.1), e8, if_neg (fun z => hud 52 50 (by decide +kernel) (by decide +kernel) (by decide) z.1), e7, if_neg (fun z => hud 52 49 (by decide +kernel) (by decide +kernel) (by decide) z.1), e6, if_neg (fun z => hud 52 48 (by decide +kernel) (by decide +kernel) (by decide) z.1), e5, if_neg (fun z => hud 52 47 (by decide +kernel) (by decide +kernel) (by decide) z.1), e4, if_neg (fun z => hud 52 46 (by decide +kernel) (by decide +kernel) (by decide) z.1), e3, if_neg (fun z => hud 52 45 (by decide +kernel) (by decide +kernel) (by decide) z.1), e2, if_neg (fun z => hud 52 44 (by decide +kernel) (by decide +kernel) (by decide) z.1), e1, if_neg (fun z => hud 52 43 (by decide +kernel) (by decide +kernel) (by decide) z.1)]
    · rw [e11]
      by_cases e : i = ni
      · rw [if_pos ⟨rfl, e⟩, if_pos e, hz53]
      · rw [if_neg (fun z => e z.2), if_neg e, e10, if_neg (fun z => hud 53 52 (by decide +kernel) (by decide +kernel) (by decide) z.1), e9, if_neg (fun z => hud 53 51 (by decide +kernel) (by decide +kernel) (by decide) z.1), e8, if_neg (fun z => hud 53 50 (by decide +kernel) (by decide +kernel) (by decide) z.1), e7, if_neg (fun z => hud 53 49 (by decide +kernel) (by decide +kernel) (by decide) z.1), e6, if_neg (fun z => hud 53 48 (by decide +kernel) (by decide +kernel) (by decide) z.1), e5, if_neg (fun z => hud 53 47 (by decide +kernel) (by decide +kernel) (by decide) z.1), e4, if_neg (fun z => hud 53 46 (by decide +kernel) (by decide +kernel) (by decide) z.1), e3, if_neg (fun z => hud 53 45 (by decide +kernel) (by decide +kernel) (by decide) z.1), e2, if_neg (fun z => hud 53 44 (by decide +kernel) (by decide +kernel) (by decide) z.1), e1, if_neg (fun z => hud 53 43 (by decide +kernel) (by decide +kernel) (by decide) z.1)]
  · rw [e11, if_neg (fun z => hn 53 (by decide) z.1), e10, if_neg (fun z => hn 52 (by decide) z.1), e9, if_neg (fun z => hn 51 (by decide) z.1), e8, if_neg (fun z => hn 50 (by decide) z.1), e7, if_neg (fun z => hn 49 (by decide) z.1), e6, if_neg (fun z => hn 48 (by decide) z.1), e5, if_neg (fun z => hn 47 (by decide) z.1), e4, if_neg (fun z => hn 46 (by decide) z.1), e3, if_neg (fun z => hn 45 (by decide) z.1), e2, if_neg (fun z => hn 44 (by decide) z.1), e1, if_neg (fun z => hn 43 (by decide) z.1)]
theorem md_copy_ok {mc : Nat} {τ u : Nat → Nat} {tv : Nat} (hU : ab_U w_uq τ u) (hut : ∀ k, w_uq k = true → τ (u k) = k) : md_Vd mc τ u tv 86 md_copy := by
  intro mj hmj ρ h as had hI hK hA hF
  have hmj : am_m86 = mj := Option.some.inj hmj
  subst hmj
  match as, hA with
  | [v0, v1, v2], hA =>
    obtain ⟨h0, h1, h2, -⟩ := hA
    rcases h0 with h0 | ⟨rfl, x1, x2⟩
    · cases h0
    rcases h1 with h1 | ⟨zf, rfl, f1, f2⟩
    · cases h1
    rcases h2 with h2 | ⟨zi, rfl, i1, i2⟩
    · cases h2
    have hx : ρ 640 = u 40 := had 40 (by decide +kernel)
    have f1 : 2147483648 ≤ ab_b zf := f1
    have i1 : 2147483648 ≤ ab_b zi := i1
    have f2 : ab_b zf ≤ 2147483727 := f2
    have i2 : ab_b zi ≤ 2147483727 := i2
    obtain ⟨nf, hnf⟩ : ∃ n, ab_b zf - 2147483648 = n := ⟨_, rfl⟩
    obtain ⟨ni, hni⟩ : ∃ n, ab_b zi - 2147483648 = n := ⟨_, rfl⟩
    show cl_Rn am_m86 (0, [some (.ref (ρ 640)), some (.int zf), some (.int zi)], [], h, 0, 0) _
    rw [hx]
    have hud := md_ud hut
    refine md_copy_core hU hut (wr := 0x800000000000000080000000000000008000000000000000800000000000000080000000000000008000000000000000800000000000000080000000000000008000000000000000800000000000000080000000000000000000000000000000000000000000000000000000000000000000000000000000000000000000000000000000000000000000000000000000000000000000000000000000000000000000000000000000000000000000000000000000000000000000000000000000000000000000000000000000000000000000000000000000000000000000000000000000000000000000000000000000000000000000000000000000000000000000000000000000000000000000000000000000000000000000000000000000000000000000000000000000000000000000000000000000000000000000000000000000000000000000000000000000000000000000000000000000000000000000000000000000000000000000000000000000000000000000000000000000000000000000000000000000000000000000000000000000000000000000000000000000000000000000000000000000) (cl_0 hI) (fun k hk => ?_) f1 i1 hnf hni (by omega) (by omega) (fun h' hP' e1 e2 => ?_)
    · simp only [List.mem_cons, List.not_mem_nil, or_false] at hk
      rcases hk with rfl | rfl | rfl | rfl | rfl | rfl | rfl | rfl | rfl | rfl | rfl <;> decide +kernel
    · have ho : ∀ k, w_uq k = true → k ∉ [43, 44, 45, 46, 47, 48, 49, 50, 51, 52, 53] → ∀ i, ab_sl h' (u k) i = ab_sl h (u k) i := fun k hk hn i => e2 (u k) i (fun k' hk' e => by
        have hk2 : w_uq k' = true := by
          simp only [List.mem_cons, List.not_mem_nil, or_false] at hk'
          rcases hk' with rfl | rfl | rfl | rfl | rfl | rfl | rfl | rfl | rfl | rfl | rfl <;> decide +kernel
        exact hud k k' hk hk2 (fun z => hn (by rw [z]; exact hk')) e)
      refine ⟨_, List.mem_singleton_self _, Or.inl ⟨rfl, rfl⟩, ?_, fun f hf => by cases hf⟩
      obtain ⟨k1, k2, k3, k4⟩ := hK
      have hn : km_n u h' = km_n u h := by
        unfold km_n
        rw [md_v_eq (ho 40 (by decide +kernel) (by decide) 19)]
      refine ⟨hP'.1, ⟨fun i hi => ?_, fun i hi => ?_, fun m m' h1 h2 => ?_, fun i hi => ?_⟩, hP'.2.1, hP'.2.2, ?_, ?_, Nat.le_refl _, Nat.le_refl _⟩
      · show kc_al mc (ab_sl h' (u 49) i) (ab_sl h' (u 52) i) (ab_sl h' (u 53) i)
        rw [e1 49 i (by decide +kernel) (by decide), e1 52 i (by decide +kernel) (by decide), e1 53 i (by decide +kernel) (by decide)]
        by_cases e : i = ni
        · rw [if_pos e, if_pos e, if_pos e]
          exact k1 nf (by omega)
        · rw [if_neg e, if_neg e, if_neg e]
          exact k1 i hi
      · show kc_al mc (ab_sl h' (u 54) i) (ab_sl h' (u 57) i) (ab_sl h' (u 58) i) ∧ (md_v h' (u 54) i ≤ 2147483649 → md_v h' (u 56) i ≠ 2147483663)
        rw [ho 54 (by decide +kernel) (by decide), ho 57 (by decide +kernel) (by decide), ho 58 (by decide +kernel) (by decide), md_v_eq (ho 54 (by decide +kernel) (by decide) i), md_v_eq (ho 56 (by decide +kernel) (by decide) i)]
        exact k2 i hi
      · show ¬ (md_v h' (u 59) m = md_v h' (u 59) m' ∧ md_v h' (u 60) m = md_v h' (u 60) m')
        rw [md_v_eq (ho 59 (by decide +kernel) (by decide) m), md_v_eq (ho 59 (by decide +kernel) (by decide) m'), md_v_eq (ho 60 (by decide +kernel) (by decide) m), md_v_eq (ho 60 (by decide +kernel) (by decide) m')]
        exact k3 m m' h1 h2
      · show ¬ (md_v h' (u 54) i = 2147483651 ∧ md_v h' (u 56) i = 2147483663)
        rw [md_v_eq (ho 54 (by decide +kernel) (by decide) i), md_v_eq (ho 56 (by decide +kernel) (by decide) i)]
        have hi : i < km_n u h' := hi
        rw [hn] at hi
        exact k4 i hi
      · show km_F u h' + 1000 ≤ km_F u h + 1000
        unfold km_F
        rw [hn, km_sum_eq (f := fun i => km_w (md_v h' (u 54) i) (md_v h' (u 56) i)) (g := fun i => km_w (md_v h (u 54) i) (md_v h (u 56) i)) (fun i _ => by rw [md_v_eq (ho 54 (by decide +kernel) (by decide) i), md_v_eq (ho 56 (by decide +kernel) (by decide) i)]), km_sum_eq (f := fun m => md_v h' (u 64) m - 2147483648) (g := fun m => md_v h (u 64) m - 2147483648) (fun m _ => by rw [md_v_eq (ho 64 (by decide +kernel) (by decide) m)])]
        exact Nat.le_refl _
      · show km_Q u h' + 1000 ≤ km_Q u h + 1000
        unfold km_Q
        rw [md_v_eq (ho 40 (by decide +kernel) (by decide) 7)]
        exact Nat.le_refl _
  | [], hA => exact hA.elim
  | [_], hA => exact hA.2.elim
  | [_, _], hA => exact hA.2.2.elim
  | _ :: _ :: _ :: _ :: _, hA => exact hA.2.2.2.elim
