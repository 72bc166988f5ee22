/-! ===== the reference: rules, and the rest of what is wanted of its methods ===== -/
theorem km_R {τ u : Nat → Nat} {tv mc : Nat} (hut : ∀ k, w_uq k = true → τ (u k) = k) : ∀ id p ρ h, ab_ad w_uq u ρ → ab_I w_kd w_un (w_G mc) τ tv h → km_K u mc h → ((τ (ρ p) = p / 16 ∧ p / 16 ≠ 0) ∨ (p % 16 = 0 ∧ w_uq (p / 16) = true)) → ∃ l ∈ w_crm mc id p, ab_fs τ tv ρ h l := by
  intro id p ρ h had hI hK hp
  have hp : τ (ρ p) = p / 16 ∧ p / 16 ≠ 0 := by
    rcases hp with hp | ⟨h1, h2⟩
    · exact hp
    · have e := had (p / 16) h2
      have e2 : 16 * (p / 16) = p := by omega
      rw [e2] at e
      refine ⟨by rw [e]; exact hut _ h2, fun e0 => ?_⟩
      rw [e0] at h2
      revert h2
      decide +kernel
  unfold w_crm
  cases e0 : Nat.beq id 1 with
  | true =>
    rw [cond_true]
    have hF : ∀ k, w_uq k = true → k ≠ 0 → ∀ v x, ab_sl h (u k) 70 = some x → ab_g τ tv ρ v x → ab_fk τ tv ρ h (16 * k, 70, v) := fun k hk hk0 v x h1 h2 => by
      have e := had k hk
      have e2 : 16 * k / 16 = k := by omega
      refine ⟨by show τ (ρ (16 * k)) = 16 * k / 16; rw [e, e2]; exact hut k hk, by show 16 * k / 16 ≠ 0; rw [e2]; exact hk0, x, by show ab_sl h (ρ (16 * k)) 70 = _; rw [e]; exact h1, h2⟩
    obtain ⟨z, hz, hc⟩ := hK.1 70 (by decide)
    unfold w_clu
    have hex : ∀ (w : Int32) (n : Nat), ab_b w = 2147483648 + n → ab_g τ tv ρ (w_e n) (.int w) := fun w n hw => ab_g_0.mpr ⟨w, rfl, by rw [hw]; exact Nat.le_refl _, by rw [hw]; exact Nat.le_refl _⟩
    have hrg : ∀ (w : Int32) (a b : Nat), 2147483648 + a ≤ ab_b w → ab_b w ≤ 2147483648 + b → ab_g τ tv ρ (w_r a b) (.int w) := fun w a b h1 h2 => ab_g_0.mpr ⟨w, rfl, h1, h2⟩
    rcases hc with rfl | rfl | ⟨rfl, y, hy, y1, y2⟩ | ⟨rfl, ⟨y, hy, y1, y2⟩, s, hs, s1, s2⟩
    · refine ⟨_, List.mem_cons_self, fun f hf => ?_⟩
      have := List.mem_singleton.mp hf
      subst this
      exact hF 49 (by decide +kernel) (by decide) _ _ hz (hex _ 0 (by decide))
    · refine ⟨_, List.mem_cons_of_mem _ List.mem_cons_self, fun f hf => ?_⟩
      have := List.mem_singleton.mp hf
      subst this
      exact hF 49 (by decide +kernel) (by decide) _ _ hz (hex _ 1 (by decide))
    · refine ⟨_, List.mem_cons_of_mem _ (List.mem_cons_of_mem _ List.mem_cons_self), fun f hf => ?_⟩
      rcases List.mem_cons.mp hf with rfl | hf
      · exact hF 49 (by decide +kernel) (by decide) _ _ hz (hex _ 2 (by decide))
      · have := List.mem_singleton.mp hf
        subst this
        exact hF 52 (by decide +kernel) (by decide) _ _ hy (hrg _ 0 7 y1 y2)
    · refine ⟨_, List.mem_cons_of_mem _ (List.mem_cons_of_mem _ (List.mem_cons_of_mem _ List.mem_cons_self)), fun f hf => ?_⟩
      rcases List.mem_cons.mp hf with rfl | hf
      · exact hF 49 (by decide +kernel) (by decide) _ _ hz (hex _ 3 (by decide))
      · rcases List.mem_cons.mp hf with rfl | hf
        · exact hF 52 (by decide +kernel) (by decide) _ _ hy (hrg _ 0 7 y1 y2)
        · have := List.mem_singleton.mp hf
          subst this
          exact hF 53 (by decide +kernel) (by decide) _ _ hs (ab_g_0.mpr ⟨s, rfl, s1, s2⟩)
  | false =>
    rw [cond_false]
    split
    · exact w_cut_ok hI hp.1 hp.2
    · exact ⟨[], List.mem_singleton_self _, fun f hf => by cases hf⟩
theorem md_give3_ok {mc : Nat} {τ u : Nat → Nat} {tv : Nat} (hU : ab_U w_uq τ u) (hut : ∀ k, w_uq k = true → τ (u k) = k) (hmc8 : mc ≤ 8) {w : Nat} (hVs : md_Vd mc τ u tv 120 (md_say (w_e 0) (w_mm mc) ab_top ab_top mc w 2)) : md_Vd mc τ u tv 94 (md_give3 mc w) := by
  intro mj hmj ρ h as had hI hK hA hF
  have hmj : am_m94 = mj := Option.some.inj hmj
  subst hmj
  match as, hA with
  | [v0, v1, v2, v3, v4, v5], hA =>
    obtain ⟨h0, h1, h2, h3, h4, h5, -⟩ := hA
    rcases h0 with h0 | ⟨rfl, x1, x2⟩
    · cases h0
    rcases h1 with h1 | ⟨zm, rfl, m1, m2⟩
    · cases h1
    rcases h2 with h2 | ⟨z3, rfl, e1, e2⟩
    · cases h2
    rcases h3 with h3 | ⟨zs, rfl, -, -⟩
    · cases h3
    rcases h4 with h4 | ⟨za, rfl, a1, a2⟩
    · cases h4
    rcases h5 with h5 | ⟨zb, rfl, b1, b2⟩
    · cases h5
    have hx : ρ 640 = u 40 := had 40 (by decide +kernel)
    have e1 : 2147483651 ≤ ab_b z3 := e1
    have e2 : ab_b z3 ≤ 2147483651 := e2
    have h3 : z3 = 3 := ab_b_inj (by
      have : ab_b z3 = 2147483651 := by omega
      rw [this]
      decide)
    obtain ⟨zw, hzw, w1, w2⟩ := kc_fact hF
    rw [hx] at hzw
    show cl_Rn am_m94 (0, [some (.ref (ρ 640)), some (.int zm), some (.int z3), some (.int zs), some (.int za), some (.int zb)], [], h, 0, 0) _
    rw [hx]
    exact md_give3_core hU hut hmc8 hI hK hVs h3 hzw w1 w2 m1 m2 a1 a2 b1 b2
  | [], hA => exact hA.elim
  | [_], hA => exact hA.2.elim
  | [_, _], hA => exact hA.2.2.elim
  | [_, _, _], hA => exact hA.2.2.2.elim
  | [_, _, _, _], hA => exact hA.2.2.2.2.elim
  | [_, _, _, _, _], hA => exact hA.2.2.2.2.2.elim
  | _ :: _ :: _ :: _ :: _ :: _ :: _ :: _, hA => exact hA.2.2.2.2.2.2.elim
/-- to whom, and its weight -/
theorem md_hh0 {mc : Nat} (h8 : mc ≤ 8) {k g : Nat} (hg : ∀ y, y ≠ 2147483663 → km_w (Nat.add 2147483648 k) y ≤ g) : ∀ x y : Nat, (w_e k).2.1 ≤ x → x ≤ (w_e k).2.2 → (w_mm mc).2.1 ≤ y → y ≤ (w_mm mc).2.2 → (x ≤ 2147483649 → y ≠ 2147483663) ∧ ¬ (x = 2147483651 ∧ y = 2147483663) ∧ km_w x y ≤ g := by
  intro x y h1 h2 _ h4
  have h1 : Nat.add 2147483648 k ≤ x := h1
  have h2 : x ≤ Nat.add 2147483648 k := h2
  have h4 : y ≤ Nat.add 2147483648 (Nat.sub mc 1) := h4
  obtain rfl : x = Nat.add 2147483648 k := Nat.le_antisymm h2 h1
  rw [md_a, md_s] at h4
  have hy : y ≠ 2147483663 := by omega
  exact ⟨fun _ => hy, fun z => hy z.2, hg y hy⟩
theorem md_hh2 : ∀ x y : Nat, (w_e 2).2.1 ≤ x → x ≤ (w_e 2).2.2 → (w_e 15).2.1 ≤ y → y ≤ (w_e 15).2.2 → (x ≤ 2147483649 → y ≠ 2147483663) ∧ ¬ (x = 2147483651 ∧ y = 2147483663) ∧ km_w x y ≤ 4 := by
  intro x y h1 h2 _ _
  have h1 : 2147483650 ≤ x := h1
  have h2 : x ≤ 2147483650 := h2
  obtain rfl : x = 2147483650 := Nat.le_antisymm h2 h1
  exact ⟨fun h => absurd h (by decide), fun z => absurd z.1 (by decide), by unfold km_w; rw [if_neg (by decide), if_neg (by decide), if_pos rfl]; exact Nat.le_refl _⟩
theorem km_w0 : ∀ y, y ≠ 2147483663 → km_w (Nat.add 2147483648 0) y ≤ 2 := fun y _ => by rw [md_a]; unfold km_w; rw [if_pos (by decide)]; exact Nat.le_refl _
theorem km_w1 : ∀ y, y ≠ 2147483663 → km_w (Nat.add 2147483648 1) y ≤ 1 := fun y _ => by rw [md_a]; unfold km_w; rw [if_neg (by decide), if_pos (by decide)]; exact Nat.le_refl _
theorem km_w3 : ∀ y, y ≠ 2147483663 → km_w (Nat.add 2147483648 3) y ≤ 3 := fun y hy => by rw [md_a]; unfold km_w; rw [if_neg (by decide), if_neg (by decide), if_neg (by decide), if_neg hy]; exact Nat.le_refl _
theorem kc_al0 (mc : Nat) : ∀ zk zf zg : Int32, (w_e 0).2.1 ≤ ab_b zk → ab_b zk ≤ (w_e 0).2.2 → ab_top.2.1 ≤ ab_b zf → ab_b zf ≤ ab_top.2.2 → ab_top.2.1 ≤ ab_b zg → ab_b zg ≤ ab_top.2.2 → kc_al mc (some (.int zk)) (some (.int zf)) (some (.int zg)) := fun zk zf zg h1 h2 a b c d => kc_al01 mc zk zf zg h1 (Nat.le_trans h2 (by decide)) a b c d
theorem kc_al1 (mc : Nat) : ∀ zk zf zg : Int32, (w_e 1).2.1 ≤ ab_b zk → ab_b zk ≤ (w_e 1).2.2 → ab_top.2.1 ≤ ab_b zf → ab_b zf ≤ ab_top.2.2 → ab_top.2.1 ≤ ab_b zg → ab_b zg ≤ ab_top.2.2 → kc_al mc (some (.int zk)) (some (.int zf)) (some (.int zg)) := fun zk zf zg h1 h2 a b c d => kc_al01 mc zk zf zg (Nat.le_trans (by decide) h1) h2 a b c d
