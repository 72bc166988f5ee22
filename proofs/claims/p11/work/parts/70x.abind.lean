/-! ===== all contracts, by the room in frames that methods have ===== -/
section ABI
variable {fty : Nat → Nat → Option FieldType} {dfl : Nat → Option (List Value)} {cmp : Nat → Option (Option Nat)} {lk : Nat → Nat → Option am_K} {ms : Nat → Option am_M} {cx : Nat → Option Nat}
variable {kd : Nat → Nat × Nat} {un uq : Nat → Bool} {Gm : Nat → Nat → List ab_V} {wms : Nat → Option fm_M} {Ct : Nat → List ab_V → List ab_C}
variable {τ u : Nat → Nat} {tv : Nat} {K : am_H → Prop} {P0 P1 : am_H → Nat}
theorem ab_ind (hms : ∀ j mi, ms j = some mi → ∃ mf, wms j = some mf) (H : ∀ n, (∀ j as C mj, C ∈ Ct j as → wms j = some mj → mj.2.2.2.1 < n → ab_Vd fty dfl cmp lk ms cx kd un uq Gm τ u tv K P0 P1 j C) → ∀ j as C mj, C ∈ Ct j as → wms j = some mj → mj.2.2.2.1 = n → ab_Vd fty dfl cmp lk ms cx kd un uq Gm τ u tv K P0 P1 j C) : ∀ j as C, C ∈ Ct j as → ab_Vd fty dfl cmp lk ms cx kd un uq Gm τ u tv K P0 P1 j C := by
  have key : ∀ n, ∀ j as C mj, C ∈ Ct j as → wms j = some mj → mj.2.2.2.1 < n → ab_Vd fty dfl cmp lk ms cx kd un uq Gm τ u tv K P0 P1 j C := by
    intro n
    induction n with
    | zero => intro j as C mj _ _ h; exact absurd h (Nat.not_lt_zero _)
    | succ n ih =>
      intro j as C mj h1 h2 h3
      by_cases e : mj.2.2.2.1 < n
      · exact ih j as C mj h1 h2 e
      · exact H n ih j as C mj h1 h2 (by omega)
  intro j as C hC mj hmj
  obtain ⟨mf, hmf⟩ := hms j mj hmj
  exact key (mf.2.2.2.1 + 1) j as C mf hC hmf (Nat.lt_succ_self _) mj hmj
end ABI
/-- what frames hold together: a question asks for an address, an answer names an address and a machine -/
def kc_al (mc : Nat) (k f s : Option Value) : Prop := ∃ z : Int32, k = some (.int z) ∧ (z = 0 ∨ z = 1 ∨ (z = 2 ∧ ∃ y : Int32, f = some (.int y) ∧ 2147483648 ≤ ab_b y ∧ ab_b y ≤ 2147483655) ∨ (z = 3 ∧ (∃ y : Int32, f = some (.int y) ∧ 2147483648 ≤ ab_b y ∧ ab_b y ≤ 2147483655) ∧ ∃ y : Int32, s = some (.int y) ∧ 2147483648 ≤ ab_b y ∧ ab_b y ≤ 2147483648 + (mc - 1)))
def kc_K (τ : Nat → Nat) (mc : Nat) (h : am_H) : Prop := ∀ a, τ a = 22 → kc_al mc (ab_sl h a 0) (ab_sl h a 3) (ab_sl h a 4)
/-- how many places are free in the queue -/
def kc_P (u : Nat → Nat) (h : am_H) : Nat := match ab_sl h (u 5) 2 with
  | some (.int z) => 2147483664 - ab_b z
  | _ => 0
section ABJ
variable {τ u : Nat → Nat} {tv mc : Nat}
theorem kc_pm (hut : ∀ k, w_uq k = true → τ (u k) = k) : ab_pm w_kd τ (kc_K τ mc) (kc_P u) (fun _ => 0) 0x190000000000000000000000000000000000000000000000000000000000000000000000000000000000000000000000000000000000000000000000000000000000000000000000000000000000000000000000000000000000000000000000000000000000000000000000000000000000000000000000000000000000000000000000000000000400000000000000000000000000000000000000000000000000000000000000000000000000000000 := by
  intro h h' hs
  have hu5 : τ (u 5) = 5 := hut 5 (by decide +kernel)
  have e2 := hs (u 5) (by rw [hu5]; decide) 2 (by rw [hu5]; decide +kernel)
  refine ⟨fun hK a ha => ?_, by unfold kc_P; rw [e2], rfl⟩
  have h0 : τ a ≠ 0 := by rw [ha]; decide
  have e0 := hs a h0 0 (by rw [ha]; decide +kernel)
  have e3 := hs a h0 3 (by rw [ha]; decide +kernel)
  have e4 := hs a h0 4 (by rw [ha]; decide +kernel)
  rw [e0, e3, e4]
  exact hK a ha
theorem w_cut_ok {ρ : Nat → Nat} {h : am_H} {p : Nat} {c : Nat × List Nat} (hI : ab_I w_kd w_un (w_G mc) τ tv h) (hp : τ (ρ p) = p / 16) (hp0 : p / 16 ≠ 0) : ∃ l ∈ w_cut mc p c, ab_fs τ tv ρ h l := by
  unfold w_cut
  cases e : Nat.blt c.1 (w_kd (Nat.div p 16)).2 with
  | false => exact ⟨[], List.mem_singleton_self _, fun f hf => by cases hf⟩
  | true =>
    have e : c.1 < (w_kd (p / 16)).2 := ab_blt e
    obtain ⟨vs, x, -, -, -, hsl, v, hv, hvx⟩ := ab_I_sl hI (a := ρ p) (i := c.1) (by rw [hp]; exact hp0) (by rw [hp]; exact e)
    rw [hp] at hv
    have hmem : ∀ l, l ∈ (bif Nat.beq v.1 0 then (ab_cuts v.2.1 v.2.2 c.2).map fun q => [(p, c.1, (0, q.1, q.2))] else bif Nat.beq v.1 2 then [[]] else [[(p, c.1, v)]] : List (List ab_F)) → l ∈ (w_G mc (Nat.div p 16) (ab_gi w_un (Nat.div p 16) c.1)).flatMap fun v => bif Nat.beq v.1 0 then (ab_cuts v.2.1 v.2.2 c.2).map fun q => [(p, c.1, (0, q.1, q.2))] else bif Nat.beq v.1 2 then [[]] else [[(p, c.1, v)]] := fun l hl => List.mem_flatMap.mpr ⟨v, hv, hl⟩
    rw [cond_true]
    cases e0 : Nat.beq v.1 0 with
    | true =>
      obtain ⟨t, a, b⟩ := v
      have : t = 0 := ab_beq e0
      subst this
      obtain ⟨z, rfl, z1, z2⟩ := hvx
      obtain ⟨q, hq, q1, q2⟩ := ab_cuts_ok (cs := c.2) z1 z2
      refine ⟨[(p, c.1, (0, q.1, q.2))], hmem _ (by rw [e0, cond_true]; exact List.mem_map.mpr ⟨q, hq, rfl⟩), fun f hf => ?_⟩
      have := List.mem_singleton.mp hf
      subst this
      exact ⟨hp, hp0, _, hsl, ab_g_0.mpr ⟨z, rfl, q1, q2⟩⟩
    | false =>
      cases e2 : Nat.beq v.1 2 with
      | true => exact ⟨[], hmem _ (by rw [e0, e2, cond_false, cond_true]; exact List.mem_singleton_self _), fun f hf => by cases hf⟩
      | false =>
        refine ⟨[(p, c.1, v)], hmem _ (by rw [e0, e2, cond_false, cond_false]; exact List.mem_singleton_self _), fun f hf => ?_⟩
        have := List.mem_singleton.mp hf
        subst this
        exact ⟨hp, hp0, x, hsl, ab_g_c hvx⟩
theorem kc_R (hut : ∀ k, w_uq k = true → τ (u k) = k) : ∀ id p ρ h, ab_ad w_uq u ρ → ab_I w_kd w_un (w_G mc) τ tv h → kc_K τ mc h → ((τ (ρ p) = p / 16 ∧ p / 16 ≠ 0) ∨ (p % 16 = 0 ∧ w_uq (p / 16) = true)) → ∃ l ∈ w_cr mc id p, ab_fs τ tv ρ h l := by
  intro id p ρ h had hI hK hp
  have hp : τ (ρ p) = p / 16 ∧ p / 16 ≠ 0 := by
    rcases hp with hp | ⟨h1, h2⟩
    · exact hp
    · have e := had (p / 16) h2
      have e2 : 16 * (p / 16) = p := by omega
      rw [e2] at e
      refine ⟨by rw [e]; exact hut _ h2, fun e0 => ?_⟩
      rw [e0] at h2
      revert h2
      decide +kernel
  unfold w_cr
  cases e0 : Nat.beq id 0 with
  | true =>
    rw [cond_true]
    cases e1 : Nat.beq (Nat.div p 16) 22 with
    | false => exact ⟨[], List.mem_singleton_self _, fun f hf => by cases hf⟩
    | true =>
      have e1 : p / 16 = 22 := ab_beq e1
      have hF : ∀ i v x, ab_sl h (ρ p) i = some x → ab_g τ tv ρ v x → ab_fk τ tv ρ h (p, i, v) := fun i v x h1 h2 => ⟨hp.1, hp.2, x, h1, h2⟩
      obtain ⟨z, hz, hc⟩ := hK (ρ p) (by rw [hp.1, e1])
      rw [cond_true]
      unfold w_clu
      have hex : ∀ (w : Int32) (n : Nat), ab_b w = 2147483648 + n → ab_g τ tv ρ (w_e n) (.int w) := fun w n hw => ab_g_0.mpr ⟨w, rfl, by rw [hw]; exact Nat.le_refl _, by rw [hw]; exact Nat.le_refl _⟩
      have hrg : ∀ (w : Int32) (a b : Nat), 2147483648 + a ≤ ab_b w → ab_b w ≤ 2147483648 + b → ab_g τ tv ρ (w_r a b) (.int w) := fun w a b h1 h2 => ab_g_0.mpr ⟨w, rfl, h1, h2⟩
      rcases hc with rfl | rfl | ⟨rfl, y, hy, y1, y2⟩ | ⟨rfl, ⟨y, hy, y1, y2⟩, s, hs, s1, s2⟩
      · refine ⟨_, List.mem_cons_self, fun f hf => ?_⟩
        have := List.mem_singleton.mp hf
        subst this
        exact hF _ _ _ hz (hex _ 0 (by decide))
      · refine ⟨_, List.mem_cons_of_mem _ List.mem_cons_self, fun f hf => ?_⟩
        have := List.mem_singleton.mp hf
        subst this
        exact hF _ _ _ hz (hex _ 1 (by decide))
      · refine ⟨_, List.mem_cons_of_mem _ (List.mem_cons_of_mem _ List.mem_cons_self), fun f hf => ?_⟩
        rcases List.mem_cons.mp hf with rfl | hf
        · exact hF _ _ _ hz (hex _ 2 (by decide))
        · have := List.mem_singleton.mp hf
          subst this
          exact hF _ _ _ hy (hrg _ 0 7 y1 y2)
      · refine ⟨_, List.mem_cons_of_mem _ (List.mem_cons_of_mem _ (List.mem_cons_of_mem _ List.mem_cons_self)), fun f hf => ?_⟩
        rcases List.mem_cons.mp hf with rfl | hf
        · exact hF _ _ _ hz (hex _ 3 (by decide))
        · rcases List.mem_cons.mp hf with rfl | hf
          · exact hF _ _ _ hy (hrg _ 0 7 y1 y2)
          · have := List.mem_singleton.mp hf
            subst this
            exact hF _ _ _ hs (ab_g_0.mpr ⟨s, rfl, s1, s2⟩)
  | false =>
    rw [cond_false]
    split
    · exact w_cut_ok hI hp.1 hp.2
    · exact ⟨[], List.mem_singleton_self _, fun f hf => by cases hf⟩
end ABJ
