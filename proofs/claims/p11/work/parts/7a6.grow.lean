/-! ===== the class: a machine more ===== -/
def j_tau (τ : Nat → Nat) (L : Nat) : Nat → Nat := fun a => if L ≤ a ∧ a < L + 7 then 32 + (a - L) else τ a
theorem j_tau_n {τ : Nat → Nat} {L j : Nat} (hj : j < 7) : j_tau τ L (L + j) = 32 + j := by
  unfold j_tau
  rw [if_pos (by omega), Nat.add_sub_cancel_left]
theorem j_tau_o {τ : Nat → Nat} {L a : Nat} (ha : a < L) : j_tau τ L a = τ a := by
  unfold j_tau
  rw [if_neg (by omega)]
theorem j_uq7 : ∀ j, j < 7 → w_uq (32 + j) = false := by decide +kernel
theorem j_uq0 : w_uq 0 = false := by decide +kernel
theorem j_tau_U {τ u : Nat → Nat} {L : Nat} (hU : ab_U w_uq τ u) : ab_U w_uq (j_tau τ L) u := by
  intro a ha
  by_cases e : L ≤ a ∧ a < L + 7
  · exfalso
    obtain ⟨j, rfl⟩ : ∃ j, a = L + j := ⟨a - L, by omega⟩
    have hj : j < 7 := by omega
    rw [j_tau_n hj, j_uq7 j hj] at ha
    cases ha
  · have : j_tau τ L a = τ a := by
      unfold j_tau
      rw [if_neg e]
    rw [this] at ha ⊢
    exact hU a ha
theorem j_tau_ut {τ u : Nat → Nat} {mc tv : Nat} {h : am_H} (hut : ∀ k, w_uq k = true → τ (u k) = k) (hI : ab_I w_kd w_un (w_G mc) τ tv h) : ∀ k, w_uq k = true → j_tau τ h.length (u k) = k := by
  intro k hk
  have h0 : τ (u k) ≠ 0 := by
    rw [hut k hk]
    intro e
    rw [e, j_uq0] at hk
    cases hk
  rw [j_tau_o (ab_typed hI h0)]
  exact hut k hk
theorem ab_gc_tau {τ τ' : Nat → Nat} {tv : Nat} (ht : ∀ y, τ y ≠ 0 → τ' y = τ y) {v : ab_V} {x : Value} (h : ab_gc τ tv v x) : ab_gc τ' tv v x := by
  obtain ⟨t, a, b⟩ := v
  unfold ab_gc at h ⊢
  dsimp only at h ⊢
  split at h
  · exact h
  · obtain ⟨y, e1, e2, e3⟩ := h
    exact ⟨y, e1, by rw [ht y (by rw [e2]; exact e3)]; exact e2, e3⟩
  · exact h
  · exact h
  · exact h
  · exact h
  · exact h.elim
theorem j_rep {n : Nat} {z : Int32} {i : Nat} {x : Value} (hx : (List.replicate n (Value.int z))[i]? = some x) : x = .int z := by
  rw [List.getElem?_replicate] at hx
  split at hx
  · exact (Option.some.inj hx).symm
  · cases hx
set_option maxRecDepth 100000 in
theorem j_grow {τ : Nat → Nat} {mc tv m : Nat} (hmc : mc < 8) (htv : 2147483648 ≤ tv ∧ tv ≤ 2147523647) {h : am_H} (hI : ab_I w_kd w_un (w_G mc) τ tv h) {zn zt za zl : Int32} (hn : ab_b zn = 2147483648 + mc) (ht : 2147483648 ≤ ab_b zt ∧ ab_b zt ≤ 2147483650) (ha : 2147483648 ≤ ab_b za ∧ ab_b za ≤ 2147483655) (hl : 2147483648 ≤ ab_b zl ∧ ab_b zl ≤ 2147483651) {ws : List Value} (w1 : ws.length = 8) (w2 : ∀ i, i < 8 → ws[i]? = some (.int (-1))) : ab_I w_kd w_un (w_G3 mc) (j_tau τ h.length) tv (h ++ n_cells h.length zn zt za zl ws) := by
  have gt : ∀ z : Int32, ab_gc (j_tau τ h.length) tv ab_top (.int z) := fun z => ⟨z, rfl, Nat.zero_le _, Nat.le_of_lt_succ (ab_b_lt z)⟩
  have nr : ∀ j, j < 7 → ab_gc (j_tau τ h.length) tv (2, 32 + j, 0) (.ref (h.length + j)) := fun j hj => ⟨_, rfl, j_tau_n hj, by show 32 + j ≠ 0; omega⟩
  intro a hta
  by_cases e : h.length ≤ a ∧ a < h.length + 7
  · obtain ⟨j, rfl⟩ : ∃ j, a = h.length + j := ⟨a - h.length, by omega⟩
    have hj : j < 7 := by omega
    rw [j_tau_n hj, n_at]
    match j, hj with
    | 0, _ =>
      refine ⟨_, rfl, rfl, fun i x hx => ?_⟩
      match i, hx with
      | 0, hx => cases hx; exact ⟨w_mm (Nat.add mc 1), List.mem_singleton_self _, zn, rfl, by rw [hn]; exact Nat.le_add_right _ _, by rw [hn]; show _ ≤ Nat.add 2147483648 (Nat.sub (Nat.add mc 1) 1); rw [md_a, md_s, md_a]; omega⟩
      | 1, hx => cases hx; exact ⟨w_r 0 2, List.mem_singleton_self _, zt, rfl, ht.1, ht.2⟩
      | 2, hx => cases hx; exact ⟨w_r 0 7, List.mem_singleton_self _, za, rfl, ha.1, ha.2⟩
      | 3, hx => cases hx; exact ⟨w_r 0 3, List.mem_singleton_self _, zl, rfl, hl.1, hl.2⟩
      | 4, hx => cases hx; exact ⟨ab_top, List.mem_singleton_self _, gt _⟩
      | 5, hx => cases hx; exact ⟨(2, 33, 0), List.mem_singleton_self _, nr 1 (by decide)⟩
      | 6, hx => cases hx; exact ⟨(2, 34, 0), List.mem_singleton_self _, nr 2 (by decide)⟩
      | 7, hx => cases hx; exact ⟨w_r 0 4, List.mem_singleton_self _, 0, rfl, by decide, by decide⟩
      | 8, hx => cases hx; exact ⟨(2, 35, 0), List.mem_singleton_self _, nr 3 (by decide)⟩
      | 9, hx => cases hx; exact ⟨(2, 36, 0), List.mem_singleton_self _, nr 4 (by decide)⟩
      | 10, hx => cases hx; exact ⟨(2, 37, 0), List.mem_singleton_self _, nr 5 (by decide)⟩
      | 11, hx => cases hx; exact ⟨(2, 38, 0), List.mem_singleton_self _, nr 6 (by decide)⟩
      | 12, hx => cases hx; exact ⟨ab_top, List.mem_singleton_self _, gt _⟩
      | n + 13, hx => cases hx
    | 1, _ => exact ⟨_, rfl, List.length_replicate, fun i x hx => by rw [j_rep hx]; exact ⟨w_r 0 7, List.mem_singleton_self _, 0, rfl, by decide, by decide⟩⟩
    | 2, _ => exact ⟨_, rfl, List.length_replicate, fun i x hx => by rw [j_rep hx]; exact ⟨ab_top, List.mem_singleton_self _, gt _⟩⟩
    | 3, _ => exact ⟨_, rfl, List.length_replicate, fun i x hx => by rw [j_rep hx]; exact ⟨ab_top, List.mem_singleton_self _, gt _⟩⟩
    | 4, _ =>
      refine ⟨_, rfl, w1, fun i x hx => ?_⟩
      have hi : i < 8 := by
        by_cases e : i < 8
        · exact e
        · rw [List.getElem?_eq_none (by omega)] at hx
          cases hx
      rw [w2 i hi] at hx
      cases hx
      exact ⟨w_m 0, List.mem_cons_self, _, rfl, by decide, by decide⟩
    | 5, _ => exact ⟨_, rfl, List.length_replicate, fun i x hx => by rw [j_rep hx]; exact ⟨ab_top, List.mem_singleton_self _, gt _⟩⟩
    | 6, _ => exact ⟨_, rfl, List.length_replicate, fun i x hx => by rw [j_rep hx]; exact ⟨ab_top, List.mem_singleton_self _, gt _⟩⟩
  · have hτ : j_tau τ h.length a = τ a := by
      unfold j_tau
      rw [if_neg e]
    rw [hτ] at hta ⊢
    have hlt := ab_typed hI hta
    obtain ⟨vs, h1, h2, h3⟩ := hI a hta
    refine ⟨vs, by rw [List.getElem?_append_left hlt]; exact h1, h2, fun i x hx => ?_⟩
    obtain ⟨v, hv, hg⟩ := h3 i x hx
    have hk := w_G0 hv
    have hi : i < vs.length := by
      by_cases e : i < vs.length
      · exact e
      · rw [List.getElem?_eq_none (by omega)] at hx
        cases hx
    have hil : ab_gi w_un (τ a) i < 80 := by
      have := w_kdl (τ a) hk
      unfold ab_gi
      cases w_un (τ a) with
      | true => exact Nat.succ_pos _
      | false => show i < 80; omega
    have := List.all_eq_true.mp (w_mono mc hmc (τ a) hk _ hil) v hv
    exact ab_any_ok (ρ := fun _ => 0) htv this (ab_g_c (ab_gc_tau (fun y hy => j_tau_o (ab_typed hI hy)) hg))
/-- other bounds of the same slots -/
theorem ab_I_re {G G' : Nat → Nat → List ab_V} {τ : Nat → Nat} {tv : Nat} {h : am_H} (hI : ab_I w_kd w_un G τ tv h) (hG : ∀ a i x, τ a ≠ 0 → i < (w_kd (τ a)).2 → ab_sl h a i = some x → (∃ v ∈ G (τ a) (ab_gi w_un (τ a) i), ab_gc τ tv v x) → ∃ v ∈ G' (τ a) (ab_gi w_un (τ a) i), ab_gc τ tv v x) : ab_I w_kd w_un G' τ tv h := by
  intro a ha
  obtain ⟨vs, h1, h2, h3⟩ := hI a ha
  refine ⟨vs, h1, h2, fun i x hx => ?_⟩
  have hi : i < vs.length := by
    by_cases e : i < vs.length
    · exact e
    · rw [List.getElem?_eq_none (by omega)] at hx
      cases hx
  exact hG a i x ha (by omega) (by rw [ab_sl_at h1]; exact hx) (h3 i x hx)
theorem j_un1 : w_un 1 = false := by decide +kernel
theorem j_un6 : w_un 6 = false := by decide +kernel
theorem j_un40 : w_un 40 = false := by decide +kernel
/-- the class has it -/
theorem j_to2 {τ u : Nat → Nat} {mc tv : Nat} {h : am_H} (hU : ab_U w_uq τ u) (hI : ab_I w_kd w_un (w_G3 mc) τ tv h) (h1 : j_t h (u 1) 5 (2147483648 + (mc + 1))) {y : Nat} (h6 : ab_sl h (u 6) mc = some (.ref y)) (hy : τ y = 32) : ab_I w_kd w_un (w_G2 mc) τ tv h := by
  refine ab_I_re hI (fun a i x ha hi hx hv => ?_)
  by_cases e1 : τ a = 1 ∧ i = 5
  · obtain ⟨e1, rfl⟩ := e1
    have hau : a = u 1 := by have := hU a (by rw [e1]; decide +kernel); rw [e1] at this; exact this
    obtain ⟨z, hz, hT⟩ := h1
    rw [hau, hz] at hx
    cases hx
    rw [e1]
    exact ⟨w_e (Nat.add mc 1), List.mem_singleton_self _, z, rfl, by rw [hT]; exact Nat.le_refl _, by rw [hT]; exact Nat.le_refl _⟩
  by_cases e6 : τ a = 6 ∧ i = mc
  · obtain ⟨e6, rfl⟩ := e6
    have hau : a = u 6 := by have := hU a (by rw [e6]; decide +kernel); rw [e6] at this; exact this
    rw [hau, h6] at hx
    cases hx
    rw [e6]
    refine ⟨(2, 32, 0), ?_, y, rfl, hy, by decide⟩
    have e : Nat.blt i (Nat.add i 1) = true := Nat.ble_eq_true_of_le (Nat.le_refl _)
    show _ ∈ (bif Nat.blt i (Nat.add i 1) then [(2, 32, 0)] else [(3, 0, 0)] : List ab_V)
    rw [e]
    exact List.mem_singleton_self _
  · obtain ⟨v, hv, hg⟩ := hv
    refine ⟨v, ?_, hg⟩
    unfold w_G3 at hv
    have n1 : (Nat.beq (τ a) 1 && Nat.beq (ab_gi w_un (τ a) i) 5) = false := by
      cases hb : Nat.beq (τ a) 1 with
      | false => rfl
      | true =>
        have e := ab_beq hb
        rw [e] at e1 ⊢
        show Nat.beq (ab_gi w_un 1 i) 5 = false
        unfold ab_gi
        rw [j_un1]
        show Nat.beq i 5 = false
        cases hc : Nat.beq i 5 with
        | false => rfl
        | true => exact absurd ⟨rfl, ab_beq hc⟩ e1
    have n6 : (Nat.beq (τ a) 6 && Nat.beq (ab_gi w_un (τ a) i) mc) = false := by
      cases hb : Nat.beq (τ a) 6 with
      | false => rfl
      | true =>
        have e := ab_beq hb
        rw [e] at e6 ⊢
        show Nat.beq (ab_gi w_un 6 i) mc = false
        unfold ab_gi
        rw [j_un6]
        show Nat.beq i mc = false
        cases hc : Nat.beq i mc with
        | false => rfl
        | true => exact absurd ⟨rfl, ab_beq hc⟩ e6
    rw [n1, n6] at hv
    exact hv
/-- the reference has it -/
theorem j_to1 {τ u : Nat → Nat} {mc tv : Nat} {h : am_H} (hU : ab_U w_uq τ u) (hI : ab_I w_kd w_un (w_G2 mc) τ tv h) (h1 : j_t h (u 40) 25 (2147483648 + (mc + 1))) : ab_I w_kd w_un (w_G (mc + 1)) τ tv h := by
  refine ab_I_re hI (fun a i x ha hi hx hv => ?_)
  by_cases e1 : τ a = 40 ∧ i = 25
  · obtain ⟨e1, rfl⟩ := e1
    have hau : a = u 40 := by have := hU a (by rw [e1]; decide +kernel); rw [e1] at this; exact this
    obtain ⟨z, hz, hT⟩ := h1
    rw [hau, hz] at hx
    cases hx
    rw [e1]
    exact ⟨w_e (Nat.add mc 1), List.mem_singleton_self _, z, rfl, by rw [hT]; exact Nat.le_refl _, by rw [hT]; exact Nat.le_refl _⟩
  · obtain ⟨v, hv, hg⟩ := hv
    refine ⟨v, ?_, hg⟩
    unfold w_G2 at hv
    have n1 : (Nat.beq (τ a) 40 && Nat.beq (ab_gi w_un (τ a) i) 25) = false := by
      cases hb : Nat.beq (τ a) 40 with
      | false => rfl
      | true =>
        have e := ab_beq hb
        rw [e] at e1 ⊢
        show Nat.beq (ab_gi w_un 40 i) 25 = false
        unfold ab_gi
        rw [j_un40]
        show Nat.beq i 25 = false
        cases hc : Nat.beq i 25 with
        | false => rfl
        | true => exact absurd ⟨rfl, ab_beq hc⟩ e1
    rw [n1] at hv
    exact hv
/-- between the class's machine and the reference's -/
def j_H (τ u : Nat → Nat) (mc Tc Tm : Nat) (zt za : Int32) (h : am_H) : Prop := ab_I w_kd w_un (w_G2 mc) τ 2147483648 h ∧ kc_K τ (mc + 1) h ∧ km_K u mc h ∧ j_t h (u 40) 19 2147483648 ∧ j_t h (u 1) 6 Tc ∧ j_t h (u 40) 1 Tm ∧ j_t h (u 40) 25 (2147483648 + mc) ∧ j_rel u mc h ∧ ∃ y, ab_sl h (u 6) mc = some (.ref y) ∧ τ y = 32 ∧ ab_sl h y 1 = some (.int zt) ∧ ab_sl h y 2 = some (.int za)
/-- where no slot of these changes -/
def j_kl : List Nat := [1, 6, 22, 32, 40, 49, 52, 53, 54, 56, 57, 58, 59, 60]
theorem j_Hs {τ u : Nat → Nat} {mc Tc Tm : Nat} {zt za : Int32} {h h' : am_H} (hut : ∀ k, w_uq k = true → τ (u k) = k) (hmc : mc < 8) (hH : j_H τ u mc Tc Tm zt za h) (hI : ab_I w_kd w_un (w_G2 mc) τ 2147483648 h') (hs : ∀ a i, τ a ∈ j_kl → ab_sl h' a i = ab_sl h a i) : j_H τ u mc Tc Tm zt za h' := by
  obtain ⟨i1, i2, i3, i4, i5, i6, i7, i8, y, y1, y2, y3, y4⟩ := hH
  have eu : ∀ k i, w_uq k = true → k ∈ j_kl → ab_sl h' (u k) i = ab_sl h (u k) i := fun k i hk hn => hs _ _ (by rw [hut k hk]; exact hn)
  have et : ∀ {k i T}, w_uq k = true → k ∈ j_kl → j_t h (u k) i T → j_t h' (u k) i T := fun {k i T} hk hk0 ⟨z, hz, hT⟩ => ⟨z, by rw [eu k i hk hk0]; exact hz, hT⟩
  have e32 : ∀ y i, τ y = 32 → ab_sl h' y i = ab_sl h y i := fun y i hy => hs _ _ (by rw [hy]; decide)
  refine ⟨hI, fun a ha => ?_, ?_, et (by decide +kernel) (by decide) i4, et (by decide +kernel) (by decide) i5, et (by decide +kernel) (by decide) i6, et (by decide +kernel) (by decide) i7, fun i hi => ?_, y, by rw [eu 6 _ (by decide +kernel) (by decide)]; exact y1, y2, by rw [e32 y _ y2]; exact y3, by rw [e32 y _ y2]; exact y4⟩
  · have e : ∀ i, ab_sl h' a i = ab_sl h a i := fun i => hs _ _ (by rw [ha]; decide)
    rw [e, e, e]
    exact i2 a ha
  · refine km_same (fun k hk i => ?_) (eu 40 19 (by decide +kernel) (by decide)) i3
    simp only [List.mem_cons, List.not_mem_nil, or_false] at hk
    rcases hk with rfl | rfl | rfl | rfl | rfl | rfl | rfl | rfl | rfl <;> exact eu _ _ (by decide +kernel) (by decide)
  · obtain ⟨w, z1, z2, h1, h2, h3, h4, h5⟩ := i8 i hi
    have hw : τ w = 32 := by
      have u6 := hut 6 (by decide +kernel)
      obtain ⟨vs, x, -, -, -, hs, v, hv, hg⟩ := ab_I_sl i1 (a := u 6) (i := i) (by rw [u6]; decide) (by rw [u6]; show i < 8; omega)
      rw [h1] at hs
      cases hs
      rw [u6] at hv
      have e : Nat.blt i (Nat.add mc 1) = true := Nat.ble_eq_true_of_le (Nat.le_succ_of_le hi)
      have hv : v ∈ (bif Nat.blt i (Nat.add mc 1) then [(2, 32, 0)] else [(3, 0, 0)] : List ab_V) := hv
      rw [e] at hv
      have := List.mem_singleton.mp hv
      subst this
      obtain ⟨y', e1, e2, -⟩ := hg
      cases e1
      exact e2
    exact ⟨w, z1, z2, by rw [eu 6 _ (by decide +kernel) (by decide)]; exact h1, by rw [e32 w _ hw]; exact h2, by rw [eu 59 _ (by decide +kernel) (by decide)]; exact h3, by rw [e32 w _ hw]; exact h4, by rw [eu 60 _ (by decide +kernel) (by decide)]; exact h5⟩
/-- a frame, for slots that a cell has not, too -/
theorem j_fr2 {G : Nat → Nat → List ab_V} {τ : Nat → Nat} {tv M : Nat} {h h' : am_H} (hI : ab_I w_kd w_un G τ tv h) (hI' : ab_I w_kd w_un G τ tv h') (hF : ab_Fr w_kd τ M h h') {a : Nat} (ha : τ a ≠ 0) (hb : ∀ i, i < (w_kd (τ a)).2 → ab_tb M (ab_bt w_kd (τ a) i) = false) (i : Nat) : ab_sl h' a i = ab_sl h a i := by
  by_cases e : i < (w_kd (τ a)).2
  · exact (hF a (ab_typed hI ha)).2 ha i (hb i e)
  · obtain ⟨vs, h1, h2, -⟩ := hI a ha
    obtain ⟨ws, g1, g2, -⟩ := hI' a ha
    rw [ab_sl_at h1, ab_sl_at g1, List.getElem?_eq_none (by omega), List.getElem?_eq_none (by omega)]
theorem kc_al_mono {mc : Nat} {k f s : Option Value} (h : kc_al mc k f s) : kc_al (mc + 1) k f s := by
  obtain ⟨z, hz, hc⟩ := h
  refine ⟨z, hz, ?_⟩
  rcases hc with h | h | h | ⟨h1, h2, y, hy, y1, y2⟩
  · exact Or.inl h
  · exact Or.inr (Or.inl h)
  · exact Or.inr (Or.inr (Or.inl h))
  · exact Or.inr (Or.inr (Or.inr ⟨h1, h2, y, hy, y1, by omega⟩))
section RSA
variable {fty : Nat → Nat → Option FieldType} {dfl : Nat → Option (List Value)} {cmp : Nat → Option (Option Nat)} {lk : Nat → Nat → Option am_K} {ms : Nat → Option am_M} {cx : Nat → Option Nat}
variable {tls : Nat → List Nat} {mi : am_M} {mf : fm_M} {pc a b c d k q : Nat} {lo : List (Option Value)} {h h0 : am_H} {Q : am_R → Prop}
/-- a constructor's call -/
theorem rs_sp (hmf : wk_mck fty lk tls mi mf = true) (hw : wk_at mf pc 40 a b 1 d = true) {x : Nat} {cc : am_C} {r as : List Value} {mj : am_M} (hcell : h[x]? = some cc) (hb : as.length = b) (ho : am_one as = true) (hr : am_cat r ≤ 8) (hj : ms a = some mj) (hroom : am_f mj + 1 ≤ am_f mi ∧ 8 + (am_L mj + 11) + am_w mj ≤ am_w mi ∧ as.length + 1 ≤ am_L mj) (hc : Rn fty dfl cmp lk ms cx mj (0, (.ref x :: as).map some ++ List.replicate (am_L mj - (as.length + 1)) none, [], h, 0, 0) (fun r' => ∃ v h' k' q', r' = (.inl v, h', k', q') ∧ Rn fty dfl cmp lk ms cx mi (pc + 3, lo, v.toList ++ r, h', k + k', q + q') Q)) : Rn fty dfl cmp lk ms cx mi (pc, lo, as.reverse ++ .ref x :: r, h, k, q) Q := by
  have e1 : (as.reverse ++ .ref x :: r).take b = as.reverse := by
    rw [List.take_append_of_le_length (by rw [List.length_reverse]; omega), List.take_of_length_le (by rw [List.length_reverse]; omega)]
  have e2 : (as.reverse ++ .ref x :: r).drop b = .ref x :: r := by
    rw [List.drop_append_of_le_length (by rw [List.length_reverse]; omega), List.drop_of_length_le (by rw [List.length_reverse]; omega)]
    rfl
  have hx' : wk_ex tls cmp 40 a b 1 d pc lo (as.reverse ++ .ref x :: r) h k q = some (.inr (.inr (a, .ref x :: as, (pc, lo, r, h, k, q)))) := by
    have := ab_ask2 (kk := (0, a, b, (d : Int))) (rc := 1) (y := x) (r := r) (st := as.reverse ++ .ref x :: r) (pc := pc) (lo' := lo) (k := k) (q := q) (by decide) (by show ((as.reverse ++ .ref x :: r).take b).reverse.length = b; rw [e1, List.reverse_reverse]; exact hb) e2 hr (by show am_one ((as.reverse ++ .ref x :: r).take b).reverse = true; rw [e1, List.reverse_reverse]; exact ho) hcell (Or.inl rfl)
    show am_ask (0, a, b, (d : Int)) 1 pc lo (as.reverse ++ .ref x :: r) h k q = _
    rw [this]
    show some (Sum.inr (Sum.inr (a, .ref x :: ((as.reverse ++ .ref x :: r).take b).reverse, (pc, lo, r, h, k, q)))) = _
    rw [e1, List.reverse_reverse]
  exact rs_ca hmf hw hx' hj hroom hc
variable {kd : Nat → Nat × Nat} {un : Nat → Bool} {Gm : Nat → Nat → List ab_V} {τ : Nat → Nat} {tv wr kk : Nat}
theorem rs_aas (hmf : wk_mck fty lk tls mi mf = true) (hw : wk_at mf pc 34 a b c d = true) {x v n : Nat} {i : Int32} {r : List Value} (hP : rs_H kd un Gm τ tv wr h0 h kk) (hx : τ x ≠ 0) (hv0 : τ v ≠ 0) (hcmp : cmp (kd (τ x)).1 = some (some (kd (τ v)).1)) (hi : 2147483648 ≤ ab_b i) (hin : ab_b i - 2147483648 = n) (hb : n < (kd (τ x)).2) (hwr : ab_tb wr (ab_bt kd (τ x) n) = true) (hg : ∃ w ∈ Gm (τ x) (ab_gi un (τ x) n), ab_gc τ tv w (.ref v)) (hn : ∀ h', rs_H kd un Gm τ tv wr h0 h' kk → (∀ a' i', ab_sl h' a' i' = if a' = x ∧ i' = n then some (.ref v) else ab_sl h a' i') → Rn fty dfl cmp lk ms cx mi (pc + 1, lo, r, h', k, q) Q) : Rn fty dfl cmp lk ms cx mi (pc, lo, .ref v :: .int i :: .ref x :: r, h, k, q) Q := by
  obtain ⟨vs, h1, h2, -⟩ := hP.1 x hx
  obtain ⟨ws, g1, -, -⟩ := hP.1 v hv0
  obtain ⟨n1, n2⟩ := ab_ix hi
  obtain ⟨s1, s2⟩ := rs_set hP hx h1 (i := n) (by omega) hwr hg
  have hwrt : am_wr h x (kd (τ x)).1 vs i (.ref v) = some (h.set x ((kd (τ x)).1, vs.set n (.ref v))) := by
    unfold am_wr
    rw [if_neg n1, n2, hin, if_pos (by omega)]
  refine rs_st (cmp := cmp) hmf hw ?_ (hn _ s1 s2)
  simp only [wk_ex]
  rw [h1, g1]
  dsimp only
  rw [if_pos hcmp, hwrt]
  rfl
theorem rs_put2 (hmf : wk_mck fty lk tls mi mf = true) (hw : wk_at mf pc 26 a b c d = true) {x : Nat} {r : List Value} {v : Value} (hP : rs_H kd un Gm τ tv wr h0 h kk) (hx : τ x ≠ 0) (hk : (kd (τ x)).1 = a) (hb : b < (kd (τ x)).2) (hf : wk_fit c v = true) (hwr : ab_tb wr (ab_bt kd (τ x) b) = true) (hg : ∃ w ∈ Gm (τ x) (ab_gi un (τ x) b), ab_gc τ tv w v) (hn : ∀ h', rs_H kd un Gm τ tv wr h0 h' kk → (∀ a' i', ab_sl h' a' i' = if a' = x ∧ i' = b then some v else ab_sl h a' i') → Rn fty dfl cmp lk ms cx mi (pc + 3, lo, r, h', k, q) Q) : Rn fty dfl cmp lk ms cx mi (pc, lo, v :: .ref x :: r, h, k, q) Q := by
  obtain ⟨vs, h1, h2, -⟩ := hP.1 x hx
  obtain ⟨s1, s2⟩ := rs_set hP hx h1 (by omega) hwr hg
  rw [hk] at h1 s1 s2
  refine rs_st (cmp := cmp) hmf hw ?_ (hn _ s1 s2)
  simp only [wk_ex]
  rw [ab_arr h1]
  dsimp only
  rw [if_pos ⟨by omega, hf⟩]
  rfl
end RSA
