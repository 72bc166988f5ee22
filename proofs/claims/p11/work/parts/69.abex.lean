/-! ===== slots, calls, ends; all instructions ===== -/
section ABR
variable {kd : Nat → Nat × Nat} {un uq : Nat → Bool} {Gm : Nat → Nat → List ab_V}
variable {τ u : Nat → Nat} {tv : Nat} {K : am_H → Prop} {P0 P1 : am_H → Nat}
variable {ρ : Nat → Nat} {wr pm tk N k q pc a b c d : Nat} {h0 h : am_H} {g : ab_G} {lo st : List ab_V} {fa : List ab_F} {lo' : List (Option Value)} {st' : List Value} {Y : ab_X}
variable {cmp : Nat → Option (Option Nat)} {tls : Nat → List Nat}
theorem ax_res_ok {pc' : Nat} {l : List (ab_V × List ab_F)} {x : Value} {s : List ab_V} {s' : List Value} (hl : ∃ p ∈ l, ∃ ρ', ab_ad uq u ρ' ∧ ab_gO τ tv ρ' lo lo' ∧ ab_gL τ tv ρ' s s' ∧ ab_fs τ tv ρ' h p.2 ∧ ab_g τ tv ρ' p.1 x) (hP : ab_Hp kd un Gm τ tv K P0 P1 wr h0 h k q g) (hY : ax_res pc' lo s g (some l) = some Y) : ab_q kd un uq Gm τ u tv K P0 P1 wr h0 ρ h k q Y (am_go (pc', lo', x :: s', h, k, q)) := by
  obtain ⟨p, hp, ρ', h1, h2, h3, h4, h5⟩ := hl
  cases hY
  exact ⟨_, rfl, _, List.mem_map.mpr ⟨p, hp, rfl⟩, ρ', h1, rfl, h2, ⟨h5, h3⟩, h4, hP⟩
theorem ab_arr {x t : Nat} {vs : List Value} (hc : h[x]? = some (t, vs)) : am_arr h x t = some vs := by
  unfold am_arr
  rw [hc]
  exact if_pos rfl
theorem ax_get_ok (hU : ab_U uq τ u) (hadm : ab_ad uq u ρ) (hlo : ab_gO τ tv ρ lo lo') (hst : ab_gL τ tv ρ st st') (hfa : ab_fs τ tv ρ h fa) (hP : ab_Hp kd un Gm τ tv K P0 P1 wr h0 h k q g) (hY : ax_get kd un uq Gm a b tk N pc lo st fa g = some Y) : ab_q kd un uq Gm τ u tv K P0 P1 wr h0 ρ h k q Y (wk_ex tls cmp 25 a b c d pc lo' st' h k q) := by
  unfold ax_get at hY
  split at hY
  · rename_i r s
    obtain ⟨hb0, hY1⟩ := ab_bt_ hY
    obtain ⟨hb1, b3⟩ := ab_a2 hb0
    obtain ⟨b1, b2⟩ := ab_a2 hb1
    have b2 : (kd (ab_kn r)).1 = a := ab_beq b2
    have b3 : b < (kd (ab_kn r)).2 := ab_blt b3
    match st', hst with
    | [], hst => exact hst.elim
    | x' :: s', ⟨hr, hs⟩ =>
      obtain ⟨y, rfl, r1, r2, r3⟩ := ab_ref b1 hr
      obtain ⟨vs, x, c1, c2, c3, c4, c5⟩ := ab_I_sl hP.1 (a := y) (i := b) (by rw [r1]; exact r2) (by rw [r1]; exact b3)
      rw [r1, b2] at c1
      simp only [wk_ex]
      rw [ab_arr c1]
      dsimp only
      rw [c3]
      exact ax_res_ok (ab_ld_ok hU hadm b1 r1 r2 r3 (fun _ => c4) c5 hlo hs hfa) hP hY1
  · cases hY
theorem ab_eqV_d {v w : ab_V} (h : ab_eqV v w = true) : v = w := by
  obtain ⟨h, h3⟩ := ab_a2 h
  obtain ⟨h1, h2⟩ := ab_a2 h
  obtain ⟨a, b, c⟩ := v
  obtain ⟨a', b', c'⟩ := w
  have e1 : a = a' := ab_beq h1
  have e2 : b = b' := ab_beq h2
  have e3 : c = c' := ab_beq h3
  rw [e1, e2, e3]
theorem ab_eqL_d : ∀ {l m : List ab_V}, ab_eqL l m = true → l = m
  | [], [], _ => rfl
  | [], _ :: _, h => by cases h
  | _ :: _, [], h => by cases h
  | v :: l, w :: m, h => by
    obtain ⟨h1, h2⟩ := ab_a2 h
    rw [ab_eqV_d h1, ab_eqL_d h2]
theorem ab_rng_d {kk i : Nat} : ∀ {n : Nat}, ab_rng Gm kk i n = true → ∀ j, j ≤ n → Gm kk (i + j) = Gm kk i
  | 0, _, j, hj => by
    have : j = 0 := by omega
    subst this
    rfl
  | n + 1, h, j, hj => by
    obtain ⟨h1, h2⟩ := ab_a2 h
    by_cases e : j = n + 1
    · subst e
      exact ab_eqL_d h1
    · exact ab_rng_d h2 j (by omega)
/-- an element at an index -/
theorem ab_al_ok {r xi : ab_V} {y : Nat} {z : Int32} {l : List (ab_V × List ab_F)} {s : List ab_V} {s' : List Value} (hU : ab_U uq τ u) (hadm : ab_ad uq u ρ) (hI : ab_I kd un Gm τ tv h) (hr : ab_iR r = true) (r1 : τ y = ab_kn r) (r2 : ab_kn r ≠ 0) (r3 : r.1 = 1 → y = ρ r.2.1) (hz1 : xi.2.1 ≤ ab_b z) (hz2 : ab_b z ≤ xi.2.2) (hlo : ab_gO τ tv ρ lo lo') (hs : ab_gL τ tv ρ s s') (hfa : ab_fs τ tv ρ h fa) (hl : ab_al kd un uq Gm tk N lo s fa r xi = some l) : ∃ vs x, h[y]? = some ((kd (ab_kn r)).1, vs) ∧ am_rd vs z = some x ∧ ∃ p ∈ l, ∃ ρ', ab_ad uq u ρ' ∧ ab_gO τ tv ρ' lo lo' ∧ ab_gL τ tv ρ' s s' ∧ ab_fs τ tv ρ' h p.2 ∧ ab_g τ tv ρ' p.1 x := by
  unfold ab_al at hl
  obtain ⟨hb0, hl1⟩ := ab_bt_ hl
  obtain ⟨hb1, b3⟩ := ab_a2 hb0
  obtain ⟨b1, b2⟩ := ab_a2 hb1
  have b1 := ab_ble b1
  have b3 : xi.2.2 < 2147483648 + (kd (ab_kn r)).2 := ab_blt b3
  obtain ⟨n1, n2⟩ := ab_ix (z := z) (by omega)
  have hin : z.toNatClampNeg < (kd (ab_kn r)).2 := by omega
  obtain ⟨vs, x, c1, c2, c3, c4, c5⟩ := ab_I_sl hI (a := y) (i := z.toNatClampNeg) (by rw [r1]; exact r2) (by rw [r1]; exact hin)
  rw [r1] at c1
  have hrd : am_rd vs z = some x := by
    unfold am_rd
    rw [if_neg n1]
    exact c3
  refine ⟨vs, x, c1, hrd, ?_⟩
  cases he : ab_exq xi with
  | true =>
    rw [he] at hl1
    have hl2 : ab_ld kd un uq Gm tk N lo s fa r (Nat.sub xi.2.1 2147483648) = l := Option.some.inj hl1
    have he : xi.2.1 = xi.2.2 := ab_beq he
    have e : Nat.sub xi.2.1 2147483648 = z.toNatClampNeg := by
      show xi.2.1 - 2147483648 = _
      omega
    rw [e] at hl2
    rw [← hl2]
    exact ab_ld_ok hU hadm hr r1 r2 r3 (fun _ => c4) c5 hlo hs hfa
  | false =>
    rw [he] at hl1
    obtain ⟨hb, hl2⟩ := ab_bt_ hl1
    have hl3 := Option.some.inj hl2
    rw [← hl3]
    obtain ⟨v, hv, hvx⟩ := c5
    have hG : Gm (ab_kn r) (ab_gi un (ab_kn r) (Nat.sub xi.2.1 2147483648)) = Gm (τ y) (ab_gi un (τ y) z.toNatClampNeg) := by
      rw [r1]
      unfold ab_gi
      cases hu : un (ab_kn r) with
      | true => rw [cond_true, cond_true]
      | false =>
        rw [hu, Bool.false_or] at hb
        obtain ⟨I0, e0⟩ : ∃ I0, I0 = Nat.sub xi.2.1 2147483648 := ⟨_, rfl⟩
        obtain ⟨J0, e1⟩ : ∃ J0, J0 = Nat.sub xi.2.2 xi.2.1 := ⟨_, rfl⟩
        rw [← e0, ← e1] at hb
        rw [← e0]
        have f0 : I0 = xi.2.1 - 2147483648 := e0
        have f1 : J0 = xi.2.2 - xi.2.1 := e1
        have := ab_rng_d hb (z.toNatClampNeg - I0) (by omega)
        have e : I0 + (z.toNatClampNeg - I0) = z.toNatClampNeg := by omega
        rw [e] at this
        rw [cond_false, cond_false]
        exact this.symm
    have hkn : ab_kn (2, ab_kn r, 0) = ab_kn r := rfl
    refine ab_ld_ok (r := (2, ab_kn r, 0)) hU hadm rfl (r1.trans hkn.symm) r2 (fun e => by cases e) (fun e => by cases e) ⟨v, ?_, hvx⟩ hlo hs hfa
    rw [r1, hG]
    exact hv
theorem ab_allI_d {l : List (ab_V × List ab_F)} (h : ab_allI l = true) : ∀ p ∈ l, ab_iI p.1 = true := by
  induction l with
  | nil => intro p hp; cases hp
  | cons x l ih =>
    obtain ⟨h1, h2⟩ := ab_a2 h
    intro p hp
    rcases List.mem_cons.mp hp with rfl | hp
    · exact h1
    · exact ih h2 p hp
theorem ab_allR_d {l : List (ab_V × List ab_F)} (h : ab_allR l = true) : ∀ p ∈ l, ab_iR p.1 = true := by
  induction l with
  | nil => intro p hp; cases hp
  | cons x l ih =>
    obtain ⟨h1, h2⟩ := ab_a2 h
    intro p hp
    rcases List.mem_cons.mp hp with rfl | hp
    · exact h1
    · exact ih h2 p hp
theorem ax_ald_ok {t : Nat} (htv : 2147483648 ≤ tv ∧ tv ≤ 2147523647) (hU : ab_U uq τ u) (hadm : ab_ad uq u ρ) (hlo : ab_gO τ tv ρ lo lo') (hst : ab_gL τ tv ρ st st') (hfa : ab_fs τ tv ρ h fa) (hP : ab_Hp kd un Gm τ tv K P0 P1 wr h0 h k q g) (hY : ax_ald kd un uq Gm t tk N pc lo st fa g = some Y) : ∃ (z : Int32) (y : Nat) (s' vs : List Value) (x : Int32), st' = .int z :: .ref y :: s' ∧ am_arr h y t = some vs ∧ am_rd vs z = some (.int x) ∧ ab_q kd un uq Gm τ u tv K P0 P1 wr h0 ρ h k q Y (am_go (pc + 1, lo', .int x :: s', h, k, q)) := by
  unfold ax_ald at hY
  split at hY
  · rename_i xi r s
    obtain ⟨hb0, hY1⟩ := ab_bt_ hY
    obtain ⟨hb1, b4⟩ := ab_a2 hb0
    obtain ⟨hb2, b3⟩ := ab_a2 hb1
    obtain ⟨b1, b2⟩ := ab_a2 hb2
    have b3 : (kd (ab_kn r)).1 = t := ab_beq b3
    match st', hst with
    | [], hst => exact hst.elim
    | [_], hst => exact hst.2.elim
    | x' :: y' :: s', ⟨hx, hr, hs⟩ =>
      obtain ⟨z, rfl, z1, z2⟩ := ab_int htv b1 hx
      obtain ⟨y, rfl, r1, r2, r3⟩ := ab_ref b2 hr
      cases hl : ab_al kd un uq Gm tk N lo s fa r (ab_i xi) with
      | none => rw [hl] at b4; cases b4
      | some l =>
        rw [hl] at b4 hY1
        obtain ⟨vs, x, c1, c2, c3⟩ := ab_al_ok hU hadm hP.1 b2 r1 r2 r3 z1 z2 hlo hs hfa hl
        rw [b3] at c1
        have hx : ∃ w : Int32, x = .int w := by
          obtain ⟨p, hp, ρ', -, -, -, -, h5⟩ := c3
          obtain ⟨w, hw, -⟩ := ab_int htv (ab_allI_d b4 p hp) h5
          exact ⟨w, hw⟩
        obtain ⟨w, rfl⟩ := hx
        exact ⟨z, y, s', vs, w, rfl, ab_arr c1, c2, ax_res_ok c3 hP hY1⟩
  · cases hY
theorem ax_aal_ok (hcmp : ∀ t, 103 ≤ t → t ≤ 106 → (cmp t).isSome = true) (htv : 2147483648 ≤ tv ∧ tv ≤ 2147523647) (hU : ab_U uq τ u) (hadm : ab_ad uq u ρ) (hlo : ab_gO τ tv ρ lo lo') (hst : ab_gL τ tv ρ st st') (hfa : ab_fs τ tv ρ h fa) (hP : ab_Hp kd un Gm τ tv K P0 P1 wr h0 h k q g) (hY : ax_aal kd un uq Gm tk N pc lo st fa g = some Y) : ab_q kd un uq Gm τ u tv K P0 P1 wr h0 ρ h k q Y (wk_ex tls cmp 30 a b c d pc lo' st' h k q) := by
  unfold ax_aal at hY
  split at hY
  · rename_i xi r s
    obtain ⟨hb0, hY1⟩ := ab_bt_ hY
    obtain ⟨hb1, b5⟩ := ab_a2 hb0
    obtain ⟨hb2, b4⟩ := ab_a2 hb1
    obtain ⟨hb3, b3⟩ := ab_a2 hb2
    obtain ⟨b1, b2⟩ := ab_a2 hb3
    have b3 : 103 ≤ (kd (ab_kn r)).1 := ab_ble b3
    have b4 : (kd (ab_kn r)).1 ≤ 106 := ab_ble b4
    match st', hst with
    | [], hst => exact hst.elim
    | [_], hst => exact hst.2.elim
    | x' :: y' :: s', ⟨hx, hr, hs⟩ =>
      obtain ⟨z, rfl, z1, z2⟩ := ab_int htv b1 hx
      obtain ⟨y, rfl, r1, r2, r3⟩ := ab_ref b2 hr
      cases hl : ab_al kd un uq Gm tk N lo s fa r (ab_i xi) with
      | none => rw [hl] at b5; cases b5
      | some l =>
        rw [hl] at b5 hY1
        obtain ⟨vs, x, c1, c2, c3⟩ := ab_al_ok hU hadm hP.1 b2 r1 r2 r3 z1 z2 hlo hs hfa hl
        have hx : ∃ w, x = .ref w := by
          obtain ⟨p, hp, ρ', -, -, -, -, h5⟩ := c3
          obtain ⟨w, hw, -⟩ := ab_ref (ab_allR_d b5 p hp) h5
          exact ⟨w, hw⟩
        obtain ⟨w, rfl⟩ := hx
        simp only [wk_ex]
        rw [c1]
        dsimp only
        rw [if_pos (hcmp _ b3 b4), c2]
        exact ax_res_ok c3 hP hY1
  · cases hY
theorem ab_fit_ok {cc : Nat} {v : ab_V} {x : Value} (htv : 2147483648 ≤ tv ∧ tv ≤ 2147523647) (hf : ab_fit cc v = true) (hv : ab_g τ tv ρ v x) : wk_fit cc x = true := by
  unfold ab_fit at hf
  cases e0 : Nat.beq cc 0 with
  | true =>
    rw [e0] at hf
    have := ab_beq e0
    subst this
    obtain ⟨z, rfl, -⟩ := ab_int htv hf hv
    rfl
  | false =>
    rw [e0] at hf
    cases e1 : Nat.beq cc 1 with
    | true =>
      rw [e1] at hf
      have := ab_beq e1
      subst this
      obtain ⟨hf, f3⟩ := ab_a2 hf
      obtain ⟨f1, f2⟩ := ab_a2 hf
      obtain ⟨z, rfl, z1, z2⟩ := ab_int htv f1 hv
      have f2 := ab_ble f2
      have f3 := ab_ble f3
      exact ab_bitq (Nat.le_trans f2 z1) (Nat.le_trans z2 f3)
    | false =>
      rw [e1] at hf
      cases e2 : Nat.beq cc 2 with
      | true =>
        rw [e2] at hf
        have := ab_beq e2
        subst this
        have hf := ab_beq hf
        unfold ab_g ab_gc at hv
        rw [hf] at hv
        obtain ⟨z, rfl⟩ := hv
        rfl
      | false =>
        rw [e2] at hf
        obtain ⟨f1, f2⟩ := ab_a2 hf
        have := ab_beq f1
        subst this
        rcases Bool.or_eq_true_iff.mp f2 with e | e
        · obtain ⟨y, rfl, -⟩ := ab_ref e hv
          rfl
        · have e := ab_beq e
          unfold ab_g ab_gc at hv
          rw [e] at hv
          have hv : x = .null := hv
          subst hv
          rfl
theorem ax_put_ok (htv : 2147483648 ≤ tv ∧ tv ≤ 2147523647) (hpm : ab_pm kd τ K P0 P1 pm) (hadm : ab_ad uq u ρ) (hlo : ab_gO τ tv ρ lo lo') (hst : ab_gL τ tv ρ st st') (hfa : ab_fs τ tv ρ h fa) (hP : ab_Hp kd un Gm τ tv K P0 P1 wr h0 h k q g) (hY : ax_put kd un Gm a b c wr pm tk pc lo st fa g = some Y) : ab_q kd un uq Gm τ u tv K P0 P1 wr h0 ρ h k q Y (wk_ex tls cmp 26 a b c d pc lo' st' h k q) := by
  unfold ax_put at hY
  split at hY
  · rename_i v r s
    obtain ⟨hb0, hY1⟩ := ab_bt_ hY
    obtain ⟨hb1, b5⟩ := ab_a2 hb0
    obtain ⟨hb2, b4⟩ := ab_a2 hb1
    obtain ⟨hb3, b3⟩ := ab_a2 hb2
    obtain ⟨b1, b2⟩ := ab_a2 hb3
    have b2 : (kd (ab_kn r)).1 = a := ab_beq b2
    have b4 : b < (kd (ab_kn r)).2 := ab_blt b4
    match st', hst with
    | [], hst => exact hst.elim
    | [_], hst => exact hst.2.elim
    | x' :: y' :: s', ⟨hv, hr, hs⟩ =>
      obtain ⟨y, rfl, r1, r2, r3⟩ := ab_ref b1 hr
      unfold ax_st at hY1
      split at hY1
      · rename_i fa' hsv
        obtain ⟨vs, c1, c2, c3, c4⟩ := ab_sv_ok htv hpm hP hfa r1 r2 r3 b4 hv hsv
        rw [b2] at c1 c3 c4
        simp only [wk_ex]
        rw [ab_arr c1]
        dsimp only
        rw [if_pos ⟨c2, ab_fit_ok htv b5 hv⟩]
        have := ax_1_ok (uq := uq) (u := u) hadm hlo hs c4 c3 hY1
        cases hY1
        exact this
      · cases hY1
  · cases hY
theorem ax_ast_ok {t cc : Nat} (htv : 2147483648 ≤ tv ∧ tv ≤ 2147523647) (hpm : ab_pm kd τ K P0 P1 pm) (hadm : ab_ad uq u ρ) (hlo : ab_gO τ tv ρ lo lo') (hst : ab_gL τ tv ρ st st') (hfa : ab_fs τ tv ρ h fa) (hP : ab_Hp kd un Gm τ tv K P0 P1 wr h0 h k q g) (hY : ax_ast kd un Gm t cc wr pm tk pc lo st fa g = some Y) : ∃ (x : Value) (z : Int32) (y : Nat) (s' vs : List Value) (h' : am_H), st' = x :: .int z :: .ref y :: s' ∧ wk_fit cc x = true ∧ am_arr h y t = some vs ∧ am_wr h y t vs z x = some h' ∧ ab_q kd un uq Gm τ u tv K P0 P1 wr h0 ρ h' k q Y (am_go (pc + 1, lo', s', h', k, q)) := by
  unfold ax_ast at hY
  split at hY
  · rename_i v xi r s
    obtain ⟨hb0, hY1⟩ := ab_bt_ hY
    obtain ⟨hb1, b4⟩ := ab_a2 hb0
    obtain ⟨hb2, b3⟩ := ab_a2 hb1
    obtain ⟨b1, b2⟩ := ab_a2 hb2
    have b3 : (kd (ab_kn r)).1 = t := ab_beq b3
    match st', hst with
    | [], hst => exact hst.elim
    | [_], hst => exact hst.2.elim
    | [_, _], hst => exact hst.2.2.elim
    | x' :: w' :: y' :: s', ⟨hv, hx, hr, hs⟩ =>
      obtain ⟨z, rfl, z1, z2⟩ := ab_int htv b1 hx
      obtain ⟨y, rfl, r1, r2, r3⟩ := ab_ref b2 hr
      unfold ax_st at hY1
      split at hY1
      · rename_i fa' has
        obtain ⟨vs, c1, c2, c3, c4⟩ := ab_as_ok htv hpm hP hfa r1 r2 r3 z1 z2 hv has
        rw [b3] at c1 c2 c3 c4
        exact ⟨x', z, y, s', vs, _, rfl, ab_fit_ok htv b4 hv, ab_arr c1, c2, ax_1_ok hadm hlo hs c4 c3 hY1⟩
      · cases hY1
  · cases hY
theorem ax_aas_ok (htv : 2147483648 ≤ tv ∧ tv ≤ 2147523647) (hpm : ab_pm kd τ K P0 P1 pm) (hadm : ab_ad uq u ρ) (hlo : ab_gO τ tv ρ lo lo') (hst : ab_gL τ tv ρ st st') (hfa : ab_fs τ tv ρ h fa) (hP : ab_Hp kd un Gm τ tv K P0 P1 wr h0 h k q g) (hY : ax_aas kd un Gm cmp wr pm tk pc lo st fa g = some Y) : ∃ S', wk_ex tls cmp 34 a b c d pc lo' st' h k q = some (.inl S') ∧ ab_q kd un uq Gm τ u tv K P0 P1 wr h0 ρ h k q Y (some (.inl S')) := by
  unfold ax_aas at hY
  split at hY
  · rename_i v xi r s
    obtain ⟨hb0, hY1⟩ := ab_bt_ hY
    obtain ⟨hb1, b5⟩ := ab_a2 hb0
    obtain ⟨hb2, b4⟩ := ab_a2 hb1
    obtain ⟨hb3, b3⟩ := ab_a2 hb2
    obtain ⟨b1, b2⟩ := ab_a2 hb3
    match st', hst with
    | [], hst => exact hst.elim
    | [_], hst => exact hst.2.elim
    | [_, _], hst => exact hst.2.2.elim
    | x' :: w' :: y' :: s', ⟨hv, hx, hr, hs⟩ =>
      obtain ⟨z, rfl, z1, z2⟩ := ab_int htv b1 hx
      obtain ⟨y, rfl, r1, r2, r3⟩ := ab_ref b2 hr
      obtain ⟨w, rfl, w1, w2, w3⟩ := ab_ref b3 hv
      obtain ⟨ws, d1, d2, -⟩ := hP.1 w (by rw [w1]; exact w2)
      rw [w1] at d1
      unfold ax_st at hY1
      split at hY1
      · rename_i fa' has
        obtain ⟨vs, c1, c2, c3, c4⟩ := ab_as_ok htv hpm hP hfa r1 r2 r3 z1 z2 hv has
        split at b5
        · rename_i t ht
          have b5 : t = (kd (ab_kn v)).1 := ab_beq b5
          refine ⟨(pc + 1, lo', s', h.set y ((kd (ab_kn r)).1, vs.set z.toNatClampNeg (.ref w)), k, q), ?_, ?_⟩
          · simp only [wk_ex]
            rw [c1, d1]
            dsimp only
            rw [if_pos (by rw [ht, b5]), c2]
            rfl
          · have := ax_1_ok (uq := uq) (u := u) hadm hlo hs c4 c3 hY1
            cases hY1
            exact this
        · cases b5
      · cases hY1
  · cases hY
end ABR
