/-! ===== all instructions ===== -/
section ABU
variable {kd : Nat → Nat × Nat} {un uq : Nat → Bool} {Gm : Nat → Nat → List ab_V}
variable {τ u : Nat → Nat} {tv : Nat} {K : am_H → Prop} {P0 P1 : am_H → Nat}
variable {ρ : Nat → Nat} {wr pm tk N k q pc a b c d : Nat} {h0 h : am_H} {g : ab_G} {lo st : List ab_V} {fa : List ab_F} {lo' : List (Option Value)} {st' : List Value} {Y : ab_X}
variable {cmp : Nat → Option (Option Nat)} {tls : Nat → List Nat}
theorem ab_const (n : Nat) : ab_g τ tv ρ (0, Nat.mod (Nat.add n 2147483648) 4294967296, Nat.mod (Nat.add n 2147483648) 4294967296) (.int (Int32.ofNat n)) := by
  have h := ab_b_of n
  exact ab_g_0.mpr ⟨Int32.ofNat n, rfl, by rw [h]; exact Nat.le_refl _, by rw [h]; exact Nat.le_refl _⟩
theorem ab_tag4 {v : ab_V} (h : (Nat.beq v.1 4 || Nat.beq v.1 5) = false) : v.1 ≠ 4 := fun e => by
  rw [e] at h
  cases h
theorem ab_bif_none {α : Type} {b : Bool} {x : Option α} {y : α} (h : (bif b then none else x) = some y) : b = false ∧ x = some y := by
  cases b with
  | true => cases h
  | false => exact ⟨rfl, h⟩
theorem ab_q_in {h2 : am_H} {X : Option am_X} {S' : am_S} (hq : ab_q kd un uq Gm τ u tv K P0 P1 wr h0 ρ h2 k q Y X) (hX : X = some (.inl S')) : ab_q kd un uq Gm τ u tv K P0 P1 wr h0 ρ h k q Y X := by
  subst hX
  match Y, hq with
  | .inl As, hq => exact hq
  | .inr (.inl (t, v)), ⟨r, e, _⟩ => cases e
  | .inr (.inr (j, as, A')), ⟨as', S, e, _⟩ => cases e
set_option maxHeartbeats 4000000 in
theorem ab_ex_ok (hcmp : ∀ t, 103 ≤ t → t ≤ 106 → (cmp t).isSome = true) (htv : 2147483648 ≤ tv ∧ tv ≤ 2147523647) (hU : ab_U uq τ u) (hpm : ab_pm kd τ K P0 P1 pm) (hadm : ab_ad uq u ρ) (hlo : ab_gO τ tv ρ lo lo') (hst : ab_gL τ tv ρ st st') (hfa : ab_fs τ tv ρ h fa) (hP : ab_Hp kd un Gm τ tv K P0 P1 wr h0 h k q g) : ∀ {op : Nat}, ab_ex kd un uq Gm cmp tls wr pm tk N op a b c d pc lo st fa g = some Y → (op = 40 → c = 0 ∨ c = 1 ∨ c = 2) → ab_q kd un uq Gm τ u tv K P0 P1 wr h0 ρ h k q Y (wk_ex tls cmp op a b c d pc lo' st' h k q)
  | 0, hY, _ => by cases hY
  | 1, hY, _ => ax_1_ok (st1 := (0, Nat.mod (Nat.add (Nat.div a 8) 2147483648) 4294967296, Nat.mod (Nat.add (Nat.div a 8) 2147483648) 4294967296) :: st) hadm hlo ⟨ab_const (a / 8), hst⟩ hfa hP hY
  | 2, hY, _ => by
    have hY : ax_lod a (Nat.add pc b) false lo st fa g = some Y := hY
    obtain ⟨x, h1, h2⟩ := (ax_lod_ok hadm htv hlo hst hfa hP hY).1 rfl
    simp only [wk_ex]
    rw [h1]
    exact h2
  | 3, hY, _ => by
    have hY : ax_lod a (Nat.add pc b) true lo st fa g = some Y := hY
    obtain ⟨x, h1, h2⟩ := (ax_lod_ok hadm htv hlo hst hfa hP hY).2 rfl
    simp only [wk_ex]
    rw [h1]
    exact h2
  | 4, hY, _ => by
    have hY : ax_sto a (Nat.add pc b) false lo st fa g = some Y := hY
    obtain ⟨h0, h1, -⟩ := ax_sto_ok hadm htv hlo hst hfa hP hY
    obtain ⟨x, r, rfl, h2⟩ := h1 rfl
    simp only [wk_ex]
    rw [if_pos h0]
    exact h2
  | 5, hY, _ => by
    have hY : ax_sto a (Nat.add pc b) true lo st fa g = some Y := hY
    obtain ⟨h0, -, h1⟩ := ax_sto_ok hadm htv hlo hst hfa hP hY
    obtain ⟨x, r, rfl, h2⟩ := h1 rfl
    simp only [wk_ex]
    rw [if_pos h0]
    exact h2
  | 6, hY, _ => by
    have hY : (bif ab_iI (ab_nth lo a) then ax_1 (Nat.add pc 3) (lo.set a (ab_add (ab_nth lo a) (0, Nat.mod (Nat.add b 2147483648) 4294967296, Nat.mod (Nat.add b 2147483648) 4294967296))) st fa g else none) = some Y := hY
    obtain ⟨hb, hY1⟩ := ab_bt_ hY
    have h5 : (ab_nth lo a).1 ≠ 5 := fun e => by
      unfold ab_iI at hb
      rw [e] at hb
      cases hb
    obtain ⟨x, h1, h2⟩ := ab_gO_nth hlo a h5
    obtain ⟨z, rfl, -⟩ := ab_int htv hb h2
    simp only [wk_ex]
    rw [h1]
    exact ax_1_ok hadm (ab_gO_set hlo a (ab_add_ok htv hb rfl h2 (ab_const b))) hst hfa hP hY1
  | 7, hY, _ => by
    have hY : ax_bin (fun x y => some (ab_add x y)) pc lo st fa g = some Y := hY
    exact ax_bin_ok hadm htv (fun x y z hx hy hz x' y' gx gy => by cases hz; exact ⟨_, rfl, ab_add_ok htv hx hy gx gy⟩) hlo hst hfa hP hY
  | 8, hY, _ => by
    have hY : ax_bin (ax_f ab_sub) pc lo st fa g = some Y := hY
    exact ax_bin_ok hadm htv (ab_fF (F := fun x y => x - y) htv (fun _ _ _ _ x' y' a1 a2 b1 b2 => ab_sub_ok a1 a2 b1 b2)) hlo hst hfa hP hY
  | 9, hY, _ => by
    have hY : ax_bin (ax_f ab_mul) pc lo st fa g = some Y := hY
    exact ax_bin_ok hadm htv (ab_fF (F := fun x y => x * y) htv (fun _ _ _ _ x' y' a1 a2 b1 b2 => ab_mul_ok a1 a2 b1 b2)) hlo hst hfa hP hY
  | 10, hY, _ => by
    have hY : ax_bin (ax_f ab_and) pc lo st fa g = some Y := hY
    exact ax_bin_ok hadm htv (ab_fF (F := fun x y => x &&& y) htv (fun _ _ _ _ x' y' a1 a2 b1 b2 => ab_and_ok a1 a2 b1 b2)) hlo hst hfa hP hY
  | 11, hY, _ => by
    have hY : ax_bin (ax_f (ab_e2 (fun x y => x ||| y))) pc lo st fa g = some Y := hY
    exact ax_bin_ok hadm htv (ab_fF (F := fun x y => x ||| y) htv (fun _ _ _ _ x' y' a1 a2 b1 b2 => ab_e2_ok (F := fun x y => x ||| y) a1 a2 b1 b2)) hlo hst hfa hP hY
  | 12, hY, _ => by
    have hY : ax_bin (fun x y => ab_div (ab_i x) (ab_i y)) pc lo st fa g = some Y := hY
    refine ax_bin_ok hadm htv (fun x y z hx hy hz x' y' gx gy => ?_) hlo hst hfa hP hY
    obtain ⟨a1, a2⟩ := ab_gi_i htv hx gx
    obtain ⟨b1, b2⟩ := ab_gi_i htv hy gy
    obtain ⟨n0, hg⟩ := ab_div_ok (τ := τ) (tv := tv) (ρ := ρ) hz a1 a2 b1 b2
    exact ⟨_, if_neg n0, hg⟩
  | 13, hY, _ => by
    have hY : ax_bin (fun x y => ab_rem (ab_i x) (ab_i y)) pc lo st fa g = some Y := hY
    refine ax_bin_ok hadm htv (fun x y z hx hy hz x' y' gx gy => ?_) hlo hst hfa hP hY
    obtain ⟨a1, a2⟩ := ab_gi_i htv hx gx
    obtain ⟨b1, b2⟩ := ab_gi_i htv hy gy
    obtain ⟨n0, hg⟩ := ab_rem_ok (τ := τ) (tv := tv) (ρ := ρ) hz a1 a2 b1 b2
    exact ⟨_, if_neg n0, hg⟩
  | 14, hY, _ => by
    have hY : ax_bin (ax_f (ab_e2 (fun x y => x <<< (y &&& 31)))) pc lo st fa g = some Y := hY
    exact ax_bin_ok hadm htv (ab_fF (F := fun x y => x <<< (y &&& 31)) htv (fun _ _ _ _ x' y' a1 a2 b1 b2 => ab_e2_ok (F := fun x y => x <<< (y &&& 31)) a1 a2 b1 b2)) hlo hst hfa hP hY
  | 15, hY, _ => by
    have hY : ax_bin (ax_f (ab_e2 (fun x y => x >>> (y &&& 31)))) pc lo st fa g = some Y := hY
    exact ax_bin_ok hadm htv (ab_fF (F := fun x y => x >>> (y &&& 31)) htv (fun _ _ _ _ x' y' a1 a2 b1 b2 => ab_e2_ok (F := fun x y => x >>> (y &&& 31)) a1 a2 b1 b2)) hlo hst hfa hP hY
  | 16, hY, _ => by
    match st, st', hst, hY with
    | [], _, _, hY => cases hY
    | _ :: _, [], hst, _ => exact hst.elim
    | v :: r, x :: m, hst, hY =>
      have hY : (bif ab_iI v then ax_1 (Nat.add pc 1) lo ((4, 0, 0) :: r) fa g else none) = some Y := hY
      obtain ⟨hb, hY1⟩ := ab_bt_ hY
      obtain ⟨z, rfl, -⟩ := ab_int htv hb hst.1
      exact ax_1_ok (st1 := (4, 0, 0) :: r) (st2 := .long z.toInt64 :: m) hadm hlo ⟨⟨_, rfl⟩, hst.2⟩ hfa hP hY1
  | 17, hY, _ => by
    match st, hY with
    | [], hY => cases hY
    | v :: r, hY => cases hY
  | 18, hY, _ => by
    match st, st', hst, hY with
    | [], _, _, hY => cases hY
    | _ :: _, [], hst, _ => exact hst.elim
    | v :: r, x :: m, hst, hY =>
      have hY : (bif Nat.beq v.1 4 || Nat.beq v.1 5 then none else ax_1 (Nat.add pc 1) lo (v :: v :: r) fa g) = some Y := hY
      obtain ⟨hb, hY1⟩ := ab_bif_none hY
      simp only [wk_ex]
      rw [if_pos (ab_g_cat (ab_tag4 hb) hst.1)]
      exact ax_1_ok (st1 := v :: v :: r) hadm hlo ⟨hst.1, hst.1, hst.2⟩ hfa hP hY1
  | 19, hY, _ => by
    match st, st', hst, hY with
    | [], _, _, hY => cases hY
    | [_], _, _, hY => cases hY
    | _ :: _, [], hst, _ => exact hst.elim
    | _ :: _ :: _, [_], hst, _ => exact hst.2.elim
    | v :: w :: r, x :: y :: m, hst, hY =>
      have hY : (bif Nat.beq v.1 4 || Nat.beq v.1 5 || Nat.beq w.1 4 || Nat.beq w.1 5 then none else ax_1 (Nat.add pc 1) lo (v :: w :: v :: w :: r) fa g) = some Y := hY
      obtain ⟨hb, hY1⟩ := ab_bif_none hY
      obtain ⟨hb, e4⟩ := Bool.or_eq_false_iff.mp hb
      obtain ⟨hb, e3⟩ := Bool.or_eq_false_iff.mp hb
      simp only [wk_ex]
      rw [if_pos ⟨ab_g_cat (ab_tag4 hb) hst.1, ab_g_cat (Nat.ne_of_beq_eq_false e3) hst.2.1⟩]
      exact ax_1_ok (st1 := v :: w :: v :: w :: r) hadm hlo ⟨hst.1, hst.2.1, hst.1, hst.2.1, hst.2.2⟩ hfa hP hY1
  | 20, hY, _ => by
    match st, st', hst, hY with
    | [], _, _, hY => cases hY
    | _ :: _, [], hst, _ => exact hst.elim
    | v :: r, x :: m, hst, hY =>
      have hY : (bif Nat.beq v.1 4 || Nat.beq v.1 5 then none else ax_1 (Nat.add pc 1) lo r fa g) = some Y := hY
      obtain ⟨hb, hY1⟩ := ab_bif_none hY
      simp only [wk_ex]
      rw [if_pos (ab_g_cat (ab_tag4 hb) hst.1)]
      exact ax_1_ok hadm hlo hst.2 hfa hP hY1
  | 21, hY, _ => ax_1_ok hadm hlo hst hfa hP hY
  | 22, hY, _ => by
    match st, st', hst, hY with
    | [], _, _, hY => cases hY
    | _ :: _, [], hst, _ => exact hst.elim
    | v :: r, x :: m, hst, hY =>
      have hY : (bif ab_iI v then ab_br (ab_cnd a (ab_i v) (0, 2147483648, 2147483648)) b (Nat.add pc 3) lo r fa g else none) = some Y := hY
      obtain ⟨hb, hY1⟩ := ab_bt_ hY
      obtain ⟨z, rfl, z1, z2⟩ := ab_int htv hb hst.1
      exact ab_br_ok (y := 0) hadm z1 z2 (by rw [ab_b_0]; exact Nat.le_refl _) (by rw [ab_b_0]; exact Nat.le_refl _) hlo hst.2 hfa hP hY1
  | 23, hY, _ => by
    match st, st', hst, hY with
    | [], _, _, hY => cases hY
    | [_], _, _, hY => cases hY
    | _ :: _, [], hst, _ => exact hst.elim
    | _ :: _ :: _, [_], hst, _ => exact hst.2.elim
    | w :: v :: r, y :: x :: m, hst, hY =>
      have hY : (bif ab_iI v && ab_iI w then ab_br (ab_cnd a (ab_i v) (ab_i w)) b (Nat.add pc 3) lo r fa g else none) = some Y := hY
      obtain ⟨hb, hY1⟩ := ab_bt_ hY
      obtain ⟨b1, b2⟩ := ab_a2 hb
      obtain ⟨zx, rfl, x1, x2⟩ := ab_int htv b1 hst.2.1
      obtain ⟨zy, rfl, y1, y2⟩ := ab_int htv b2 hst.1
      exact ab_br_ok hadm x1 x2 y1 y2 hlo hst.2.2 hfa hP hY1
  | 24, hY, _ => by
    match st, st', hst, hY with
    | [], _, _, hY => cases hY
    | _ :: _, [], hst, _ => exact hst.elim
    | v :: r, x :: m, hst, hY =>
      have hY : (bif ab_iI v then ax_sw (tls b) a lo (ab_i v) r fa g else none) = some Y := hY
      obtain ⟨hb, hY1⟩ := ab_bt_ hY
      obtain ⟨z, rfl, z1, z2⟩ := ab_int htv hb hst.1
      exact ax_sw_ok hadm z1 z2 hlo hst.2 hfa hP hY1
  | 25, hY, _ => ax_get_ok hU hadm hlo hst hfa hP hY
  | 26, hY, _ => ax_put_ok htv hpm hadm hlo hst hfa hP hY
  | 27, hY, _ => by
    obtain ⟨z, y, s', vs, x, rfl, h1, h2, h3⟩ := ax_ald_ok (t := 100) htv hU hadm hlo hst hfa hP hY
    simp only [wk_ex]
    rw [h1]
    dsimp only
    rw [h2]
    exact h3
  | 28, hY, _ => by
    obtain ⟨z, y, s', vs, x, rfl, h1, h2, h3⟩ := ax_ald_ok (t := 101) htv hU hadm hlo hst hfa hP hY
    simp only [wk_ex]
    rw [h1]
    dsimp only
    rw [h2]
    exact h3
  | 29, hY, _ => by cases hY
  | 30, hY, _ => ax_aal_ok hcmp htv hU hadm hlo hst hfa hP hY
  | 31, hY, _ => by
    obtain ⟨x, z, y, s', vs, h', rfl, h1, h2, h3, h4⟩ := ax_ast_ok (t := 100) (cc := 0) (uq := uq) (u := u) htv hpm hadm hlo hst hfa hP hY
    have hx : ∃ w : Int32, x = .int w := by
      cases x <;> first | exact ⟨_, rfl⟩ | cases h1
    obtain ⟨w, rfl⟩ := hx
    simp only [wk_ex]
    rw [h2]
    dsimp only
    rw [h3]
    exact ab_q_in h4 rfl
  | 32, hY, _ => by
    obtain ⟨x, z, y, s', vs, h', rfl, h1, h2, h3, h4⟩ := ax_ast_ok (t := 101) (cc := 1) (uq := uq) (u := u) htv hpm hadm hlo hst hfa hP hY
    have hx : ∃ w : Int32, x = .int w ∧ am_bit w = true := by
      cases x <;> first | exact ⟨_, rfl, h1⟩ | cases h1
    obtain ⟨w, rfl, hw⟩ := hx
    simp only [wk_ex]
    rw [h2]
    dsimp only
    rw [if_pos hw, h3]
    exact ab_q_in h4 rfl
  | 33, hY, _ => by
    obtain ⟨x, z, y, s', vs, h', rfl, h1, h2, h3, h4⟩ := ax_ast_ok (t := 102) (cc := 2) (uq := uq) (u := u) htv hpm hadm hlo hst hfa hP hY
    have hx : ∃ w : Int64, x = .long w := by
      cases x <;> first | exact ⟨_, rfl⟩ | cases h1
    obtain ⟨w, rfl⟩ := hx
    simp only [wk_ex]
    rw [h2]
    dsimp only
    rw [h3]
    exact ab_q_in h4 rfl
  | 34, hY, _ => by
    obtain ⟨S', h1, h2⟩ := ax_aas_ok (a := a) (b := b) (c := c) (d := d) (tls := tls) (uq := uq) (u := u) htv hpm hadm hlo hst hfa hP hY
    rw [h1]
    exact h2
  | 35, hY, _ => by
    match st, st', hst, hY with
    | [], _, _, hY => cases hY
    | _ :: _, [], hst, _ => exact hst.elim
    | v :: r, x :: m, hst, hY =>
      have hY : (bif ab_iR v && Nat.ble 100 (kd (ab_kn v)).1 && Nat.ble (kd (ab_kn v)).1 106 && Nat.blt (kd (ab_kn v)).2 1000000 then ax_1 (Nat.add pc 1) lo ((0, Nat.add 2147483648 (kd (ab_kn v)).2, Nat.add 2147483648 (kd (ab_kn v)).2) :: r) fa g else none) = some Y := hY
      obtain ⟨hb, hY1⟩ := ab_bt_ hY
      obtain ⟨hb, b4⟩ := ab_a2 hb
      obtain ⟨hb, b3⟩ := ab_a2 hb
      obtain ⟨b1, b2⟩ := ab_a2 hb
      have b2 : 100 ≤ (kd (ab_kn v)).1 := ab_ble b2
      have b3 : (kd (ab_kn v)).1 ≤ 106 := ab_ble b3
      have b4 : (kd (ab_kn v)).2 < 1000000 := ab_blt b4
      obtain ⟨y, rfl, r1, r2, r3⟩ := ab_ref b1 hst.1
      obtain ⟨vs, v1, v2, -⟩ := hP.1 y (by rw [r1]; exact r2)
      rw [r1] at v1 v2
      simp only [wk_ex]
      rw [v1]
      dsimp only
      have hc : (kd (ab_kn v)).1 = 100 ∨ (kd (ab_kn v)).1 = 101 ∨ (kd (ab_kn v)).1 = 102 ∨ (cmp (kd (ab_kn v)).1).isSome = true := by
        by_cases h : 103 ≤ (kd (ab_kn v)).1
        · exact Or.inr (Or.inr (Or.inr (hcmp _ h b3)))
        · omega
      rw [if_pos hc]
      refine ax_1_ok (st1 := (0, Nat.add 2147483648 (kd (ab_kn v)).2, Nat.add 2147483648 (kd (ab_kn v)).2) :: r) hadm hlo ⟨?_, hst.2⟩ hfa hP hY1
      have hb := ab_b_of vs.length
      rw [v2] at hb ⊢
      generalize (kd (ab_kn v)).2 = n at hb b4 ⊢
      have e : ab_b (Int32.ofNat n) = 2147483648 + n := by omega
      exact ab_g_0.mpr ⟨_, rfl, by rw [e]; exact Nat.le_refl _, by rw [e]; exact Nat.le_refl _⟩
  | 36, hY, _ => by cases hY
  | 37, hY, _ => by cases hY
  | 38, hY, _ => by cases hY
  | 39, hY, _ => by
    have hY : (bif ab_small 4 st then some (.inr (.inl (2, (a, 0, 0)))) else none) = some Y := hY
    obtain ⟨hb, hY1⟩ := ab_bt_ hY
    cases hY1
    simp only [wk_ex]
    rw [if_pos (ab_small_ok hb hst)]
    exact ⟨_, rfl, Or.inr (Or.inr ⟨rfl, rfl⟩)⟩
  | 40, hY, hc => ax_ask_ok hlo hst hfa hP (hc rfl) hY
  | 41, hY, _ => by
    match st, st', hst, hY with
    | [], _, _, hY => cases hY
    | [_], _, _, hY => cases hY
    | _ :: _, [], hst, _ => exact hst.elim
    | _ :: _ :: _, [_], hst, _ => exact hst.2.elim
    | w :: v :: r, y :: x :: m, hst, hY =>
      have hY : (bif ab_iI v && ab_iI w && ab_small 8 r && true then ax_1 (Nat.add pc 3) lo (ab_mnx ab_min (ab_i v) (ab_i w) :: r) fa g else none) = some Y := hY
      obtain ⟨hb, hY1⟩ := ab_bt_ hY
      obtain ⟨hb, -⟩ := ab_a2 hb
      obtain ⟨hb, b3⟩ := ab_a2 hb
      obtain ⟨b1, b2⟩ := ab_a2 hb
      obtain ⟨zx, rfl, x1, x2⟩ := ab_int htv b1 hst.2.1
      obtain ⟨zy, rfl, y1, y2⟩ := ab_int htv b2 hst.1
      simp only [wk_ex]
      rw [if_pos (ab_small_ok b3 hst.2.2)]
      exact ax_1_ok (st1 := ab_mnx ab_min (ab_i v) (ab_i w) :: r) hadm hlo ⟨(ab_mnx_ok x1 x2 y1 y2).1, hst.2.2⟩ hfa hP hY1
  | 42, hY, _ => by
    match st, st', hst, hY with
    | [], _, _, hY => cases hY
    | [_], _, _, hY => cases hY
    | _ :: _, [], hst, _ => exact hst.elim
    | _ :: _ :: _, [_], hst, _ => exact hst.2.elim
    | w :: v :: r, y :: x :: m, hst, hY =>
      have hY : (bif ab_iI v && ab_iI w && ab_small 8 r && true then ax_1 (Nat.add pc 3) lo (ab_mnx ab_max (ab_i v) (ab_i w) :: r) fa g else none) = some Y := hY
      obtain ⟨hb, hY1⟩ := ab_bt_ hY
      obtain ⟨hb, -⟩ := ab_a2 hb
      obtain ⟨hb, b3⟩ := ab_a2 hb
      obtain ⟨b1, b2⟩ := ab_a2 hb
      obtain ⟨zx, rfl, x1, x2⟩ := ab_int htv b1 hst.2.1
      obtain ⟨zy, rfl, y1, y2⟩ := ab_int htv b2 hst.1
      simp only [wk_ex]
      rw [if_pos (ab_small_ok b3 hst.2.2)]
      exact ax_1_ok (st1 := ab_mnx ab_max (ab_i v) (ab_i w) :: r) hadm hlo ⟨(ab_mnx_ok x1 x2 y1 y2).2, hst.2.2⟩ hfa hP hY1
  | 43, hY, _ => by
    match st, hY with
    | [], hY => cases hY
    | [_], hY => cases hY
    | w :: v :: r, hY =>
      have hY : (bif ab_iI v && ab_iI w && ab_small 8 r && false then ax_1 (Nat.add pc 3) lo (ab_mnx ab_max (ab_i v) (ab_i w) :: r) fa g else none) = some Y := hY
      rw [Bool.and_false] at hY
      cases hY
  | 44, hY, _ => by
    match st, st', hst, hY with
    | [], _, _, hY => cases hY
    | _ :: _ :: _, _, _, hY => cases hY
    | [_], [], hst, _ => exact hst.elim
    | [_], _ :: _ :: _, hst, _ => exact hst.2.elim
    | [v], [x], hst, hY =>
      have hY : (bif ab_iI v && (Nat.beq a 0 || ab_isb v) then some (.inr (.inl (1, v))) else none) = some Y := hY
      obtain ⟨hb, hY1⟩ := ab_bt_ hY
      obtain ⟨b1, b2⟩ := ab_a2 hb
      obtain ⟨z, rfl, z1, z2⟩ := ab_int htv b1 hst.1
      cases hY1
      simp only [wk_ex]
      rw [if_pos ?_]
      · exact ⟨_, rfl, Or.inr (Or.inl ⟨rfl, _, rfl, hst.1⟩)⟩
      · rcases Bool.or_eq_true_iff.mp b2 with e | e
        · exact Or.inl (ab_beq e)
        · right
          obtain ⟨e, f3⟩ := ab_a2 e
          obtain ⟨-, f2⟩ := ab_a2 e
          exact ab_bitq (Nat.le_trans (ab_ble f2) z1) (Nat.le_trans z2 (ab_ble f3))
  | 45, hY, _ => by
    match st, st', hst, hY with
    | [], _, _, hY => cases hY
    | _ :: _ :: _, _, _, hY => cases hY
    | [_], [], hst, _ => exact hst.elim
    | [_], _ :: _ :: _, hst, _ => exact hst.2.elim
    | [v], [x], hst, hY =>
      have hY : (bif ab_iR v then some (.inr (.inl (1, v))) else none) = some Y := hY
      obtain ⟨hb, hY1⟩ := ab_bt_ hY
      obtain ⟨y, rfl, -⟩ := ab_ref hb hst.1
      cases hY1
      exact ⟨_, rfl, Or.inr (Or.inl ⟨rfl, _, rfl, hst.1⟩)⟩
  | 46, hY, _ => by
    match st, st', hst, hY with
    | _ :: _, _, _, hY => cases hY
    | [], _ :: _, hst, _ => exact hst.elim
    | [], [], hst, hY =>
      cases hY
      exact ⟨_, rfl, Or.inl ⟨rfl, rfl⟩⟩
  | 47, hY, _ => by
    have hY : ax_bin (ax_f (ab_e2 (fun x y => (x.toUInt32 >>> (y &&& 31).toUInt32).toInt32))) pc lo st fa g = some Y := hY
    exact ax_bin_ok hadm htv (ab_fF (F := fun x y => (x.toUInt32 >>> (y &&& 31).toUInt32).toInt32) htv (fun _ _ _ _ x' y' a1 a2 b1 b2 => ab_e2_ok (F := fun x y => (x.toUInt32 >>> (y &&& 31).toUInt32).toInt32) a1 a2 b1 b2)) hlo hst hfa hP hY
  | 48, hY, _ => by cases hY
  | 49, hY, _ => ax_cpy_ok htv hpm hadm hlo hst hfa hP hY
  | n + 50, hY, _ => by
    exfalso
    unfold ab_ex at hY
    have : Nat.blt 49 (n + 50) = true := Nat.ble_eq_true_of_le (by omega)
    rw [this, Bool.or_true] at hY
    cases hY
end ABU
