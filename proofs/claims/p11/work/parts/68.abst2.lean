/-! ===== a step of an abstract state is a step ===== -/
section ABQ
variable (kd : Nat → Nat × Nat) (un uq : Nat → Bool) (Gm : Nat → Nat → List ab_V)
variable (τ u : Nat → Nat) (tv : Nat) (K : am_H → Prop) (P0 P1 : am_H → Nat)
def ab_q (wr : Nat) (h0 : am_H) (ρ : Nat → Nat) (h : am_H) (k q : Nat) (Y : ab_X) (X : Option am_X) : Prop := match Y with
  | .inl As => ∃ S', X = some (.inl S') ∧ ∃ A' ∈ As, ∃ ρ', ab_ad uq u ρ' ∧ ab_m kd un Gm τ tv K P0 P1 wr h0 ρ' A' S'
  | .inr (.inl (t, v)) => ∃ r, X = some (.inr (.inl r)) ∧ ((t = 0 ∧ r = (.inl none, h, k, q)) ∨ (t = 1 ∧ ∃ x, r = (.inl (some x), h, k, q) ∧ ab_g τ tv ρ v x) ∨ (t = 2 ∧ r = (.inr h.length, h ++ [(v.1, [])], k + 1, q + 6)))
  | .inr (.inr (j, as, A')) => ∃ as' S', X = some (.inr (.inr (j, as', S'))) ∧ ab_gL τ tv ρ as as' ∧ ab_m kd un Gm τ tv K P0 P1 wr h0 ρ A' S'
variable {kd un uq Gm τ u tv K P0 P1}
variable {ρ : Nat → Nat} {wr pm tk N k q pc a b c d : Nat} {h0 h : am_H} {g : ab_G} {lo st : List ab_V} {fa : List ab_F} {lo' : List (Option Value)} {st' : List Value} {Y : ab_X}
variable {cmp : Nat → Option (Option Nat)} {tls : Nat → List Nat}
theorem ax_1_ok {pc' : Nat} {lo1 st1 : List ab_V} {lo2 : List (Option Value)} {st2 : List Value} (hadm : ab_ad uq u ρ) (hlo : ab_gO τ tv ρ lo1 lo2) (hst : ab_gL τ tv ρ st1 st2) (hfa : ab_fs τ tv ρ h fa) (hP : ab_Hp kd un Gm τ tv K P0 P1 wr h0 h k q g) (hY : ax_1 pc' lo1 st1 fa g = some Y) : ab_q kd un uq Gm τ u tv K P0 P1 wr h0 ρ h k q Y (am_go (pc', lo2, st2, h, k, q)) := by
  cases hY
  exact ⟨_, rfl, _, List.mem_singleton_self _, ρ, hadm, rfl, hlo, hst, hfa, hP⟩
theorem ab_bif {α : Type} {b : Bool} {x y : α} (h : b = true) : (bif b then x else y) = x := by
  subst h
  rfl
theorem ab_bif0 {α : Type} {b : Bool} {x y : α} (h : b = false) : (bif b then x else y) = y := by
  subst h
  rfl
theorem ab_cast : ∀ {l : List ab_V} {m : List Value}, ab_cat1 l = true → ab_gL τ tv ρ l m → am_one m = true ∧ am_cat m = m.length
  | [], [], _, _ => ⟨rfl, rfl⟩
  | [], _ :: _, _, h => h.elim
  | _ :: _, [], _, h => h.elim
  | v :: l, x :: m, hc, h => by
    obtain ⟨h1, h2⟩ := ab_a2 hc
    obtain ⟨i1, i2⟩ := ab_cast h2 h.2
    have hx := ab_g_cat (ab_bne h1) h.1
    refine ⟨?_, ?_⟩
    · show (Nat.beq x.category 1 && am_one m) = true
      rw [hx, i1]
      rfl
    · show x.category + am_cat m = m.length + 1
      rw [hx, i2, Nat.add_comm]
theorem ab_small_c : ∀ {n : Nat} {l : List ab_V}, ab_small n l = true → ab_cat1 l = true ∧ l.length ≤ n
  | _, [], _ => ⟨rfl, Nat.zero_le _⟩
  | 0, _ :: _, h => by cases h
  | n + 1, v :: l, h => by
    obtain ⟨h1, h2⟩ := ab_a2 h
    obtain ⟨i1, i2⟩ := ab_small_c h2
    refine ⟨?_, by simp only [List.length_cons]; omega⟩
    show (!(Nat.beq v.1 4) && ab_cat1 l) = true
    rw [h1, i1]
    rfl
theorem ab_small_ok {n : Nat} {l : List ab_V} {m : List Value} (hs : ab_small n l = true) (h : ab_gL τ tv ρ l m) : am_cat m ≤ n := by
  obtain ⟨h1, h2⟩ := ab_small_c hs
  rw [(ab_cast h1 h).2, ← ab_gL_len h]
  exact h2
theorem ax_lod_ok {re : Bool} (hadm : ab_ad uq u ρ) (htv : 2147483648 ≤ tv ∧ tv ≤ 2147523647) (hlo : ab_gO τ tv ρ lo lo') (hst : ab_gL τ tv ρ st st') (hfa : ab_fs τ tv ρ h fa) (hP : ab_Hp kd un Gm τ tv K P0 P1 wr h0 h k q g) (hY : ax_lod a pc re lo st fa g = some Y) : (re = false → ∃ x : Int32, lo'[a]? = some (some (.int x)) ∧ ab_q kd un uq Gm τ u tv K P0 P1 wr h0 ρ h k q Y (am_go (pc, lo', .int x :: st', h, k, q))) ∧ (re = true → ∃ x, lo'[a]? = some (some (.ref x)) ∧ ab_q kd un uq Gm τ u tv K P0 P1 wr h0 ρ h k q Y (am_go (pc, lo', .ref x :: st', h, k, q))) := by
  unfold ax_lod at hY
  obtain ⟨hb, hY1⟩ := ab_bt_ hY
  clear hY
  constructor
  · intro hre
    subst hre
    have h5 : (ab_nth lo a).1 ≠ 5 := fun e => by
      have hb : ab_iI (ab_nth lo a) = true := hb
      unfold ab_iI at hb
      rw [e] at hb
      cases hb
    obtain ⟨x, h1, h2⟩ := ab_gO_nth hlo a h5
    obtain ⟨z, rfl, -⟩ := ab_int htv hb h2
    exact ⟨z, h1, ax_1_ok (st1 := ab_nth lo a :: st) hadm hlo ⟨h2, hst⟩ hfa hP hY1⟩
  · intro hre
    subst hre
    have hb : (ab_iR (ab_nth lo a) || Nat.beq (ab_nth lo a).1 6) = true := hb
    have h5 : (ab_nth lo a).1 ≠ 5 := fun e => by
      unfold ab_iR at hb
      rw [e] at hb
      cases hb
    obtain ⟨x, h1, h2⟩ := ab_gO_nth hlo a h5
    have hx : ∃ y, x = .ref y := by
      rcases Bool.or_eq_true_iff.mp hb with e | e
      · obtain ⟨y, rfl, -⟩ := ab_ref e h2
        exact ⟨y, rfl⟩
      · have e := ab_beq e
        unfold ab_g ab_gc at h2
        rw [e] at h2
        exact h2
    obtain ⟨y, rfl⟩ := hx
    exact ⟨y, h1, ax_1_ok (st1 := ab_nth lo a :: st) hadm hlo ⟨h2, hst⟩ hfa hP hY1⟩
theorem ax_sto_ok {re : Bool} (hadm : ab_ad uq u ρ) (htv : 2147483648 ≤ tv ∧ tv ≤ 2147523647) (hlo : ab_gO τ tv ρ lo lo') (hst : ab_gL τ tv ρ st st') (hfa : ab_fs τ tv ρ h fa) (hP : ab_Hp kd un Gm τ tv K P0 P1 wr h0 h k q g) (hY : ax_sto a pc re lo st fa g = some Y) : a < lo'.length ∧ (re = false → ∃ (x : Int32) (r : List Value), st' = .int x :: r ∧ ab_q kd un uq Gm τ u tv K P0 P1 wr h0 ρ h k q Y (am_go (pc, lo'.set a (some (.int x)), r, h, k, q))) ∧ (re = true → ∃ x r, st' = .ref x :: r ∧ ab_q kd un uq Gm τ u tv K P0 P1 wr h0 ρ h k q Y (am_go (pc, lo'.set a (some (.ref x)), r, h, k, q))) := by
  unfold ax_sto at hY
  split at hY
  · rename_i v r
    obtain ⟨hb0, hY1⟩ := ab_bt_ hY
    obtain ⟨hb, hl0⟩ := ab_a2 hb0
    have hl := ab_blt hl0
    rw [ab_gO_len hlo] at hl
    cases st' with
    | nil => exact hst.elim
    | cons x m =>
      refine ⟨hl, fun hre => ?_, fun hre => ?_⟩
      · subst hre
        obtain ⟨z, rfl, -⟩ := ab_int htv hb hst.1
        exact ⟨z, m, rfl, ax_1_ok hadm (ab_gO_set hlo a hst.1) hst.2 hfa hP hY1⟩
      · subst hre
        have hb : (ab_iR v || Nat.beq v.1 6) = true := hb
        have hx : ∃ y, x = .ref y := by
          rcases Bool.or_eq_true_iff.mp hb with e | e
          · obtain ⟨y, rfl, -⟩ := ab_ref e hst.1
            exact ⟨y, rfl⟩
          · have e := ab_beq e
            have h2 := hst.1
            unfold ab_g ab_gc at h2
            rw [e] at h2
            exact h2
        obtain ⟨y, rfl⟩ := hx
        exact ⟨y, m, rfl, ax_1_ok hadm (ab_gO_set hlo a hst.1) hst.2 hfa hP hY1⟩
  · cases hY
theorem ax_bin_ok {f : ab_V → ab_V → Option ab_V} {F : Int32 → Int32 → Option Int32} (hadm : ab_ad uq u ρ) (htv : 2147483648 ≤ tv ∧ tv ≤ 2147523647) (hf : ∀ x y z, ab_iI x = true → ab_iI y = true → f x y = some z → ∀ x' y' : Int32, ab_g τ tv ρ x (.int x') → ab_g τ tv ρ y (.int y') → ∃ z', F x' y' = some z' ∧ ab_g τ tv ρ z (.int z')) (hlo : ab_gO τ tv ρ lo lo') (hst : ab_gL τ tv ρ st st') (hfa : ab_fs τ tv ρ h fa) (hP : ab_Hp kd un Gm τ tv K P0 P1 wr h0 h k q g) (hY : ax_bin f pc lo st fa g = some Y) : ab_q kd un uq Gm τ u tv K P0 P1 wr h0 ρ h k q Y (am_bin 1 F pc lo' st' h k q) := by
  unfold ax_bin at hY
  split at hY
  · rename_i y x r
    obtain ⟨hb, hY⟩ := ab_bt_ hY
    obtain ⟨b1, b2⟩ := ab_a2 hb
    split at hY
    · rename_i z hz
      match st', hst with
      | y' :: x' :: r', ⟨hy, hx, hr⟩ =>
        obtain ⟨zx, rfl, -⟩ := ab_int htv b1 hx
        obtain ⟨zy, rfl, -⟩ := ab_int htv b2 hy
        obtain ⟨z', e, hz'⟩ := hf x y z b1 b2 hz zx zy hx hy
        unfold am_bin
        rw [if_pos rfl]
        dsimp only
        rw [e]
        exact ax_1_ok (st1 := z :: r) hadm hlo ⟨hz', hr⟩ hfa hP hY
      | [], hst => exact hst.elim
      | [_], hst => exact hst.2.elim
    · cases hY
  · cases hY
/-- an int's bounds -/
theorem ab_gi_i {v : ab_V} {z : Int32} (htv : 2147483648 ≤ tv ∧ tv ≤ 2147523647) (hi : ab_iI v = true) (h : ab_g τ tv ρ v (.int z)) : (ab_i v).2.1 ≤ ab_b z ∧ ab_b z ≤ (ab_i v).2.2 := by
  obtain ⟨z', e, h1⟩ := ab_int htv hi h
  cases e
  exact h1
theorem ab_top_ok (z : Int32) : ab_g τ tv ρ ab_top (.int z) := ⟨z, rfl, Nat.zero_le _, Nat.le_of_lt_succ (ab_b_lt z)⟩
theorem ab_fF {f : ab_V → ab_V → ab_V} {F : Int32 → Int32 → Int32} (htv : 2147483648 ≤ tv ∧ tv ≤ 2147523647) (hf : ∀ (l1 h1 l2 h2 : ab_V) (x' y' : Int32), l1.2.1 ≤ ab_b x' → ab_b x' ≤ l1.2.2 → l2.2.1 ≤ ab_b y' → ab_b y' ≤ l2.2.2 → ab_g τ tv ρ (f l1 l2) (.int (F x' y'))) : ∀ x y z, ab_iI x = true → ab_iI y = true → ax_f f x y = some z → ∀ x' y' : Int32, ab_g τ tv ρ x (.int x') → ab_g τ tv ρ y (.int y') → ∃ z', (fun a b => some (F a b)) x' y' = some z' ∧ ab_g τ tv ρ z (.int z') := by
  intro x y z hx hy hz x' y' gx gy
  obtain ⟨a1, a2⟩ := ab_gi_i htv hx gx
  obtain ⟨b1, b2⟩ := ab_gi_i htv hy gy
  cases hz
  exact ⟨_, rfl, hf _ (0, 0, 0) _ (0, 0, 0) x' y' a1 a2 b1 b2⟩
theorem ab_exq_ok {v : ab_V} {z : Int32} (he : ab_exq v = true) (h1 : v.2.1 ≤ ab_b z) (h2 : ab_b z ≤ v.2.2) : v.2.1 = ab_b z := by
  have he : v.2.1 = v.2.2 := ab_beq he
  omega
theorem ab_e2_ok {F : Int32 → Int32 → Int32} {v w : ab_V} {x y : Int32} (a1 : v.2.1 ≤ ab_b x) (a2 : ab_b x ≤ v.2.2) (b1 : w.2.1 ≤ ab_b y) (b2 : ab_b y ≤ w.2.2) : ab_g τ tv ρ (ab_e2 F v w) (.int (F x y)) := by
  unfold ab_e2
  cases e : (ab_exq v && ab_exq w) with
  | false => exact ab_top_ok _
  | true =>
    obtain ⟨e1, e2⟩ := ab_a2 e
    have h1 := ab_exq_ok e1 a1 a2
    have h2 := ab_exq_ok e2 b1 b2
    rw [cond_true, h1, h2, ab_u_b, ab_u_b]
    exact ab_g_0.mpr ⟨F x y, rfl, Nat.le_refl _, Nat.le_refl _⟩
theorem ab_addi_ok {v w : ab_V} {x y : Int32} (a1 : v.2.1 ≤ ab_b x) (a2 : ab_b x ≤ v.2.2) (b1 : w.2.1 ≤ ab_b y) (b2 : ab_b y ≤ w.2.2) : ab_g τ tv ρ (ab_addi v w) (.int (x + y)) := by
  unfold ab_addi
  cases e : (Nat.ble 2147483648 (Nat.add v.2.1 w.2.1) && Nat.ble (Nat.add v.2.2 w.2.2) 6442450943) with
  | false => exact ab_top_ok _
  | true =>
    obtain ⟨e1, e2⟩ := ab_a2 e
    have e1 : 2147483648 ≤ v.2.1 + w.2.1 := ab_ble e1
    have e2 : v.2.2 + w.2.2 ≤ 6442450943 := ab_ble e2
    have hb := ab_b_add (x := x) (y := y) (by omega) (by omega)
    refine ⟨_, rfl, ?_, ?_⟩
    · show v.2.1 + w.2.1 - 2147483648 ≤ ab_b (x + y)
      omega
    · show ab_b (x + y) ≤ v.2.2 + w.2.2 - 2147483648
      omega
theorem ab_add_ok {v w : ab_V} {x y : Int32} (htv : 2147483648 ≤ tv ∧ tv ≤ 2147523647) (hv : ab_iI v = true) (hw : ab_iI w = true) (gx : ab_g τ tv ρ v (.int x)) (gy : ab_g τ tv ρ w (.int y)) : ab_g τ tv ρ (ab_add v w) (.int (x + y)) := by
  obtain ⟨a1, a2⟩ := ab_gi_i htv hv gx
  obtain ⟨b1, b2⟩ := ab_gi_i htv hw gy
  unfold ab_add
  cases e : (Nat.beq v.1 7 && Nat.beq w.1 0 && ab_exq w && Nat.ble 2147483648 w.2.1 && Nat.ble (Nat.sub (Nat.add v.2.1 w.2.1) 2147483648) 1000) with
  | false => exact ab_addi_ok a1 a2 b1 b2
  | true =>
    obtain ⟨e, e5⟩ := ab_a2 e
    obtain ⟨e, e4⟩ := ab_a2 e
    obtain ⟨e, e3⟩ := ab_a2 e
    obtain ⟨e1, e2⟩ := ab_a2 e
    obtain ⟨t, c, b⟩ := v
    obtain ⟨t', l, hh⟩ := w
    have e1 : t = 7 := ab_beq e1
    have e2 : t' = 0 := ab_beq e2
    subst e1 e2
    obtain ⟨z, ez, hz⟩ := gx
    cases ez
    have hz : ab_b x = tv + c := hz
    have hy : l = ab_b y := ab_exq_ok (v := (0, l, hh)) e3 b1 b2
    have e4 : 2147483648 ≤ l := ab_ble e4
    have e5 : c + l - 2147483648 ≤ 1000 := ab_ble e5
    have hb := ab_b_add (x := x) (y := y) (by omega) (by omega)
    refine ⟨_, rfl, ?_⟩
    show ab_b (x + y) = tv + (c + l - 2147483648)
    omega
theorem ab_sub_ok {v w : ab_V} {x y : Int32} (a1 : v.2.1 ≤ ab_b x) (a2 : ab_b x ≤ v.2.2) (b1 : w.2.1 ≤ ab_b y) (b2 : ab_b y ≤ w.2.2) : ab_g τ tv ρ (ab_sub v w) (.int (x - y)) := by
  unfold ab_sub
  cases e : (Nat.ble w.2.2 (Nat.add v.2.1 2147483648) && Nat.ble (Nat.add v.2.2 2147483648) (Nat.add w.2.1 4294967295)) with
  | false => exact ab_top_ok _
  | true =>
    obtain ⟨e1, e2⟩ := ab_a2 e
    have e1 : w.2.2 ≤ v.2.1 + 2147483648 := ab_ble e1
    have e2 : v.2.2 + 2147483648 ≤ w.2.1 + 4294967295 := ab_ble e2
    have hb := ab_b_sub (x := x) (y := y) (by omega) (by omega)
    refine ⟨_, rfl, ?_, ?_⟩
    · show v.2.1 + 2147483648 - w.2.2 ≤ ab_b (x - y)
      omega
    · show ab_b (x - y) ≤ v.2.2 + 2147483648 - w.2.1
      omega
theorem ab_mul_ok {v w : ab_V} {x y : Int32} (a1 : v.2.1 ≤ ab_b x) (a2 : ab_b x ≤ v.2.2) (b1 : w.2.1 ≤ ab_b y) (b2 : ab_b y ≤ w.2.2) : ab_g τ tv ρ (ab_mul v w) (.int (x * y)) := by
  unfold ab_mul
  cases e : (Nat.ble 2147483648 v.2.1 && Nat.ble 2147483648 w.2.1 && Nat.ble (Nat.mul (Nat.sub v.2.2 2147483648) (Nat.sub w.2.2 2147483648)) 2147483647) with
  | false => exact ab_top_ok _
  | true =>
    obtain ⟨e, e3⟩ := ab_a2 e
    obtain ⟨e1, e2⟩ := ab_a2 e
    have e1 : 2147483648 ≤ v.2.1 := ab_ble e1
    have e2 : 2147483648 ≤ w.2.1 := ab_ble e2
    have e3 : (v.2.2 - 2147483648) * (w.2.2 - 2147483648) ≤ 2147483647 := ab_ble e3
    have m1 : (ab_b x - 2147483648) * (ab_b y - 2147483648) ≤ (v.2.2 - 2147483648) * (w.2.2 - 2147483648) := Nat.mul_le_mul (by omega) (by omega)
    have m2 : (v.2.1 - 2147483648) * (w.2.1 - 2147483648) ≤ (ab_b x - 2147483648) * (ab_b y - 2147483648) := Nat.mul_le_mul (by omega) (by omega)
    have hb := ab_b_mul (x := x) (y := y) (by omega) (by omega) (Nat.le_trans m1 e3)
    refine ⟨_, rfl, ?_, ?_⟩
    · rw [hb]
      exact Nat.add_le_add_left m2 _
    · rw [hb]
      exact Nat.add_le_add_left m1 _
theorem ab_div_ok {v w z : ab_V} {x y : Int32} (hz : ab_div v w = some z) (a1 : v.2.1 ≤ ab_b x) (a2 : ab_b x ≤ v.2.2) (b1 : w.2.1 ≤ ab_b y) (b2 : ab_b y ≤ w.2.2) : y ≠ 0 ∧ ab_g τ tv ρ z (.int (x / y)) := by
  unfold ab_div at hz
  obtain ⟨hb, hz⟩ := ab_bt_ hz
  obtain ⟨hb, b5⟩ := ab_a2 hb
  obtain ⟨b3, b4⟩ := ab_a2 hb
  have b4 : 2147483648 < w.2.1 := ab_blt b4
  have hy := ab_exq_ok b3 b1 b2
  refine ⟨fun e => ?_, ?_⟩
  · subst e
    rw [ab_b_0] at hy
    omega
  · cases e : (Nat.ble 2147483648 v.2.1 && Nat.ble v.2.2 4294967295) with
    | false =>
      rw [e] at hz
      cases hz
      exact ab_top_ok _
    | true =>
      rw [e] at hz
      cases hz
      obtain ⟨e1, -⟩ := ab_a2 e
      have e1 : 2147483648 ≤ v.2.1 := ab_ble e1
      have hd := ab_b_div (x := x) (y := y) (by omega) (by omega)
      refine ⟨_, rfl, ?_, ?_⟩
      · show 2147483648 + (v.2.1 - 2147483648) / (w.2.1 - 2147483648) ≤ _
        rw [hd, hy]
        exact Nat.add_le_add_left (Nat.div_le_div_right (by omega)) _
      · show _ ≤ 2147483648 + (v.2.2 - 2147483648) / (w.2.1 - 2147483648)
        rw [hd, hy]
        exact Nat.add_le_add_left (Nat.div_le_div_right (by omega)) _
theorem ab_rem_ok {v w z : ab_V} {x y : Int32} (hz : ab_rem v w = some z) (a1 : v.2.1 ≤ ab_b x) (a2 : ab_b x ≤ v.2.2) (b1 : w.2.1 ≤ ab_b y) (b2 : ab_b y ≤ w.2.2) : y ≠ 0 ∧ ab_g τ tv ρ z (.int (x - x / y * y)) := by
  unfold ab_rem at hz
  obtain ⟨hb, hz⟩ := ab_bt_ hz
  obtain ⟨hb, b5⟩ := ab_a2 hb
  obtain ⟨b3, b4⟩ := ab_a2 hb
  have b4 : 2147483648 < w.2.1 := ab_blt b4
  have hy := ab_exq_ok b3 b1 b2
  refine ⟨fun e => ?_, ?_⟩
  · subst e
    rw [ab_b_0] at hy
    omega
  · cases e : (Nat.ble 2147483648 v.2.1 && Nat.ble v.2.2 4294967295) with
    | false =>
      rw [e] at hz
      cases hz
      exact ab_top_ok _
    | true =>
      rw [e] at hz
      obtain ⟨e1, -⟩ := ab_a2 e
      have e1 : 2147483648 ≤ v.2.1 := ab_ble e1
      have hd := ab_b_rem (x := x) (y := y) (by omega) (by omega)
      have hm : (ab_b x - 2147483648) % (ab_b y - 2147483648) < ab_b y - 2147483648 := Nat.mod_lt _ (by omega)
      cases ex : ab_exq v with
      | true =>
        rw [ex] at hz
        cases hz
        have hx := ab_exq_ok ex a1 a2
        refine ⟨_, rfl, ?_, ?_⟩
        · show 2147483648 + (v.2.1 - 2147483648) % (w.2.1 - 2147483648) ≤ _
          rw [hd, hy, hx]
          exact Nat.le_refl _
        · show _ ≤ 2147483648 + (v.2.1 - 2147483648) % (w.2.1 - 2147483648)
          rw [hd, hy, hx]
          exact Nat.le_refl _
      | false =>
        rw [ex] at hz
        cases hz
        refine ⟨_, rfl, ?_, ?_⟩
        · rw [hd]
          exact Nat.le_add_right _ _
        · show _ ≤ w.2.1 - 1
          rw [hd]
          omega
theorem ab_and_ok {v w : ab_V} {x y : Int32} (a1 : v.2.1 ≤ ab_b x) (a2 : ab_b x ≤ v.2.2) (b1 : w.2.1 ≤ ab_b y) (b2 : ab_b y ≤ w.2.2) : ab_g τ tv ρ (ab_and v w) (.int (x &&& y)) := by
  unfold ab_and
  cases e : (ab_exq v && ab_exq w) with
  | true => exact ab_e2_ok (F := fun x y => x &&& y) a1 a2 b1 b2
  | false =>
    cases e2 : (ab_exq w && Nat.ble 2147483648 w.2.1 && Nat.ble w.2.1 4294967295) with
    | false => exact ab_top_ok _
    | true =>
      obtain ⟨e2, -⟩ := ab_a2 e2
      obtain ⟨e3, e4⟩ := ab_a2 e2
      have hy := ab_exq_ok e3 b1 b2
      have e4 : 2147483648 ≤ w.2.1 := ab_ble e4
      obtain ⟨g1, g2⟩ := ab_b_and (x := x) (y := y) (by omega)
      exact ⟨_, rfl, g1, by show _ ≤ w.2.1; omega⟩
theorem ab_cnd_ok {v w : ab_V} {x y : Int32} (c : Nat) (a1 : v.2.1 ≤ ab_b x) (a2 : ab_b x ≤ v.2.2) (b1 : w.2.1 ≤ ab_b y) (b2 : ab_b y ≤ w.2.2) : (wk_c c x y = true → (ab_cnd c v w).1 = true) ∧ (wk_c c x y = false → (ab_cnd c v w).2 = true) := by
  have hT : ab_b x = ab_b y → (!Nat.blt v.2.2 w.2.1 && !Nat.blt w.2.2 v.2.1) = true := fun e => by
    have n1 : Nat.blt v.2.2 w.2.1 = false := by
      cases hb : Nat.blt v.2.2 w.2.1 with
      | false => rfl
      | true => have := ab_blt hb; omega
    have n2 : Nat.blt w.2.2 v.2.1 = false := by
      cases hb : Nat.blt w.2.2 v.2.1 with
      | false => rfl
      | true => have := ab_blt hb; omega
    rw [n1, n2]
    rfl
  have hF : ab_b x ≠ ab_b y → (!(ab_exq v && ab_exq w && Nat.beq v.2.1 w.2.1)) = true := fun e => by
    cases hb : (ab_exq v && ab_exq w && Nat.beq v.2.1 w.2.1) with
    | false => rfl
    | true =>
      obtain ⟨hb, h3⟩ := ab_a2 hb
      obtain ⟨h1, h2⟩ := ab_a2 hb
      have h1 := ab_exq_ok h1 a1 a2
      have h2 := ab_exq_ok h2 b1 b2
      have h3 : v.2.1 = w.2.1 := ab_beq h3
      omega
  have hlt : ∀ {p q : Nat}, p < q → Nat.blt p q = true := fun h => Nat.ble_eq_true_of_le h
  have hle : ∀ {p q : Nat}, p ≤ q → Nat.ble p q = true := fun h => Nat.ble_eq_true_of_le h
  have eqT : ∀ {b : Bool}, decide (x = y) = b → b = true → ab_b x = ab_b y := fun h1 h2 => by
    rw [h2] at h1
    rw [of_decide_eq_true h1]
  have eqF : decide (x = y) = false → ab_b x ≠ ab_b y := fun h1 h2 => of_decide_eq_false h1 (ab_b_inj h2)
  unfold wk_c
  split
  · exact ⟨fun h => hT (eqT h rfl), fun h => hF (eqF h)⟩
  · refine ⟨fun h => hF (eqF (by simpa using h)), fun h => hT (eqT (b := true) (by simpa using h) rfl)⟩
  · refine ⟨fun h => hlt ?_, fun h => hle ?_⟩
    · have := ab_b_lti.mp (of_decide_eq_true h); omega
    · have := of_decide_eq_false h; rw [ab_b_lti] at this; omega
  · refine ⟨fun h => hle ?_, fun h => hlt ?_⟩
    · have := ab_b_lei.mp (of_decide_eq_true h); omega
    · have := of_decide_eq_false h; rw [ab_b_lei] at this; omega
  · refine ⟨fun h => hlt ?_, fun h => hle ?_⟩
    · have := ab_b_lti.mp (of_decide_eq_true h); omega
    · have := of_decide_eq_false h; rw [ab_b_lti] at this; omega
  · rename_i n0 n1 n2 n3 n4
    have e : ab_cnd c v w = (Nat.ble v.2.1 w.2.2, Nat.blt w.2.1 v.2.2) := by
      unfold ab_cnd
      have f : ∀ m, (c = m → False) → Nat.beq c m = false := fun m hm => by
        cases hb : Nat.beq c m with
        | false => rfl
        | true => exact (hm (ab_beq hb)).elim
      rw [f 0 n0, f 1 n1, f 2 n2, f 3 n3, f 4 n4]
      rfl
    rw [e]
    refine ⟨fun h => hle ?_, fun h => hlt ?_⟩
    · have := ab_b_lei.mp (of_decide_eq_true h); omega
    · have := of_decide_eq_false h; rw [ab_b_lei] at this; omega
theorem ab_br_ok {v w : ab_V} {x y : Int32} {t e cc : Nat} (hadm : ab_ad uq u ρ) (a1 : v.2.1 ≤ ab_b x) (a2 : ab_b x ≤ v.2.2) (b1 : w.2.1 ≤ ab_b y) (b2 : ab_b y ≤ w.2.2) (hlo : ab_gO τ tv ρ lo lo') (hst : ab_gL τ tv ρ st st') (hfa : ab_fs τ tv ρ h fa) (hP : ab_Hp kd un Gm τ tv K P0 P1 wr h0 h k q g) (hY : ab_br (ab_cnd cc v w) t e lo st fa g = some Y) : ab_q kd un uq Gm τ u tv K P0 P1 wr h0 ρ h k q Y (am_go (bif wk_c cc x y then t else e, lo', st', h, k, q)) := by
  obtain ⟨h1, h2⟩ := ab_cnd_ok (x := x) (y := y) cc a1 a2 b1 b2
  unfold ab_br at hY
  cases hY
  cases hc : wk_c cc x y with
  | true =>
    rw [h1 hc]
    exact ⟨_, rfl, (t, lo, st, fa, g), List.mem_append_left _ (List.mem_singleton_self _), ρ, hadm, rfl, hlo, hst, hfa, hP⟩
  | false =>
    rw [h2 hc]
    exact ⟨_, rfl, (e, lo, st, fa, g), List.mem_append_right _ (List.mem_singleton_self _), ρ, hadm, rfl, hlo, hst, hfa, hP⟩
end ABQ
