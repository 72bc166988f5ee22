/-! ===== a machine is at one leaf for class and reference ===== -/
theorem Rn_and {mi : am_M} {S : am_S} {Q1 Q2 : am_R → Prop} (h1 : cl_Rn mi S Q1) (h2 : cl_Rn mi S Q2) : cl_Rn mi S (fun r => Q1 r ∧ Q2 r) := by
  obtain ⟨f1, r1, e1, q1⟩ := h1
  obtain ⟨f2, r2, e2, q2⟩ := h2
  have a1 := am_mono e1 (Nat.le_add_right f1 f2)
  have a2 := am_mono e2 (Nat.le_add_left f2 f1)
  rw [a1] at a2
  cases a2
  exact ⟨f1, r1, e1, q1, q2⟩
theorem fz_row {F : Nat → Nat → Bool} {bt : Nat → Bool} {h h' : am_H} {a t : Nat} {vs : List Value} (hf : fz_eq F bt h h') (e : h[a]? = some (t, vs)) (hb : bt t = true) : h'[a]? = some (t, vs) := by
  obtain ⟨vs', e', -, p⟩ := hf a t vs e
  rw [e', p hb]
theorem fz_cel {F : Nat → Nat → Bool} {bt : Nat → Bool} {h h' : am_H} {a t : Nat} {vs : List Value} (hf : fz_eq F bt h h') (e : h[a]? = some (t, vs)) : ∃ vs', h'[a]? = some (t, vs') ∧ ∀ i, F t i = true → vs'[i]? = vs[i]? := by
  obtain ⟨vs', e', p, -⟩ := hf a t vs e
  exact ⟨vs', e', p⟩
theorem ii_at {τ u : Nat → Nat} {mc Tc Tm : Nat} {h : am_H} (hut : ∀ k, w_uq k = true → τ (u k) = k) (hJ : j_J τ u mc Tc Tm h) (k : Nat) (hk : w_uq k = true) (h0 : k ≠ 0) : ∃ vs, h[u k]? = some ((w_kd k).1, vs) := by
  have e := hut k hk
  obtain ⟨vs, h1, -, -⟩ := hJ.1 (u k) (by rw [e]; exact h0)
  rw [e] at h1
  exact ⟨vs, h1⟩
/-! ===== the machines' places: slots that only machine and move write ===== -/
def q_P (τ u : Nat → Nat) (h h' : am_H) : Prop := (∀ i, ab_sl h' (u 6) i = ab_sl h (u 6) i) ∧ (∀ y, τ y = 32 → ab_sl h' y 3 = ab_sl h y 3) ∧ ∀ i, ab_sl h' (u 61) i = ab_sl h (u 61) i
theorem q_refl {τ u : Nat → Nat} {h : am_H} : q_P τ u h h := ⟨fun _ => rfl, fun _ _ => rfl, fun _ => rfl⟩
theorem q_trans {τ u : Nat → Nat} {h1 h2 h3 : am_H} (a : q_P τ u h1 h2) (b : q_P τ u h2 h3) : q_P τ u h1 h3 := ⟨fun i => (b.1 i).trans (a.1 i), fun y hy => (b.2.1 y hy).trans (a.2.1 y hy), fun i => (b.2.2 i).trans (a.2.2 i)⟩
def q_M (M : Nat) : Bool := !ab_tb M (Nat.add (Nat.mul 6 64) 63) && (!ab_tb M (Nat.add (Nat.mul 32 64) 3) && !ab_tb M (Nat.add (Nat.mul 61 64) 63))
theorem q_of {τ u : Nat → Nat} {M mc tv : Nat} {h h' : am_H} (hut : ∀ k, w_uq k = true → τ (u k) = k) (hI : ab_I w_kd w_un (w_G mc) τ tv h) (hF : ab_Fr w_kd τ M h h') (hM : q_M M = true) : q_P τ u h h' := by
  obtain ⟨m1, hM⟩ := ab_a2 hM
  obtain ⟨m2, m3⟩ := ab_a2 hM
  have m1 : ab_tb M (Nat.add (Nat.mul 6 64) 63) = false := by simpa using m1
  have m2 : ab_tb M (Nat.add (Nat.mul 32 64) 3) = false := by simpa using m2
  have m3 : ab_tb M (Nat.add (Nat.mul 61 64) 63) = false := by simpa using m3
  refine ⟨fun i => j_fr hI hF (by rw [hut 6 (by decide +kernel)]; decide) (by rw [hut 6 (by decide +kernel)]; exact m1), fun y hy => j_fr hI hF (by rw [hy]; decide) (by rw [hy]; exact m2), fun i => j_fr hI hF (by rw [hut 61 (by decide +kernel)]; decide) (by rw [hut 61 (by decide +kernel)]; exact m3)⟩
theorem q_app {τ u : Nat → Nat} {mc tv : Nat} {h : am_H} {c : am_C} (hut : ∀ k, w_uq k = true → τ (u k) = k) (hI : ab_I w_kd w_un (w_G mc) τ tv h) : q_P τ u h (h ++ [c]) := ⟨fun i => ab_sl_app (ab_typed hI (by rw [hut 6 (by decide +kernel)]; decide)), fun y hy => ab_sl_app (ab_typed hI (by rw [hy]; decide)), fun i => ab_sl_app (ab_typed hI (by rw [hut 61 (by decide +kernel)]; decide))⟩
/-- where only one row's or the reference's own slots change -/
theorem q_ne {τ u : Nat → Nat} {κ : Nat} {h h' : am_H} (hut : ∀ k, w_uq k = true → τ (u k) = k) (hκ : w_uq κ = true) (n6 : κ ≠ 6) (n32 : κ ≠ 32) (n61 : κ ≠ 61) (hs : ∀ a i, a ≠ u κ → ab_sl h' a i = ab_sl h a i) : q_P τ u h h' := by
  have hud := md_ud hut
  exact ⟨fun i => hs _ _ (hud 6 κ (by decide +kernel) hκ (Ne.symm n6)), fun y hy => hs _ _ (fun e => n32 (by rw [← hut κ hκ, ← e]; exact hy)), fun i => hs _ _ (hud 61 κ (by decide +kernel) hκ (Ne.symm n61))⟩
/-- where one machine's place is another -/
def q_V (τ u : Nat → Nat) (m : Nat) (zl : Int32) (h h' : am_H) : Prop := (∀ i, ab_sl h' (u 6) i = ab_sl h (u 6) i) ∧ (∀ y, τ y = 32 → ab_sl h' y 3 = ab_sl h y 3) ∧ ∀ i, ab_sl h' (u 61) i = if i = m then some (.int zl) else ab_sl h (u 61) i
theorem q_vp {τ u : Nat → Nat} {m : Nat} {zl : Int32} {h h1 h2 : am_H} (a : q_V τ u m zl h h1) (b : q_P τ u h1 h2) : q_V τ u m zl h h2 := ⟨fun i => (b.1 i).trans (a.1 i), fun y hy => (b.2.1 y hy).trans (a.2.1 y hy), fun i => (b.2.2 i).trans (a.2.2 i)⟩
/-- the class's new machine -/
def q_N (u : Nat → Nat) (mc : Nat) (zl : Int32) (h h' : am_H) : Prop := (∀ i, ab_sl h' (u 61) i = ab_sl h (u 61) i) ∧ ∀ i y, ab_sl h' (u 6) i = some (.ref y) → (i = mc ∧ ab_sl h' y 3 = some (.int zl)) ∨ (i ≠ mc ∧ ab_sl h (u 6) i = some (.ref y) ∧ ab_sl h' y 3 = ab_sl h y 3)
/-- what stands in the row of machines -/
theorem q_32g {G : Nat → Nat → List ab_V} {τ u : Nat → Nat} {mc tv : Nat} {h : am_H} (hut : ∀ k, w_uq k = true → τ (u k) = k) (hI : ab_I w_kd w_un G τ tv h) (hG : ∀ i v, v ∈ G 6 (ab_gi w_un 6 i) → v ∈ (bif Nat.blt i mc then [(2, 32, 0)] else [(3, 0, 0)] : List ab_V)) {i y : Nat} (h6 : ab_sl h (u 6) i = some (.ref y)) : τ y = 32 ∧ i < mc := by
  have u6 := hut 6 (by decide +kernel)
  have hi : i < 8 := by
    obtain ⟨vs, e1, e2, -⟩ := hI (u 6) (by rw [u6]; decide)
    rw [ab_sl_at e1] at h6
    have := (List.getElem?_eq_some_iff.mp h6).1
    rw [e2, u6] at this
    exact this
  obtain ⟨vs, x, -, -, -, hs, v, hv, hg⟩ := ab_I_sl hI (a := u 6) (i := i) (by rw [u6]; decide) (by rw [u6]; exact hi)
  rw [h6] at hs
  cases hs
  rw [u6] at hv
  have hv := hG i v hv
  cases hb : Nat.blt i mc with
  | true =>
    rw [hb] at hv
    have := List.mem_singleton.mp hv
    subst this
    obtain ⟨y', e1, e2, -⟩ := hg
    cases e1
    exact ⟨e2, Nat.le_of_ble_eq_true hb⟩
  | false =>
    rw [hb] at hv
    have := List.mem_singleton.mp hv
    subst this
    cases hg
theorem q_32 {τ u : Nat → Nat} {mc tv : Nat} {h : am_H} (hut : ∀ k, w_uq k = true → τ (u k) = k) (hI : ab_I w_kd w_un (w_G mc) τ tv h) {i y : Nat} (h6 : ab_sl h (u 6) i = some (.ref y)) : τ y = 32 ∧ i < mc := q_32g hut hI (fun _ _ hv => hv) h6
theorem q_322 {τ u : Nat → Nat} {mc tv : Nat} {h : am_H} (hut : ∀ k, w_uq k = true → τ (u k) = k) (hI : ab_I w_kd w_un (w_G2 mc) τ tv h) {i y : Nat} (h6 : ab_sl h (u 6) i = some (.ref y)) : τ y = 32 ∧ i < Nat.add mc 1 := q_32g hut hI (fun _ _ hv => hv) h6
/-- no machine stands twice -/
theorem q_inj {τ u : Nat → Nat} {mc Tc Tm : Nat} {h : am_H} (hut : ∀ k, w_uq k = true → τ (u k) = k) (hJ : j_J τ u mc Tc Tm h) {i j y : Nat} (hi : ab_sl h (u 6) i = some (.ref y)) (hj : ab_sl h (u 6) j = some (.ref y)) : i = j := by
  have li := (q_32 hut hJ.1 hi).2
  have lj := (q_32 hut hJ.1 hj).2
  obtain ⟨y1, a1, a2, p1, p2, p3, p4, p5⟩ := hJ.2.2.2.2.2.2 i li
  obtain ⟨y2, b1, b2, r1, r2, r3, r4, r5⟩ := hJ.2.2.2.2.2.2 j lj
  rw [hi] at p1
  cases p1
  rw [hj] at r1
  cases r1
  rw [p2] at r2
  rw [p4] at r4
  cases r2
  cases r4
  have e1 : md_v h (u 59) i = md_v h (u 59) j := by rw [md_v_int p3, md_v_int r3]
  have e2 : md_v h (u 60) i = md_v h (u 60) j := by rw [md_v_int p5, md_v_int r5]
  rcases Nat.lt_trichotomy i j with l | l | l
  · exact absurd ⟨e1, e2⟩ (hJ.2.2.1.2.2.1 i j l lj)
  · exact l
  · exact absurd ⟨e1.symm, e2.symm⟩ (hJ.2.2.1.2.2.1 j i l li)
/-- the same places -/
def ii_I (u : Nat → Nat) (h : am_H) : Prop := ∀ i y, ab_sl h (u 6) i = some (.ref y) → ∃ z : Int32, ab_sl h y 3 = some (.int z) ∧ ab_sl h (u 61) i = some (.int z)
theorem ii_k {τ u : Nat → Nat} {mc Tc Tm : Nat} {h h' : am_H} (hut : ∀ k, w_uq k = true → τ (u k) = k) (hJ : j_J τ u mc Tc Tm h) (hf : q_P τ u h h') (hi : ii_I u h) : ii_I u h' := by
  intro i y h6
  rw [hf.1] at h6
  obtain ⟨z, z1, z2⟩ := hi i y h6
  exact ⟨z, by rw [hf.2.1 y (q_32 hut hJ.1 h6).1]; exact z1, by rw [hf.2.2]; exact z2⟩
/-- a machine more -/
theorem ii_m {τ u : Nat → Nat} {mc tv : Nat} {zl : Int32} {h h1 h2 : am_H} (hut : ∀ k, w_uq k = true → τ (u k) = k) (hI : ab_I w_kd w_un (w_G2 mc) τ tv h1) (hn : q_N u mc zl h h1) (hv : q_V τ u mc zl h1 h2) (hi : ii_I u h) : ii_I u h2 := by
  intro i y h6
  rw [hv.1] at h6
  have hy := (q_322 hut hI h6).1
  rcases hn.2 i y h6 with ⟨e, e3⟩ | ⟨e, e6, e3⟩
  · exact ⟨zl, by rw [hv.2.1 y hy]; exact e3, by rw [hv.2.2, if_pos e]⟩
  · obtain ⟨z, z1, z2⟩ := hi i y e6
    exact ⟨z, by rw [hv.2.1 y hy, e3]; exact z1, by rw [hv.2.2, if_neg e, hn.1]; exact z2⟩
