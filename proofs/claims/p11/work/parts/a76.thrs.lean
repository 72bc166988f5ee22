/-! ===== every throw of the tables ===== -/
set_option maxRecDepth 100000
theorem am_k13 : ∀ (o : Nat) (l : List (Nat × am_K)), am_lkl[o]? = some l → ∀ x ∈ l, (x.2.1 = 13 → o = 0 ∧ (x.1, x.2.2.1) ∈ ([(51, 10), (66, 11), (169, 12)] : List (Nat × Nat))) ∧ (x.2.1 = 14 → o = 0 → x.1 ∈ am_sts.map (fun z => z.2.1)) ∧ (x.2.1 = 15 → o = 0 → (x.1, x.2.2.1) ∈ ([(55, 10), (70, 11), (173, 12)] : List (Nat × Nat))) := am_ix_cons (by decide +kernel) (am_ix_cons (by decide +kernel) (am_ix_cons (by decide +kernel) (am_ix_cons (by decide +kernel) (am_ix_cons (by decide +kernel) (am_ix_cons (by decide +kernel) (am_ix_cons (by decide +kernel) (am_ix_cons (by decide +kernel) (am_ix_cons (by decide +kernel) (am_ix_cons (by decide +kernel) (am_ix_cons (by decide +kernel) (am_ix_cons (by decide +kernel) (am_ix_cons (by decide +kernel) (am_ix_nil)))))))))))))
theorem am_sts_own : ∀ z ∈ am_sts, z.1 = "OverlayNet" := by decide +kernel
theorem am_thr_ok (b : Nat) : ∀ (o ix is ic : Nat) (kf ks kc : am_K), am_lk o ix = some kf → am_lk o is = some ks → am_lk o ic = some kc → kf.1 = 13 → ks.1 = 14 → kc.1 = 15 → kc.2.1 = kf.2.1 → am_okT am_TS am_cl (am_Zy b) (am_on o) ix is ic kf.2.1 := by
  intro o ix is ic kf ks kc h1 h2 h3 k1 k2 k3 hc
  obtain ⟨l, hl, m1⟩ := am_lk_mem h1
  obtain ⟨l2, hl2, m2⟩ := am_lk_mem h2
  obtain ⟨l3, hl3, m3⟩ := am_lk_mem h3
  cases Option.some.inj (hl.symm.trans hl2)
  cases Option.some.inj (hl.symm.trans hl3)
  obtain ⟨rfl, g1⟩ := (am_k13 o l hl _ m1).1 k1
  have g2 := (am_k13 0 l hl _ m2).2.1 k2 rfl
  have g3 := (am_k13 0 l hl _ m3).2.2 k3 rfl
  obtain ⟨z, hz, hzi⟩ := List.mem_map.mp g2
  have h7 : ("OverlayNet", is, z.2.2) ∈ am_sts := by
    have e := am_sts_own z hz
    obtain ⟨z1, z2, z3⟩ := z
    dsimp only at e hzi
    rw [← e, ← hzi]
    exact hz
  show am_okT am_TS am_cl (am_Zy b) "OverlayNet" ix is ic kf.2.1
  dsimp only at g1 g3
  rw [hc] at g3
  simp only [List.mem_cons, Prod.mk.injEq, List.not_mem_nil, or_false] at g1 g3
  rcases g1 with ⟨rfl, e1⟩ | ⟨rfl, e1⟩ | ⟨rfl, e1⟩ <;> rw [e1] at g3 ⊢ <;> rcases g3 with ⟨rfl, e3⟩ | ⟨rfl, e3⟩ | ⟨rfl, e3⟩ <;> first
    | exact am_ot10 b h7
    | exact am_ot11 b h7
    | exact am_ot12 b h7
    | exact absurd e3 (by decide)
