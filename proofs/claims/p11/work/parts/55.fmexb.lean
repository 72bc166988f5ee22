/-! ===== the fast machine's instructions on the heap ===== -/
section FMB
variable {hp : am_H} {nL pc L k q : Nat} {st : List Nat} {H : fm_H} {x : fm_S ⊕ (fm_R ⊕ (Nat × List Nat × fm_S))}
theorem fm_at_d {a t i : Nat} (h : fm_at H a t i = true) : a < H.1 ∧ fm_tg H.2.2.1 a = t ∧ i < fm_ln H.2.2.1 a := by
  obtain ⟨h1, h2⟩ := fm_a2 h
  obtain ⟨h3, h4⟩ := fm_a2 h1
  exact ⟨Nat.le_of_ble_eq_true h3, Nat.eq_of_beq_eq_true h4, Nat.le_of_ble_eq_true h2⟩
theorem fm_ix_d {c v : Nat} (h : fm_ix v = true) : fm_d c v = .int (Int32.ofNat (v / 8)) ∧ ¬ Int32.ofNat (v / 8) < 0 ∧ (Int32.ofNat (v / 8)).toNatClampNeg = v / 8 := by
  obtain ⟨h1, h2⟩ := fm_a2 h
  have h2 : v < 17179869184 := Nat.le_of_ble_eq_true h2
  have h3 := fm_i_ix (x := v / 8) (by omega)
  exact ⟨fm_d1 (Nat.eq_of_beq_eq_true h1), h3.1, h3.2⟩
theorem fm_rd_at {c T M a i : Nat} {z : Int32} (h0 : ¬ z < 0) (hz : z.toNatClampNeg = i) (hi : i < fm_ln T a) : am_rd (fm_cell c T M a).2 z = some (fm_d c (fm_g M (fm_of T a + i))) := by
  unfold am_rd
  rw [if_neg h0, hz, fm_cell_get hi]
theorem fm_wr_at {a i v : Nat} {z : Int32} (hk : fm_ok H) (h0 : ¬ z < 0) (hz : z.toNatClampNeg = i) (ha : a < H.1) (hi : i < fm_ln H.2.2.1 a) (hv : v < 2 ^ 36) : am_wr (fm_ah hp H) (hp.length + a) (fm_tg H.2.2.1 a) (fm_cell hp.length H.2.2.1 H.2.2.2 a).2 z (fm_d hp.length v) = some (fm_ah hp (fm_st H (fm_of H.2.2.1 a + i) v)) := by
  unfold am_wr
  rw [if_neg h0, hz, fm_cell_len, if_pos hi, fm_ah_set hk ha hi hv]
theorem fs_getf {ci j : Nat} {kk : am_K} (hk : fm_ok H) (h4 : kk.1 ≤ 4) (hc : kk.2.1 = ci) (hj : kk.2.2.1 = j) (h : fx_getf ci j pc L st H k q = some x) : am_getf kk pc (fm_lo hp.length nL L) (st.map (fm_d hp.length)) (fm_ah hp H) k q = some (fm_ax hp nL x) ∧ fm_okx x := by
  unfold fx_getf at h
  split at h
  · rename_i a r
    obtain ⟨h1, h⟩ := fm_bt h
    unfold fx_rd at h
    obtain ⟨h2, h⟩ := fm_bt h
    obtain ⟨g1, g2, g3⟩ : a / 8 < H.1 ∧ fm_tg H.2.2.1 (a / 8) = ci ∧ j < fm_ln H.2.2.1 (a / 8) := fm_at_d h2
    cases h
    refine ⟨?_, hk⟩
    unfold am_getf
    rw [if_pos h4, List.map_cons, fm_rv_d h1]
    dsimp only
    rw [hc, hj, fm_ah_arr g1 g2]
    dsimp only
    have e := fm_cell_get (c := hp.length) (M := H.2.2.2) g3
    rw [e]
    rfl
  · cases h
theorem fm_fit_d {c ty v : Nat} {t : FieldType} (ht : (ty = 0 ∧ t = .int) ∨ (ty = 1 ∧ t = .boolean) ∨ (ty = 2 ∧ t = .long) ∨ (ty = 3 ∧ ((∃ C, t = .object C) ∨ ∃ e, t = .array e))) (h : fm_fit ty v = true) : am_fit t (fm_d c v) = true := by
  rcases ht with ⟨rfl, rfl⟩ | ⟨rfl, rfl⟩ | ⟨rfl, rfl⟩ | ⟨rfl, ht⟩
  · have h : Nat.beq (Nat.mod v 8) 1 = true := h
    rw [fm_d1 (Nat.eq_of_beq_eq_true h)]
    rfl
  · have h : (Nat.beq v 1 || Nat.beq v 9) = true := h
    rcases Bool.or_eq_true_iff.mp h with g | g
    · have g := Nat.eq_of_beq_eq_true g
      subst g
      rfl
    · have g := Nat.eq_of_beq_eq_true g
      subst g
      rfl
  · have h : Nat.beq (Nat.mod v 8) 4 = true := h
    rw [fm_d4 (Nat.eq_of_beq_eq_true h)]
    rfl
  · have h : (Nat.beq (Nat.mod v 8) 2 || Nat.beq v 3) = true := h
    have e : am_isR (fm_d c v) = true := by
      rcases Bool.or_eq_true_iff.mp h with g | g
      · rw [fm_d2 (Nat.eq_of_beq_eq_true g)]
        rfl
      · have g := Nat.eq_of_beq_eq_true g
        subst g
        rfl
    rcases ht with ⟨C, rfl⟩ | ⟨e', rfl⟩ <;> exact e
theorem fs_putf {fty : Nat → Nat → Option FieldType} {nm : String} {ci j ty : Nat} {t : FieldType} {kk : am_K} (hk : fm_ok H) (h4 : kk.1 ≤ 1 ∨ (kk.1 = 2 ∧ nm = "<init>")) (hc : kk.2.1 = ci) (hj : kk.2.2.1 = j) (hty : fty ci j = some t) (ht : (ty = 0 ∧ t = .int) ∨ (ty = 1 ∧ t = .boolean) ∨ (ty = 2 ∧ t = .long) ∨ (ty = 3 ∧ ((∃ C, t = .object C) ∨ ∃ e, t = .array e))) (h : fx_putf ci j ty pc L st H k q = some x) : am_putf fty nm kk pc (fm_lo hp.length nL L) (st.map (fm_d hp.length)) (fm_ah hp H) k q = some (fm_ax hp nL x) ∧ fm_okx x := by
  unfold fx_putf at h
  split at h
  · rename_i v a r
    obtain ⟨h1, h⟩ := fm_bt h
    obtain ⟨h1, hf⟩ := fm_a2 h1
    unfold fx_wr at h
    obtain ⟨h2, h⟩ := fm_bt h
    obtain ⟨h2, hs⟩ := fm_a2 h2
    obtain ⟨g1, g2, g3⟩ : a / 8 < H.1 ∧ fm_tg H.2.2.1 (a / 8) = ci ∧ j < fm_ln H.2.2.1 (a / 8) := fm_at_d h2
    cases h
    refine ⟨?_, hk⟩
    unfold am_putf
    rw [if_pos h4, List.map_cons, List.map_cons, fm_rv_d h1]
    dsimp only
    rw [hc, hj, hty, fm_ah_arr g1 g2]
    dsimp only
    rw [if_pos ⟨by rw [fm_cell_len]; exact g3, fm_fit_d ht hf⟩]
    have e := fm_ah_set (hp := hp) hk g1 g3 (fm_sm_d hs).1
    show am_go (pc + 3, fm_lo hp.length nL L, r.map (fm_d hp.length), (fm_ah hp H).set (hp.length + a / 8) (ci, (fm_cell hp.length H.2.2.1 H.2.2.2 (a / 8)).2.set j (fm_d hp.length v)), k, q) = am_go (pc + 3, fm_lo hp.length nL L, r.map (fm_d hp.length), fm_ah hp (fm_st H (fm_of H.2.2.1 (a / 8) + j) v), k, q)
    rw [e, g2]
  · cases h
/-- an element of a row of ints, of booleans, of longs -/
theorem fs_ald {t e : Nat} (hk : fm_ok H) (h : fx_ald t e pc L st H k q = some x) : ∃ (i a : Nat) (r : List Nat) (vs : List Value) (w : Nat), st = i :: a :: r ∧ fm_d hp.length i = .int (Int32.ofNat (i / 8)) ∧ fm_d hp.length a = .ref (hp.length + a / 8) ∧ am_arr (fm_ah hp H) (hp.length + a / 8) t = some vs ∧ am_rd vs (Int32.ofNat (i / 8)) = some (fm_d hp.length w) ∧ w % 8 = e ∧ x = .inl (pc + 1, L, w :: r, H, k, q) := by
  unfold fx_ald at h
  split at h
  · rename_i i a r
    obtain ⟨h1, h⟩ := fm_bt h
    obtain ⟨h1, h4⟩ := fm_a2 h1
    obtain ⟨h1, h3⟩ := fm_a2 h1
    obtain ⟨h1, h2⟩ := fm_a2 h1
    obtain ⟨g1, g2, g3⟩ : a / 8 < H.1 ∧ fm_tg H.2.2.1 (a / 8) = t ∧ i / 8 < fm_ln H.2.2.1 (a / 8) := fm_at_d h3
    obtain ⟨i1, i2, i3⟩ := fm_ix_d (c := hp.length) h2
    cases h
    exact ⟨i, a, r, _, _, rfl, i1, fm_rv_d h1, fm_ah_arr g1 g2, fm_rd_at i2 i3 g3, Nat.eq_of_beq_eq_true h4, rfl⟩
  · cases h
theorem fs_ast {t ty : Nat} (hk : fm_ok H) (h : fx_ast t ty pc L st H k q = some x) : ∃ (v i a : Nat) (r : List Nat) (vs : List Value) (H' : fm_H), st = v :: i :: a :: r ∧ fm_fit ty v = true ∧ fm_d hp.length i = .int (Int32.ofNat (i / 8)) ∧ fm_d hp.length a = .ref (hp.length + a / 8) ∧ am_arr (fm_ah hp H) (hp.length + a / 8) t = some vs ∧ am_wr (fm_ah hp H) (hp.length + a / 8) t vs (Int32.ofNat (i / 8)) (fm_d hp.length v) = some (fm_ah hp H') ∧ x = .inl (pc + 1, L, r, H', k, q) ∧ fm_ok H' := by
  unfold fx_ast at h
  split at h
  · rename_i v i a r
    obtain ⟨h1, h⟩ := fm_bt h
    obtain ⟨h1, hf⟩ := fm_a2 h1
    obtain ⟨h1, h2⟩ := fm_a2 h1
    unfold fx_wr at h
    obtain ⟨h3, h⟩ := fm_bt h
    obtain ⟨h3, hs⟩ := fm_a2 h3
    obtain ⟨g1, g2, g3⟩ : a / 8 < H.1 ∧ fm_tg H.2.2.1 (a / 8) = t ∧ i / 8 < fm_ln H.2.2.1 (a / 8) := fm_at_d h3
    obtain ⟨i1, i2, i3⟩ := fm_ix_d (c := hp.length) h2
    cases h
    refine ⟨v, i, a, r, _, _, rfl, hf, i1, fm_rv_d h1, fm_ah_arr g1 g2, ?_, rfl, hk⟩
    have e := fm_wr_at (hp := hp) hk i2 i3 g1 g3 (fm_sm_d hs).1
    rw [g2] at e
    exact e
  · cases h
end FMB
