/-! ===== the fast machine's other instructions ===== -/
theorem fm_d_cat (c v : Nat) (h : Nat.beq (Nat.mod v 8) 4 = false) : (fm_d c v).category = 1 := by
  have h : v % 8 ≠ 4 := Nat.ne_of_beq_eq_false h
  have h8 : v % 8 = 0 ∨ v % 8 = 1 ∨ v % 8 = 2 ∨ v % 8 = 3 ∨ v % 8 = 5 ∨ v % 8 = 6 ∨ v % 8 = 7 := by omega
  rcases h8 with e | e | e | e | e | e | e
  · unfold fm_d; rw [e]; rfl
  · rw [fm_d1 e]; rfl
  · rw [fm_d2 e]; rfl
  · rw [fm_d3 e]; rfl
  · rw [fm_d5 e]; rfl
  · rw [fm_d6 e]; rfl
  · rw [fm_d7 e]; rfl
theorem fm_cell_tag (c T M a : Nat) : (fm_cell c T M a).1 = fm_tg T a := rfl
theorem fm_not {b : Bool} (h : (not b) = true) : b = false := by cases b <;> first | rfl | cases h
theorem fm_small_d (c : Nat) (l : List Nat) : ∀ n, fm_small n l = true → am_cat (l.map (fm_d c)) ≤ n := by
  induction l with
  | nil => intro n _; exact Nat.zero_le n
  | cons v t ih =>
    intro n h
    cases n with
    | zero => cases h
    | succ n =>
      have h : (not (Nat.beq (Nat.mod v 8) 4) && fm_small n t) = true := h
      obtain ⟨h1, h2⟩ := fm_a2 h
      have e := ih n h2
      unfold am_cat at e ⊢
      rw [List.map_cons, List.map_cons, List.sum_cons, fm_d_cat c v (fm_not h1)]
      omega
theorem fm_cat1_d (c : Nat) (l : List Nat) (h : fm_cat1 l = true) : am_one (l.map (fm_d c)) = true := by
  induction l with
  | nil => rfl
  | cons v t ih =>
    have h : (not (Nat.beq (Nat.mod v 8) 4) && fm_cat1 t) = true := h
    obtain ⟨h1, h2⟩ := fm_a2 h
    have e := ih h2
    unfold am_one at e ⊢
    rw [List.map_cons, List.all_cons, e, fm_d_cat c v (fm_not h1)]
    rfl
theorem am_one_rev {l : List Value} (h : am_one l = true) : am_one l.reverse = true := by
  unfold am_one at h ⊢
  rw [List.all_reverse]
  exact h
section FMC
variable {hp : am_H} {nL pc L k q : Nat} {st : List Nat} {H : fm_H} {x : fm_S ⊕ (fm_R ⊕ (Nat × List Nat × fm_S))}
variable {fty : Nat → Nat → Option FieldType} {dfl : Nat → Option (List Value)} {cmp : Nat → Option (Option Nat)} {lk : Nat → Nat → Option am_K} {mi : am_M} {xs : am_O}
theorem fs_aal (hc : ∀ t, 103 ≤ t → t ≤ 106 → (cmp t).isSome = true) (hk : fm_ok H) (h : fx_aal pc L st H k q = some x) : am_exec fty dfl cmp lk xs mi .aaload 1 pc (fm_lo hp.length nL L) (st.map (fm_d hp.length)) (fm_ah hp H) k q = some (fm_ax hp nL x) ∧ fm_okx x := by
  unfold fx_aal at h
  split at h
  · rename_i i a r
    obtain ⟨h1, h⟩ := fm_bt h
    obtain ⟨h1, h8⟩ := fm_a2 h1
    obtain ⟨h1, h7⟩ := fm_a2 h1
    obtain ⟨h1, h6⟩ := fm_a2 h1
    obtain ⟨h1, h5⟩ := fm_a2 h1
    obtain ⟨h1, h4⟩ := fm_a2 h1
    obtain ⟨h1, h3⟩ := fm_a2 h1
    obtain ⟨h1, h2⟩ := fm_a2 h1
    have g1 : a / 8 < H.1 := Nat.le_of_ble_eq_true h3
    have g2 : 103 ≤ fm_tg H.2.2.1 (a / 8) := Nat.le_of_ble_eq_true h4
    have g3 : fm_tg H.2.2.1 (a / 8) ≤ 106 := Nat.le_of_ble_eq_true h5
    have g4 : i / 8 < fm_ln H.2.2.1 (a / 8) := Nat.le_of_ble_eq_true h6
    have g5 : 2 ≤ fm_g H.2.2.2 (fm_of H.2.2.1 (a / 8) + i / 8) % 8 := Nat.le_of_ble_eq_true h7
    have g6 : fm_g H.2.2.2 (fm_of H.2.2.1 (a / 8) + i / 8) % 8 ≤ 3 := Nat.le_of_ble_eq_true h8
    obtain ⟨i1, i2, i3⟩ := fm_ix_d (c := hp.length) h2
    cases h
    refine ⟨?_, hk⟩
    show _ = am_go (pc + 1, fm_lo hp.length nL L, fm_d hp.length (fm_g H.2.2.2 (fm_of H.2.2.1 (a / 8) + i / 8)) :: r.map (fm_d hp.length), fm_ah hp H, k, q)
    simp only [am_exec]
    rw [if_pos trivial, List.map_cons, List.map_cons, i1, fm_rv_d h1]
    dsimp only
    rw [fm_ah_get g1]
    dsimp only
    rw [fm_cell_tag, if_pos (hc _ g2 g3), fm_rd_at i2 i3 g4]
    have hv : fm_g H.2.2.2 (fm_of H.2.2.1 (a / 8) + i / 8) % 8 = 2 ∨ fm_g H.2.2.2 (fm_of H.2.2.1 (a / 8) + i / 8) % 8 = 3 := by omega
    rcases hv with hv | hv
    · rw [fm_d2 hv]
    · rw [fm_d3 hv]
  · cases h
theorem fs_aas (hk : fm_ok H) (h : fx_aas cmp pc L st H k q = some x) : am_exec fty dfl cmp lk xs mi .aastore 1 pc (fm_lo hp.length nL L) (st.map (fm_d hp.length)) (fm_ah hp H) k q = some (fm_ax hp nL x) ∧ fm_okx x := by
  unfold fx_aas at h
  split at h
  · rename_i v i a r
    obtain ⟨h1, h⟩ := fm_bt h
    obtain ⟨h1, h5⟩ := fm_a2 h1
    obtain ⟨h1, h4⟩ := fm_a2 h1
    obtain ⟨h1, h3⟩ := fm_a2 h1
    obtain ⟨h1, h2⟩ := fm_a2 h1
    have g1 : v / 8 < H.1 := Nat.le_of_ble_eq_true h4
    have g2 : a / 8 < H.1 := Nat.le_of_ble_eq_true h5
    obtain ⟨i1, i2, i3⟩ := fm_ix_d (c := hp.length) h2
    split at h
    · rename_i ci hci
      obtain ⟨h6, h⟩ := fm_bt h
      have h6 : ci = fm_tg H.2.2.1 (v / 8) := Nat.eq_of_beq_eq_true h6
      unfold fx_wr at h
      obtain ⟨h7, h⟩ := fm_bt h
      obtain ⟨h7, hs⟩ := fm_a2 h7
      obtain ⟨-, -, g3⟩ : a / 8 < H.1 ∧ fm_tg H.2.2.1 (a / 8) = _ ∧ i / 8 < fm_ln H.2.2.1 (a / 8) := fm_at_d h7
      cases h
      refine ⟨?_, hk⟩
      show _ = am_go (pc + 1, fm_lo hp.length nL L, r.map (fm_d hp.length), fm_ah hp (fm_st H (fm_of H.2.2.1 (a / 8) + i / 8) v), k, q)
      simp only [am_exec]
      have hci : cmp (fm_tg H.2.2.1 (a / 8)) = some (some ci) := hci
      have e := fm_wr_at (hp := hp) hk i2 i3 g2 g3 (fm_sm_d hs).1
      rw [fm_rv_d h3] at e
      rw [if_pos trivial, List.map_cons, List.map_cons, List.map_cons, fm_rv_d h3, i1, fm_rv_d h1]
      dsimp only
      rw [fm_ah_get g2, fm_ah_get g1]
      dsimp only
      rw [if_pos (by
        show cmp (fm_tg H.2.2.1 (a / 8)) = some (some (fm_tg H.2.2.1 (v / 8)))
        rw [hci, h6])]
      show (match am_wr (fm_ah hp H) (hp.length + a / 8) (fm_tg H.2.2.1 (a / 8)) (fm_cell hp.length H.2.2.1 H.2.2.2 (a / 8)).2 (Int32.ofNat (i / 8)) (.ref (hp.length + v / 8)) with
        | some h' => am_go (pc + 1, fm_lo hp.length nL L, r.map (fm_d hp.length), h', k, q)
        | none => none) = _
      rw [e]
    · cases h
  · cases h
theorem fs_ial (hk : fm_ok H) (h : fx_ial xs pc L st H k q = some x) : am_exec fty dfl cmp lk xs mi .iaload 1 pc (fm_lo hp.length nL L) (st.map (fm_d hp.length)) (fm_ah hp H) k q = some (fm_ax hp nL x) ∧ fm_okx x := by
  unfold fx_ial at h
  split at h
  · rename_i i a r
    cases h6 : Nat.beq a 6 with
    | true =>
      rw [h6] at h
      have h6 : a = 6 := Nat.eq_of_beq_eq_true h6
      subst h6
      dsimp only [cond_true] at h
      split at h
      · rename_i l hl
        obtain ⟨h1, h⟩ := fm_bt h
        obtain ⟨h1, h2⟩ := fm_a2 h1
        have h2 : i / 8 < l := Nat.le_of_ble_eq_true h2
        obtain ⟨i1, i2, i3⟩ := fm_ix_d (c := hp.length) h1
        simp only [am_exec]
        rw [if_pos trivial, List.map_cons, List.map_cons, i1, show fm_d hp.length 6 = .retAddr 0 from fm_d6 rfl]
        show (match xs.1 with
          | some l => if Int32.ofNat (i / 8) < 0 ∨ l ≤ (Int32.ofNat (i / 8)).toNatClampNeg then none else match am_kn xs.2.1 (Int32.ofNat (i / 8)).toNatClampNeg with
            | some z => am_go (pc + 1, fm_lo hp.length nL L, .int z :: r.map (fm_d hp.length), fm_ah hp H, k, q)
            | none => am_go (pc + 1, fm_lo hp.length nL L, .retAddr ((Int32.ofNat (i / 8)).toNatClampNeg + 1) :: r.map (fm_d hp.length), fm_ah hp H, k, q)
          | none => none) = _ ∧ _
        rw [hl]
        dsimp only
        rw [if_neg (fun z => z.elim i2 (fun z => by rw [i3] at z; omega)), i3]
        split at h
        · rename_i z hz
          cases h
          refine ⟨?_, hk⟩
          have hz : am_kn xs.2.1 (i / 8) = some z := hz
          rw [hz]
          show _ = am_go (pc + 1, fm_lo hp.length nL L, fm_d hp.length (fm_mk (fm_u z)) :: r.map (fm_d hp.length), fm_ah hp H, k, q)
          rw [fm_d_mk, fm_i_u]
        · rename_i hz
          cases h
          refine ⟨?_, hk⟩
          have hz : am_kn xs.2.1 (i / 8) = none := hz
          rw [hz]
          show _ = am_go (pc + 1, fm_lo hp.length nL L, fm_d hp.length (8 * (i / 8) + 5) :: r.map (fm_d hp.length), fm_ah hp H, k, q)
          rw [fm_d5 (by omega), show (8 * (i / 8) + 5) / 8 = i / 8 by omega]
      · cases h
    | false =>
      rw [h6] at h
      dsimp only [cond_false] at h
      obtain ⟨i', a', r', vs, w, e, e1, e2, e3, e4, e5, rfl⟩ := fs_ald (hp := hp) hk h
      cases e
      refine ⟨?_, hk⟩
      show _ = am_go (pc + 1, fm_lo hp.length nL L, fm_d hp.length w :: r.map (fm_d hp.length), fm_ah hp H, k, q)
      simp only [am_exec]
      rw [if_pos trivial, List.map_cons, List.map_cons, e1, e2]
      dsimp only
      rw [e3]
      dsimp only
      rw [e4, fm_d1 e5]
  · cases h
theorem fs_zal (hk : fm_ok H) (h : fx_ald 101 1 pc L st H k q = some x) : am_exec fty dfl cmp lk xs mi .baload 1 pc (fm_lo hp.length nL L) (st.map (fm_d hp.length)) (fm_ah hp H) k q = some (fm_ax hp nL x) ∧ fm_okx x := by
  obtain ⟨i', a', r', vs, w, rfl, e1, e2, e3, e4, e5, rfl⟩ := fs_ald (hp := hp) hk h
  refine ⟨?_, hk⟩
  show _ = am_go (pc + 1, fm_lo hp.length nL L, fm_d hp.length w :: r'.map (fm_d hp.length), fm_ah hp H, k, q)
  simp only [am_exec]
  rw [if_pos trivial, List.map_cons, List.map_cons, e1, e2]
  dsimp only
  rw [e3]
  dsimp only
  rw [e4, fm_d1 e5]
theorem fs_lal (hk : fm_ok H) (h : fx_ald 102 4 pc L st H k q = some x) : am_exec fty dfl cmp lk xs mi .laload 1 pc (fm_lo hp.length nL L) (st.map (fm_d hp.length)) (fm_ah hp H) k q = some (fm_ax hp nL x) ∧ fm_okx x := by
  obtain ⟨i', a', r', vs, w, rfl, e1, e2, e3, e4, e5, rfl⟩ := fs_ald (hp := hp) hk h
  refine ⟨?_, hk⟩
  show _ = am_go (pc + 1, fm_lo hp.length nL L, fm_d hp.length w :: r'.map (fm_d hp.length), fm_ah hp H, k, q)
  simp only [am_exec]
  rw [if_pos trivial, List.map_cons, List.map_cons, e1, e2]
  dsimp only
  rw [e3]
  dsimp only
  rw [e4, fm_d4 e5]
theorem fs_ias (hk : fm_ok H) (h : fx_ast 100 0 pc L st H k q = some x) : am_exec fty dfl cmp lk xs mi .iastore 1 pc (fm_lo hp.length nL L) (st.map (fm_d hp.length)) (fm_ah hp H) k q = some (fm_ax hp nL x) ∧ fm_okx x := by
  obtain ⟨v, i', a', r', vs, H', rfl, e0, e1, e2, e3, e4, rfl, e5⟩ := fs_ast (hp := hp) hk h
  refine ⟨?_, e5⟩
  show _ = am_go (pc + 1, fm_lo hp.length nL L, r'.map (fm_d hp.length), fm_ah hp H', k, q)
  have e0 : Nat.beq (Nat.mod v 8) 1 = true := e0
  rw [fm_d1 (Nat.eq_of_beq_eq_true e0)] at e4
  simp only [am_exec]
  rw [if_pos trivial, List.map_cons, List.map_cons, List.map_cons, fm_d1 (Nat.eq_of_beq_eq_true e0), e1, e2]
  dsimp only
  rw [e3]
  dsimp only
  rw [e4]
theorem fs_zas (hk : fm_ok H) (h : fx_ast 101 1 pc L st H k q = some x) : am_exec fty dfl cmp lk xs mi .bastore 1 pc (fm_lo hp.length nL L) (st.map (fm_d hp.length)) (fm_ah hp H) k q = some (fm_ax hp nL x) ∧ fm_okx x := by
  obtain ⟨v, i', a', r', vs, H', rfl, e0, e1, e2, e3, e4, rfl, e5⟩ := fs_ast (hp := hp) hk h
  refine ⟨?_, e5⟩
  show _ = am_go (pc + 1, fm_lo hp.length nL L, r'.map (fm_d hp.length), fm_ah hp H', k, q)
  have e0 : (Nat.beq v 1 || Nat.beq v 9) = true := e0
  have hv : v % 8 = 1 ∧ am_bit (Int32.ofNat (v / 8)) = true := by
    rcases Bool.or_eq_true_iff.mp e0 with g | g
    · have g := Nat.eq_of_beq_eq_true g
      subst g
      exact ⟨rfl, rfl⟩
    · have g := Nat.eq_of_beq_eq_true g
      subst g
      exact ⟨rfl, rfl⟩
  rw [fm_d1 hv.1] at e4
  simp only [am_exec]
  rw [if_pos trivial, List.map_cons, List.map_cons, List.map_cons, fm_d1 hv.1, e1, e2]
  dsimp only
  rw [e3]
  dsimp only
  rw [if_pos hv.2, e4]
theorem fs_las (hk : fm_ok H) (h : fx_ast 102 2 pc L st H k q = some x) : am_exec fty dfl cmp lk xs mi .lastore 1 pc (fm_lo hp.length nL L) (st.map (fm_d hp.length)) (fm_ah hp H) k q = some (fm_ax hp nL x) ∧ fm_okx x := by
  obtain ⟨v, i', a', r', vs, H', rfl, e0, e1, e2, e3, e4, rfl, e5⟩ := fs_ast (hp := hp) hk h
  refine ⟨?_, e5⟩
  show _ = am_go (pc + 1, fm_lo hp.length nL L, r'.map (fm_d hp.length), fm_ah hp H', k, q)
  have e0 : Nat.beq (Nat.mod v 8) 4 = true := e0
  rw [fm_d4 (Nat.eq_of_beq_eq_true e0)] at e4
  simp only [am_exec]
  rw [if_pos trivial, List.map_cons, List.map_cons, List.map_cons, fm_d4 (Nat.eq_of_beq_eq_true e0), e1, e2]
  dsimp only
  rw [e3]
  dsimp only
  rw [e4]
theorem fs_len (hc : ∀ t, 103 ≤ t → t ≤ 106 → (cmp t).isSome = true) (hk : fm_ok H) (h : fx_len xs pc L st H k q = some x) : am_exec fty dfl cmp lk xs mi .arraylength 1 pc (fm_lo hp.length nL L) (st.map (fm_d hp.length)) (fm_ah hp H) k q = some (fm_ax hp nL x) ∧ fm_okx x := by
  unfold fx_len at h
  split at h
  · rename_i a r
    cases h6 : Nat.beq a 6 with
    | true =>
      rw [h6] at h
      have h6 : a = 6 := Nat.eq_of_beq_eq_true h6
      subst h6
      dsimp only [cond_true] at h
      split at h
      · rename_i l hl
        cases h
        refine ⟨?_, hk⟩
        show _ = am_go (pc + 1, fm_lo hp.length nL L, fm_d hp.length (8 * l + 1) :: r.map (fm_d hp.length), fm_ah hp H, k, q)
        simp only [am_exec]
        rw [if_pos trivial, List.map_cons, show fm_d hp.length 6 = .retAddr 0 from fm_d6 rfl, fm_d_int]
        show (match xs.1 with
          | some l => am_go (pc + 1, fm_lo hp.length nL L, .int (Int32.ofNat l) :: r.map (fm_d hp.length), fm_ah hp H, k, q)
          | none => none) = _
        rw [hl]
      · cases h
    | false =>
      rw [h6] at h
      dsimp only [cond_false] at h
      obtain ⟨h1, h⟩ := fm_bt h
      obtain ⟨h1, h4⟩ := fm_a2 h1
      obtain ⟨h1, h3⟩ := fm_a2 h1
      obtain ⟨h1, h2⟩ := fm_a2 h1
      have g1 : a / 8 < H.1 := Nat.le_of_ble_eq_true h2
      have g2 : 100 ≤ fm_tg H.2.2.1 (a / 8) := Nat.le_of_ble_eq_true h3
      have g3 : fm_tg H.2.2.1 (a / 8) ≤ 106 := Nat.le_of_ble_eq_true h4
      cases h
      refine ⟨?_, hk⟩
      show _ = am_go (pc + 1, fm_lo hp.length nL L, fm_d hp.length (8 * fm_ln H.2.2.1 (a / 8) + 1) :: r.map (fm_d hp.length), fm_ah hp H, k, q)
      simp only [am_exec]
      rw [if_pos trivial, List.map_cons, fm_rv_d h1, fm_d_int]
      dsimp only
      rw [fm_ah_get g1]
      dsimp only
      have hcond : fm_tg H.2.2.1 (a / 8) = 100 ∨ fm_tg H.2.2.1 (a / 8) = 101 ∨ fm_tg H.2.2.1 (a / 8) = 102 ∨ (cmp (fm_tg H.2.2.1 (a / 8))).isSome = true := by
        by_cases h103 : 103 ≤ fm_tg H.2.2.1 (a / 8)
        · exact Or.inr (Or.inr (Or.inr (hc _ h103 g3)))
        · have : fm_tg H.2.2.1 (a / 8) = 100 ∨ fm_tg H.2.2.1 (a / 8) = 101 ∨ fm_tg H.2.2.1 (a / 8) = 102 := by omega
          rcases this with z | z | z
          · exact Or.inl z
          · exact Or.inr (Or.inl z)
          · exact Or.inr (Or.inr (Or.inl z))
      rw [fm_cell_tag, if_pos hcond, fm_cell_len]
  · cases h
end FMC
