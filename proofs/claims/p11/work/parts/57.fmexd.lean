/-! ===== new cells, calls, ends ===== -/
theorem fm_rm_d {H : fm_H} {x : Nat} (h : fm_rm H x = true) : H.2.1 + x < 524288 ∧ H.1 < 65536 := by
  obtain ⟨h1, h2⟩ := fm_a2 h
  exact ⟨Nat.le_of_ble_eq_true h1, Nat.le_of_ble_eq_true h2⟩
theorem fm_rows_d {hp : am_H} {y : Nat} (hy : y < 1024) (x : Nat) : ∀ H : fm_H, fm_ok H → H.2.1 + x * y < 524288 → fm_ah hp (fm_rows y x H) = fm_ah hp H ++ List.replicate x (100, List.replicate y (.int 0)) ∧ fm_ok (fm_rows y x H) := by
  induction x with
  | zero =>
    intro H hk _
    refine ⟨?_, hk⟩
    show fm_ah hp H = _
    simp
  | succ x ih =>
    intro H hk hm
    have hm' : H.2.1 + y + x * y < 524288 := by rw [Nat.succ_mul] at hm; omega
    have e1 := fm_ah_al (hp := hp) (t := 100) (x := y) (P := fm_rp 1 y) hk (by omega) hy (by omega)
    have e2 := fm_ok_al (t := 100) (x := y) (P := fm_rp 1 y) hk (by omega) hy (by omega)
    obtain ⟨g1, g2⟩ := ih (fm_al H 100 y (fm_rp 1 y)) e2 hm'
    refine ⟨?_, g2⟩
    show fm_ah hp (fm_rows y x (fm_al H 100 y (fm_rp 1 y))) = _
    rw [g1, e1, fm_rp_map (by decide), List.append_assoc]
    rfl
section FMD
variable {hp : am_H} {nL pc L k q : Nat} {st : List Nat} {H : fm_H} {x : fm_S ⊕ (fm_R ⊕ (Nat × List Nat × fm_S))}
variable {fty : Nat → Nat → Option FieldType} {dfl : Nat → Option (List Value)} {cmp : Nat → Option (Option Nat)} {lk : Nat → Nat → Option am_K} {mi : am_M} {xs : am_O}
theorem fs_newa {t d len : Nat} {dv : Value} (ht : t < 28) (hd : d < 2 ^ 36) (hdv : fm_d hp.length d = dv) (hk : fm_ok H) (h : fx_newa t d len pc L st H k q = some x) : am_new len t dv len pc (fm_lo hp.length nL L) (st.map (fm_d hp.length)) (fm_ah hp H) k q = some (fm_ax hp nL x) ∧ fm_okx x := by
  unfold fx_newa at h
  split at h
  · rename_i v r
    obtain ⟨h1, h⟩ := fm_bt h
    obtain ⟨h1, h3⟩ := fm_a2 h1
    obtain ⟨h1, h2⟩ := fm_a2 h1
    have g2 : v / 8 ≤ 1000 := Nat.le_of_ble_eq_true h2
    obtain ⟨m1, m2⟩ : H.2.1 + v / 8 < 524288 ∧ H.1 < 65536 := fm_rm_d h3
    obtain ⟨i1, i2, i3⟩ := fm_ix_d (c := hp.length) h1
    cases h
    have e1 := fm_ah_al (hp := hp) (t := 100 + t) (x := v / 8) (P := fm_rp d (v / 8)) hk (by omega) (by omega) (by omega)
    have e2 := fm_ok_al (t := 100 + t) (x := v / 8) (P := fm_rp d (v / 8)) hk (by omega) (by omega) (by omega)
    refine ⟨?_, e2⟩
    show _ = am_go (pc + len, fm_lo hp.length nL L, fm_d hp.length (8 * H.1 + 2) :: r.map (fm_d hp.length), fm_ah hp (fm_al H (100 + t) (v / 8) (fm_rp d (v / 8))), k + 1, q + v / 8)
    unfold am_new
    rw [if_pos rfl, List.map_cons, i1]
    dsimp only
    rw [if_neg i2, i3, if_pos g2, e1, fm_rp_map hd, hdv, fm_ah_len, fm_d_ref]
  · cases h
theorem fs_new {ci y P ix : Nat} {kk : am_K} {vs : List Value} (hl : lk (am_o mi) ix = some kk) (h9 : kk.1 = 9) (hci : kk.2.1 = ci) (hd : dfl ci = some vs) (hc : ci < 128) (hy : y < 1024) (hv : ((List.range y).map fun j => fm_d hp.length (fm_g P j)) = vs) (hk : fm_ok H) (h : fx_new ci y P pc L st H k q = some x) : am_exec fty dfl cmp lk xs mi (.new ix) 3 pc (fm_lo hp.length nL L) (st.map (fm_d hp.length)) (fm_ah hp H) k q = some (fm_ax hp nL x) ∧ fm_okx x := by
  unfold fx_new at h
  obtain ⟨h1, h⟩ := fm_bt h
  obtain ⟨m1, m2⟩ := fm_rm_d h1
  cases h
  have e1 := fm_ah_al (hp := hp) (t := ci) (x := y) (P := P) hk hc hy (by omega)
  have e2 := fm_ok_al (t := ci) (x := y) (P := P) hk hc hy (by omega)
  refine ⟨?_, e2⟩
  show _ = am_go (pc + 3, fm_lo hp.length nL L, fm_d hp.length (8 * H.1 + 2) :: st.map (fm_d hp.length), fm_ah hp (fm_al H ci y P), k + 1, q + y)
  simp only [am_exec]
  rw [if_pos trivial, hl]
  dsimp only
  rw [if_pos h9, hci, hd]
  dsimp only
  have hlen : vs.length = y := by rw [← hv, List.length_map, List.length_range]
  rw [e1, hv, fm_ah_len, fm_d_ref, hlen]
theorem fs_mul2 {ix : Nat} {kk : am_K} (hl : lk (am_o mi) ix = some kk) (h11 : kk.1 = 11) (hk : fm_ok H) (h : fx_mul2 pc L st H k q = some x) : am_exec fty dfl cmp lk xs mi (.multianewarray ix 2) 4 pc (fm_lo hp.length nL L) (st.map (fm_d hp.length)) (fm_ah hp H) k q = some (fm_ax hp nL x) ∧ fm_okx x := by
  unfold fx_mul2 at h
  split at h
  · rename_i y u r
    obtain ⟨h1, h⟩ := fm_bt h
    obtain ⟨h1, h6⟩ := fm_a2 h1
    obtain ⟨h1, h5⟩ := fm_a2 h1
    obtain ⟨h1, h4⟩ := fm_a2 h1
    obtain ⟨h1, h3⟩ := fm_a2 h1
    obtain ⟨h1, h2⟩ := fm_a2 h1
    have g3 : u / 8 ≤ 100 := Nat.le_of_ble_eq_true h3
    have g4 : y / 8 ≤ 100 := Nat.le_of_ble_eq_true h4
    have g5 : H.2.1 + 20000 < 524288 := Nat.le_of_ble_eq_true h5
    have g6 : H.1 < 65000 := Nat.le_of_ble_eq_true h6
    obtain ⟨i1, i2, i3⟩ := fm_ix_d (c := hp.length) h1
    obtain ⟨j1, j2, j3⟩ := fm_ix_d (c := hp.length) h2
    cases h
    have hmul : u / 8 * (y / 8) ≤ 100 * 100 := Nat.mul_le_mul g3 g4
    have e1 := fm_ah_al (hp := hp) (t := 103) (x := u / 8) (P := fm_refs (H.1 + 1) (u / 8)) hk (by omega) (by omega) (by omega)
    have e2 := fm_ok_al (t := 103) (x := u / 8) (P := fm_refs (H.1 + 1) (u / 8)) hk (by omega) (by omega) (by omega)
    obtain ⟨r1, r2⟩ := fm_rows_d (hp := hp) (y := y / 8) (by omega) (u / 8) (fm_al H 103 (u / 8) (fm_refs (H.1 + 1) (u / 8))) e2 (show H.2.1 + u / 8 + u / 8 * (y / 8) < 524288 by omega)
    refine ⟨?_, r2⟩
    show _ = am_go (pc + 4, fm_lo hp.length nL L, fm_d hp.length (8 * H.1 + 2) :: r.map (fm_d hp.length), fm_ah hp (fm_rows (y / 8) (u / 8) (fm_al H 103 (u / 8) (fm_refs (H.1 + 1) (u / 8)))), k + (1 + u / 8), q + (u / 8 + u / 8 * (y / 8)))
    have hrefs : ((List.range (u / 8)).map fun j => fm_d hp.length (fm_g (fm_refs (H.1 + 1) (u / 8)) j)) = (List.range (u / 8)).map fun j => Value.ref ((fm_ah hp H).length + 1 + j) := by
      apply List.map_congr_left
      intro j hj
      rw [List.mem_range] at hj
      rw [fm_refs_eq, fm_g_p _ (fun v hv => by
        obtain ⟨z, hz, rfl⟩ := List.mem_map.mp hv
        rw [List.mem_range] at hz
        omega), List.getD_eq_getElem?_getD, List.getElem?_map, List.getElem?_range hj, fm_ah_len]
      show fm_d hp.length (8 * (H.1 + 1 + j) + 2) = _
      rw [fm_d_ref, show hp.length + (H.1 + 1 + j) = hp.length + H.1 + 1 + j by omega]
    simp only [am_exec]
    rw [if_pos ⟨trivial, trivial⟩, hl]
    dsimp only
    rw [if_pos h11, List.map_cons, List.map_cons, i1, j1]
    dsimp only
    rw [if_neg (fun z => z.elim i2 j2), i3, j3, if_pos ⟨by omega, by omega⟩, r1, e1, hrefs, fm_ah_len, fm_d_ref, List.append_assoc]
    rfl
  · cases h
theorem fs_ask {j na rc ci : Nat} {kk : am_K} (hj : kk.2.1 = j) (hn : kk.2.2.1 = na) (hr : rc ≤ 2) (hci : rc = 2 → kk.2.2.2 = (ci : Int)) (hk : fm_ok H) (h : fx_ask j na rc ci pc L st H k q = some x) : am_ask kk rc pc (fm_lo hp.length nL L) (st.map (fm_d hp.length)) (fm_ah hp H) k q = some (fm_ax hp nL x) ∧ fm_okx x := by
  have hlen : ((st.map (fm_d hp.length)).take na).reverse = ((st.take na).reverse).map (fm_d hp.length) := by rw [List.map_reverse, List.map_take]
  have hdrop : (st.map (fm_d hp.length)).drop na = (st.drop na).map (fm_d hp.length) := by rw [List.map_drop]
  unfold fx_ask at h
  unfold am_ask
  rw [hj, hn, hlen, hdrop]
  split at h
  · obtain ⟨h1, h⟩ := fm_bt h
    obtain ⟨h1, h3⟩ := fm_a2 h1
    obtain ⟨h1, h2⟩ := fm_a2 h1
    have g3 : (st.take na).length = na := Nat.eq_of_beq_eq_true h3
    cases h
    refine ⟨?_, hk⟩
    dsimp only
    rw [if_pos (by rw [List.length_map, List.length_reverse]; exact g3), if_pos ⟨fm_small_d _ _ _ h1, by rw [List.map_reverse]; exact am_one_rev (fm_cat1_d _ _ h2)⟩]
    rfl
  · rename_i hne
    split at h
    · rename_i a r hst
      obtain ⟨h1, h⟩ := fm_bt h
      obtain ⟨hE, h6⟩ := fm_a2 h1
      obtain ⟨hD, h5⟩ := fm_a2 hE
      obtain ⟨hC, h4⟩ := fm_a2 hD
      obtain ⟨hB, h3⟩ := fm_a2 hC
      obtain ⟨hA, h2⟩ := fm_a2 hB
      have hne' : rc ≠ 0 := hne
      have g3 : (st.take na).length = na := Nat.eq_of_beq_eq_true h3
      have g5 : a / 8 < H.1 := Nat.le_of_ble_eq_true h5
      cases h
      refine ⟨?_, hk⟩
      dsimp only
      rw [if_pos (by rw [List.length_map, List.length_reverse]; exact g3), hst, List.map_cons, fm_rv_d h4]
      have hrc : rc = 1 ∨ ((fm_cell hp.length H.2.2.1 H.2.2.2 (a / 8)).1 : Int) = kk.2.2.2 := by
        rcases Bool.or_eq_true_iff.mp h6 with g | g
        · exact Or.inl (Nat.eq_of_beq_eq_true g)
        · have g : fm_tg H.2.2.1 (a / 8) = ci := Nat.eq_of_beq_eq_true g
          by_cases hr2 : rc = 2
          · right
            rw [fm_cell_tag, g, hci hr2]
          · left
            omega
      cases rc with
      | zero => exact absurd rfl hne
      | succ rc =>
        show (if am_cat (r.map (fm_d hp.length)) ≤ 8 ∧ am_one (((st.take na).reverse).map (fm_d hp.length)) = true then match (fm_ah hp H)[hp.length + a / 8]? with
          | some c => if rc + 1 = 1 ∨ (c.1 : Int) = kk.2.2.2 then some (Sum.inr (Sum.inr (j, Value.ref (hp.length + a / 8) :: ((st.take na).reverse).map (fm_d hp.length), (pc, fm_lo hp.length nL L, r.map (fm_d hp.length), fm_ah hp H, k, q)))) else none
          | none => none
          else none) = _
        rw [if_pos ⟨fm_small_d _ _ _ hA, by rw [List.map_reverse]; exact am_one_rev (fm_cat1_d _ _ h2)⟩, fm_ah_get g5]
        dsimp only
        rw [if_pos hrc]
        show _ = some (Sum.inr (Sum.inr (j, fm_d hp.length a :: ((st.take na).reverse).map (fm_d hp.length), fm_as hp nL (pc, L, r, H, k, q))))
        rw [fm_rv_d h4]
        rfl
    · cases h
theorem fs_mm {mx : Bool} {ix : Nat} {kk : am_K} (hl : lk (am_o mi) ix = some kk) (hm : kk.1 = (bif mx then 28 else 27)) (hf : 1 ≤ am_f mi) (hw : 21 ≤ am_w mi) (hk : fm_ok H) (h : fx_mm mx pc L st H k q = some x) : am_exec fty dfl cmp lk xs mi (.invokestatic ix) 3 pc (fm_lo hp.length nL L) (st.map (fm_d hp.length)) (fm_ah hp H) k q = some (fm_ax hp nL x) ∧ fm_okx x := by
  unfold fx_mm at h
  split at h
  · rename_i y u r
    obtain ⟨h1, h⟩ := fm_bt h
    obtain ⟨h1, h3⟩ := fm_a2 h1
    obtain ⟨h1, h2⟩ := fm_a2 h1
    have g3 := fm_small_d hp.length r 8 h3
    have lt1 : ∀ a b : Nat, fm_cnd 2 a b = decide (Int32.ofNat a < Int32.ofNat b) := fun a b => fm_cnd_eq .lt a b
    have hk1 : ¬ (kk.1 = 22 ∨ kk.1 = 23) := by rw [hm]; cases mx <;> decide
    have hk2 : kk.1 = 27 ∨ kk.1 = 28 := by rw [hm]; cases mx <;> decide
    have hw' : fm_d hp.length (bif mx then (bif fm_cnd 2 (Nat.div u 8) (Nat.div y 8) then y else u) else (bif fm_cnd 2 (Nat.div y 8) (Nat.div u 8) then y else u)) = .int (if kk.1 = 27 then (if Int32.ofNat (y / 8) < Int32.ofNat (u / 8) then Int32.ofNat (y / 8) else Int32.ofNat (u / 8)) else (if Int32.ofNat (u / 8) < Int32.ofNat (y / 8) then Int32.ofNat (y / 8) else Int32.ofNat (u / 8))) := by
      rw [lt1, lt1]
      cases mx with
      | true =>
        have hm : kk.1 = 28 := hm
        rw [cond_true, hm, if_neg (by decide)]
        by_cases hlt : Int32.ofNat (u / 8) < Int32.ofNat (y / 8)
        · rw [if_pos hlt, show decide (Int32.ofNat (Nat.div u 8) < Int32.ofNat (Nat.div y 8)) = true from decide_eq_true hlt, cond_true, fm_iv_d h1]
        · rw [if_neg hlt, show decide (Int32.ofNat (Nat.div u 8) < Int32.ofNat (Nat.div y 8)) = false from decide_eq_false hlt, cond_false, fm_iv_d h2]
      | false =>
        have hm : kk.1 = 27 := hm
        rw [cond_false, hm, if_pos rfl]
        by_cases hlt : Int32.ofNat (y / 8) < Int32.ofNat (u / 8)
        · rw [if_pos hlt, show decide (Int32.ofNat (Nat.div y 8) < Int32.ofNat (Nat.div u 8)) = true from decide_eq_true hlt, cond_true, fm_iv_d h1]
        · rw [if_neg hlt, show decide (Int32.ofNat (Nat.div y 8) < Int32.ofNat (Nat.div u 8)) = false from decide_eq_false hlt, cond_false, fm_iv_d h2]
    generalize (bif mx then (bif fm_cnd 2 (Nat.div u 8) (Nat.div y 8) then y else u) else (bif fm_cnd 2 (Nat.div y 8) (Nat.div u 8) then y else u)) = w at h hw'
    cases h
    refine ⟨?_, hk⟩
    show _ = am_go (pc + 3, fm_lo hp.length nL L, fm_d hp.length w :: r.map (fm_d hp.length), fm_ah hp H, k, q)
    simp only [am_exec]
    rw [if_pos trivial, hl]
    dsimp only
    rw [if_neg hk1, if_pos hk2, List.map_cons, List.map_cons, fm_iv_d h1, fm_iv_d h2, hw']
    dsimp only
    rw [if_pos ⟨hf, by omega⟩]
  · cases h
theorem fs_oin {ix : Nat} {kk : am_K} (hl : lk (am_o mi) ix = some kk) (hm : kk.1 = 26) (hf : 1 ≤ am_f mi) (hw : 20 ≤ am_w mi) (hk : fm_ok H) (h : fx_oin pc L st H k q = some x) : am_exec fty dfl cmp lk xs mi (.invokespecial ix) 3 pc (fm_lo hp.length nL L) (st.map (fm_d hp.length)) (fm_ah hp H) k q = some (fm_ax hp nL x) ∧ fm_okx x := by
  unfold fx_oin at h
  split at h
  · rename_i u r
    obtain ⟨h1, h⟩ := fm_bt h
    obtain ⟨h1, h3⟩ := fm_a2 h1
    have g3 := fm_small_d hp.length r 8 h3
    cases h
    refine ⟨?_, hk⟩
    simp only [am_exec]
    rw [if_pos trivial, hl]
    dsimp only
    rw [if_neg (by rw [hm]; decide), if_pos hm, List.map_cons, fm_rv_d h1]
    dsimp only
    rw [if_pos ⟨hf, by omega⟩]
    rfl
  · cases h
theorem fs_iret {bo : Nat} (hb : (bo = 0 ∧ am_r mi = some .int) ∨ (bo = 1 ∧ am_r mi = some .boolean)) (hk : fm_ok H) (h : fx_iret bo st H k q = some x) : am_exec fty dfl cmp lk xs mi .ireturn 1 pc (fm_lo hp.length nL L) (st.map (fm_d hp.length)) (fm_ah hp H) k q = some (fm_ax hp nL x) ∧ fm_okx x := by
  unfold fx_iret at h
  split at h
  · rename_i v
    obtain ⟨h1, h⟩ := fm_bt h
    obtain ⟨h1, h2⟩ := fm_a2 h1
    cases h
    refine ⟨?_, hk⟩
    show _ = some (Sum.inr (Sum.inl (Sum.inl (some (fm_d hp.length v)), fm_ah hp H, k, q)))
    have hb' : am_r mi = some .int ∨ (am_r mi = some .boolean ∧ am_bit (Int32.ofNat (v / 8)) = true) := by
      rcases hb with ⟨-, hb⟩ | ⟨rfl, hb⟩
      · exact Or.inl hb
      · right
        refine ⟨hb, ?_⟩
        have h2 : ((Nat.beq 1 0 || Nat.beq v 1) || Nat.beq v 9) = true := h2
        rcases Bool.or_eq_true_iff.mp h2 with g | g
        · rcases Bool.or_eq_true_iff.mp g with g | g
          · cases g
          · have g := Nat.eq_of_beq_eq_true g
            subst g
            rfl
        · have g := Nat.eq_of_beq_eq_true g
          subst g
          rfl
    simp only [am_exec]
    rw [if_pos trivial, List.map_cons, List.map_nil, fm_iv_d h1]
    dsimp only
    rw [if_pos hb']
  · cases h
theorem fs_aret {C : String} (hb : am_r mi = some (.object C)) (hk : fm_ok H) (h : fx_aret st H k q = some x) : am_exec fty dfl cmp lk xs mi .areturn 1 pc (fm_lo hp.length nL L) (st.map (fm_d hp.length)) (fm_ah hp H) k q = some (fm_ax hp nL x) ∧ fm_okx x := by
  unfold fx_aret at h
  split at h
  · rename_i v
    obtain ⟨h1, h⟩ := fm_bt h
    cases h
    refine ⟨?_, hk⟩
    show _ = some (Sum.inr (Sum.inl (Sum.inl (some (fm_d hp.length v)), fm_ah hp H, k, q)))
    simp only [am_exec]
    rw [if_pos trivial, List.map_cons, List.map_nil, fm_rv_d h1, hb]
  · cases h
theorem fs_vret (hb : am_r mi = none) (hk : fm_ok H) (h : fx_vret st H k q = some x) : am_exec fty dfl cmp lk xs mi .return_ 1 pc (fm_lo hp.length nL L) (st.map (fm_d hp.length)) (fm_ah hp H) k q = some (fm_ax hp nL x) ∧ fm_okx x := by
  unfold fx_vret at h
  split at h
  · cases h
    refine ⟨?_, hk⟩
    simp only [am_exec]
    rw [if_pos trivial, List.map_nil]
    dsimp only
    rw [if_pos hb]
    rfl
  · cases h
theorem fs_i2l (hk : fm_ok H) (h : fx_i2l pc L st H k q = some x) : am_exec fty dfl cmp lk xs mi .i2l 1 pc (fm_lo hp.length nL L) (st.map (fm_d hp.length)) (fm_ah hp H) k q = some (fm_ax hp nL x) ∧ fm_okx x := by
  unfold fx_i2l at h
  split at h
  · rename_i v r
    obtain ⟨h1, h⟩ := fm_bt h
    cases h
    refine ⟨?_, hk⟩
    show _ = am_go (pc + 1, fm_lo hp.length nL L, fm_d hp.length (8 * (v / 8) + 4) :: r.map (fm_d hp.length), fm_ah hp H, k, q)
    simp only [am_exec]
    rw [if_pos trivial, List.map_cons, fm_iv_d h1, fm_d4 (by omega), show (8 * (v / 8) + 4) / 8 = v / 8 by omega]
  · cases h
theorem fs_lcmp (hk : fm_ok H) (h : fx_lcmp pc L st H k q = some x) : am_exec fty dfl cmp lk xs mi .lcmp 1 pc (fm_lo hp.length nL L) (st.map (fm_d hp.length)) (fm_ah hp H) k q = some (fm_ax hp nL x) ∧ fm_okx x := by
  unfold fx_lcmp at h
  split at h
  · rename_i y u r
    obtain ⟨h1, h⟩ := fm_bt h
    obtain ⟨h1, h2⟩ := fm_a2 h1
    cases h
    refine ⟨?_, hk⟩
    show _ = am_go (pc + 1, fm_lo hp.length nL L, fm_d hp.length (fm_mk (fm_u (lg_cmp (Int32.ofNat (u / 8)).toInt64 (Int32.ofNat (y / 8)).toInt64))) :: r.map (fm_d hp.length), fm_ah hp H, k, q)
    simp only [am_exec]
    rw [if_pos trivial, List.map_cons, List.map_cons, fm_d4 (Nat.eq_of_beq_eq_true h1), fm_d4 (Nat.eq_of_beq_eq_true h2), fm_d_mk, fm_i_u]
  · cases h
theorem fs_dup (hk : fm_ok H) (h : fx_dup pc L st H k q = some x) : am_exec fty dfl cmp lk xs mi .dup 1 pc (fm_lo hp.length nL L) (st.map (fm_d hp.length)) (fm_ah hp H) k q = some (fm_ax hp nL x) ∧ fm_okx x := by
  unfold fx_dup at h
  split at h
  · rename_i v r
    obtain ⟨h1, h⟩ := fm_bf h
    cases h
    refine ⟨?_, hk⟩
    simp only [am_exec]
    rw [if_pos trivial, List.map_cons]
    dsimp only
    rw [if_pos (fm_d_cat _ _ h1)]
    rfl
  · cases h
theorem fs_dup2 (hk : fm_ok H) (h : fx_dup2 pc L st H k q = some x) : am_exec fty dfl cmp lk xs mi .dup2 1 pc (fm_lo hp.length nL L) (st.map (fm_d hp.length)) (fm_ah hp H) k q = some (fm_ax hp nL x) ∧ fm_okx x := by
  unfold fx_dup2 at h
  split at h
  · rename_i v w r
    obtain ⟨h1, h⟩ := fm_bf h
    obtain ⟨h1, h2⟩ := Bool.or_eq_false_iff.mp h1
    cases h
    refine ⟨?_, hk⟩
    simp only [am_exec]
    rw [if_pos trivial, List.map_cons, List.map_cons]
    dsimp only
    rw [if_pos ⟨fm_d_cat _ _ h1, fm_d_cat _ _ h2⟩]
    rfl
  · cases h
theorem fs_pop (hk : fm_ok H) (h : fx_pop pc L st H k q = some x) : am_exec fty dfl cmp lk xs mi .pop 1 pc (fm_lo hp.length nL L) (st.map (fm_d hp.length)) (fm_ah hp H) k q = some (fm_ax hp nL x) ∧ fm_okx x := by
  unfold fx_pop at h
  split at h
  · rename_i v r
    obtain ⟨h1, h⟩ := fm_bf h
    cases h
    refine ⟨?_, hk⟩
    simp only [am_exec]
    rw [if_pos trivial, List.map_cons]
    dsimp only
    rw [if_pos (fm_d_cat _ _ h1)]
    rfl
  · cases h
theorem fs_thr {ix ci : Nat} {kk : am_K} (hl : lk (am_o mi) ix = some kk) (h13 : kk.1 = 13) (hh : am_h mi = []) (hci : kk.2.1 = ci) (hc : ci < 128) (hT : ∃ X, am_thr lk mi kk pc [.int 0, .int 0, .int 0, .int 0] [] 0 0 = some X) (hk : fm_ok H) (h : fx_thr ci st H k q = some x) : am_exec fty dfl cmp lk xs mi (.new ix) 3 pc (fm_lo hp.length nL L) (st.map (fm_d hp.length)) (fm_ah hp H) k q = some (fm_ax hp nL x) ∧ fm_okx x := by
  unfold fx_thr at h
  obtain ⟨h1, h⟩ := fm_bt h
  obtain ⟨h1, h2⟩ := fm_a2 h1
  obtain ⟨m1, m2⟩ := fm_rm_d h2
  have g1 := fm_small_d hp.length st 4 h1
  cases h
  have e1 := fm_ah_al (hp := hp) (t := ci) (x := 0) (P := 0) hk hc (by omega) (by omega)
  have e2 := fm_ok_al (t := ci) (x := 0) (P := 0) hk hc (by omega) (by omega)
  refine ⟨?_, e2⟩
  obtain ⟨X, hT⟩ := hT
  obtain ⟨f1, f2, f3, is, ic, d, ks, kc, f4, f5, f6, f7, f8, f9, f10, f11, -⟩ := am_thr_inv hT
  have f2 : 100 + 4 ≤ am_w mi := f2
  simp only [am_exec]
  rw [if_pos trivial, hl]
  dsimp only
  rw [if_neg (by rw [h13]; decide), if_pos ⟨h13, hh⟩]
  unfold am_thr
  rw [if_pos ⟨f1, by omega, f3⟩]
  show _ = some (Sum.inr (Sum.inl (Sum.inr (hp.length + H.1), fm_ah hp (fm_al H ci 0 0), k + 1, q + 6)))
  rw [e1, ← hci]
  rcases f4 with ⟨rfl, f4⟩ | ⟨rfl, f4⟩
  · have f5 : am_ins (am_c mi) (pc + 6) = some (.invokespecial ic, 3) := f5
    have f6 : am_ins (am_c mi) (pc + 9) = some (.athrow, 1) := f6
    rw [f4]
    dsimp only
    rw [if_pos ⟨rfl, f6⟩, f5]
    dsimp only
    rw [if_pos rfl, f7, f8]
    dsimp only
    rw [if_pos ⟨f9, f10, f11⟩, fm_ah_len]
    rfl
  · have f5 : am_ins (am_c mi) (pc + 7) = some (.invokespecial ic, 3) := f5
    have f6 : am_ins (am_c mi) (pc + 10) = some (.athrow, 1) := f6
    rw [f4]
    dsimp only
    rw [if_pos ⟨rfl, f6⟩, f5]
    dsimp only
    rw [if_pos rfl, f7, f8]
    dsimp only
    rw [if_pos ⟨f9, f10, f11⟩, fm_ah_len]
    rfl
end FMD
