/-! ===== the fast machine's heap is the abstract machine's ===== -/
theorem fm_hdr {t x m : Nat} (ht : t < 128) (hx : x < 1024) (hm : m < 524288) : fm_g (Nat.add t (Nat.shiftLeft (Nat.add x (Nat.shiftLeft m 10)) 7)) 0 = t + (x + m * 1024) * 128 := by
  have e : Nat.add t (Nat.shiftLeft (Nat.add x (Nat.shiftLeft m 10)) 7) = t + (x + m * 1024) * 128 := by
    show t + (x + m <<< 10) <<< 7 = _
    rw [Nat.shiftLeft_eq, Nat.shiftLeft_eq]
  rw [e, fm_g_eq]
  simp only [Nat.mul_zero, Nat.pow_zero, Nat.div_one]
  exact Nat.mod_eq_of_lt (by omega)
theorem fm_tg_of {T k t x m : Nat} (ht : t < 128) (hx : x < 1024) (h : fm_g T k = t + (x + m * 1024) * 128) : fm_tg T k = t ∧ fm_ln T k = x ∧ fm_of T k = m := by
  refine ⟨?_, ?_, ?_⟩
  · show fm_g T k % 128 = t
    rw [h]
    omega
  · show (fm_g T k >>> 7) % 1024 = x
    rw [h, Nat.shiftRight_eq_div_pow]
    omega
  · show fm_g T k >>> 17 = m
    rw [h, Nat.shiftRight_eq_div_pow]
    omega
theorem fm_ah_len (hp : am_H) (H : fm_H) : (fm_ah hp H).length = hp.length + H.1 := by
  unfold fm_ah
  rw [List.length_append, List.length_map, List.length_range]
theorem fm_ah_get {hp : am_H} {H : fm_H} {a : Nat} (h : a < H.1) : (fm_ah hp H)[hp.length + a]? = some (fm_cell hp.length H.2.2.1 H.2.2.2 a) := by
  unfold fm_ah
  rw [List.getElem?_append_right (Nat.le_add_right _ _), Nat.add_sub_cancel_left, List.getElem?_map, List.getElem?_range h]
  rfl
theorem fm_ah_arr {hp : am_H} {H : fm_H} {a t : Nat} (h : a < H.1) (ht : fm_tg H.2.2.1 a = t) : am_arr (fm_ah hp H) (hp.length + a) t = some (fm_cell hp.length H.2.2.1 H.2.2.2 a).2 := by
  unfold am_arr
  rw [fm_ah_get h]
  show (if fm_tg H.2.2.1 a = t then _ else _) = _
  rw [if_pos ht]
theorem fm_cell_len (c T M a : Nat) : (fm_cell c T M a).2.length = fm_ln T a := by
  unfold fm_cell
  rw [List.length_map, List.length_range]
theorem fm_cell_get {c T M a i : Nat} (h : i < fm_ln T a) : (fm_cell c T M a).2[i]? = some (fm_d c (fm_g M (fm_of T a + i))) := by
  unfold fm_cell
  rw [List.getElem?_map, List.getElem?_range h]
  rfl
theorem fm_ok.apart {H : fm_H} (hk : fm_ok H) {a i b j : Nat} (ha : a < H.1) (hi : i < fm_ln H.2.2.1 a) (hb : b < H.1) (hj : j < fm_ln H.2.2.1 b) (h : fm_of H.2.2.1 a + i = fm_of H.2.2.1 b + j) : a = b ∧ i = j := by
  rcases Nat.lt_trichotomy a b with g | g | g
  · have := (hk b hb).2 a g
    omega
  · subst g
    exact ⟨rfl, by omega⟩
  · have := (hk a ha).2 b g
    omega
theorem fm_ah_set {hp : am_H} {H : fm_H} {a i v : Nat} (hk : fm_ok H) (ha : a < H.1) (hi : i < fm_ln H.2.2.1 a) (hv : v < 2 ^ 36) : fm_ah hp (fm_st H (fm_of H.2.2.1 a + i) v) = (fm_ah hp H).set (hp.length + a) (fm_tg H.2.2.1 a, (fm_cell hp.length H.2.2.1 H.2.2.2 a).2.set i (fm_d hp.length v)) := by
  obtain ⟨n, m, T, M⟩ := H
  unfold fm_ah fm_st
  dsimp only at *
  rw [List.set_append_right _ _ (Nat.le_add_right _ _), Nat.add_sub_cancel_left]
  congr 1
  apply List.ext_getElem?
  intro k
  rw [List.getElem?_map]
  by_cases hkn : k < n
  · rw [List.getElem?_range hkn, Option.map_some]
    by_cases hka : k = a
    · subst hka
      rw [List.getElem?_set_self (by rw [List.length_map, List.length_range]; exact hkn)]
      congr 1
      unfold fm_cell
      refine Prod.ext rfl ?_
      apply List.ext_getElem?
      intro j
      dsimp only
      by_cases hj : j < fm_ln T k
      · rw [List.getElem?_map, List.getElem?_range hj, Option.map_some]
        by_cases hji : j = i
        · subst hji
          rw [List.getElem?_set_self (by rw [List.length_map, List.length_range]; exact hj), fm_g_s hv, if_pos rfl]
        · rw [List.getElem?_set_ne (Ne.symm hji), List.getElem?_map, List.getElem?_range hj, Option.map_some, fm_g_s hv, if_neg (by omega)]
      · rw [List.getElem?_eq_none (by simp; omega), List.getElem?_eq_none (by simp; omega)]
    · rw [List.getElem?_set_ne (Ne.symm hka), List.getElem?_map, List.getElem?_range hkn, Option.map_some]
      congr 1
      unfold fm_cell
      refine Prod.ext rfl ?_
      apply List.map_congr_left
      intro j hj
      rw [List.mem_range] at hj
      rw [fm_g_s hv, if_neg]
      intro he
      exact hka (hk.apart hkn hj ha hi he).1
  · rw [List.getElem?_eq_none (by simp; omega), List.getElem?_eq_none (by simp; omega)]
    rfl
theorem fm_al_at {H : fm_H} {t x P : Nat} (ht : t < 128) (hx : x < 1024) (hm : H.2.1 < 524288) (k : Nat) (hk : k < H.1 + 1) : fm_tg (fm_al H t x P).2.2.1 k = (if k < H.1 then fm_tg H.2.2.1 k else t) ∧ fm_ln (fm_al H t x P).2.2.1 k = (if k < H.1 then fm_ln H.2.2.1 k else x) ∧ fm_of (fm_al H t x P).2.2.1 k = (if k < H.1 then fm_of H.2.2.1 k else H.2.1) := by
  have g : fm_g (fm_al H t x P).2.2.1 k = if k < H.1 then fm_g H.2.2.1 k else fm_g (Nat.add t (Nat.shiftLeft (Nat.add x (Nat.shiftLeft H.2.1 10)) 7)) (k - H.1) := fm_g_b _ _ _ _
  by_cases hl : k < H.1
  · rw [if_pos hl] at g
    rw [if_pos hl, if_pos hl, if_pos hl]
    unfold fm_tg fm_ln fm_of
    rw [g]
    exact ⟨rfl, rfl, rfl⟩
  · have hke : k - H.1 = 0 := by omega
    rw [if_neg hl, hke, fm_hdr ht hx hm] at g
    rw [if_neg hl, if_neg hl, if_neg hl]
    exact fm_tg_of ht hx g
theorem fm_ok_al {H : fm_H} {t x P : Nat} (hk : fm_ok H) (ht : t < 128) (hx : x < 1024) (hm : H.2.1 < 524288) : fm_ok (fm_al H t x P) := by
  intro k hkn
  have hkn : k < H.1 + 1 := hkn
  have e : (fm_al H t x P).2.1 = H.2.1 + x := rfl
  obtain ⟨-, b1, c1⟩ := fm_al_at (P := P) ht hx hm k hkn
  rw [b1, c1, e]
  refine ⟨?_, fun j hj => ?_⟩
  · split
    · rename_i hl
      have := (hk k hl).1
      omega
    · omega
  · obtain ⟨-, b2, c2⟩ := fm_al_at (P := P) ht hx hm j (by omega)
    rw [b2, c2]
    rw [if_pos (by omega), if_pos (by omega)]
    split
    · rename_i hl
      exact (hk k hl).2 j hj
    · exact (hk j (by omega)).1
theorem fm_ah_al {hp : am_H} {H : fm_H} {t x P : Nat} (hk : fm_ok H) (ht : t < 128) (hx : x < 1024) (hm : H.2.1 < 524288) : fm_ah hp (fm_al H t x P) = fm_ah hp H ++ [(t, (List.range x).map fun j => fm_d hp.length (fm_g P j))] := by
  unfold fm_ah
  rw [List.append_assoc]
  congr 1
  have e : (fm_al H t x P).1 = H.1 + 1 := rfl
  rw [e, List.range_succ, List.map_append]
  congr 1
  · apply List.map_congr_left
    intro k hkn
    rw [List.mem_range] at hkn
    obtain ⟨a1, b1, c1⟩ := fm_al_at (P := P) ht hx hm k (by omega)
    rw [if_pos hkn] at a1 b1 c1
    unfold fm_cell
    rw [a1, b1, c1]
    refine Prod.ext rfl ?_
    apply List.map_congr_left
    intro j hj
    rw [List.mem_range] at hj
    have hM : fm_g (fm_al H t x P).2.2.2 (fm_of H.2.2.1 k + j) = _ := fm_g_b H.2.2.2 H.2.1 P _
    have := (hk k hkn).1
    rw [hM, if_pos (by omega)]
  · obtain ⟨a1, b1, c1⟩ := fm_al_at (P := P) ht hx hm H.1 (by omega)
    rw [if_neg (Nat.lt_irrefl _)] at a1 b1 c1
    show [fm_cell hp.length (fm_al H t x P).2.2.1 (fm_al H t x P).2.2.2 H.1] = _
    unfold fm_cell
    rw [a1, b1, c1]
    congr 1
    refine Prod.ext rfl ?_
    apply List.map_congr_left
    intro j _
    have hM : fm_g (fm_al H t x P).2.2.2 (H.2.1 + j) = _ := fm_g_b H.2.2.2 H.2.1 P _
    rw [hM, if_neg (by omega), Nat.add_sub_cancel_left]
theorem fm_rp_eq (d x : Nat) : fm_rp d x = fm_p (List.replicate x d) := by
  induction x with
  | zero => rfl
  | succ x ih =>
    rw [List.replicate_succ]
    show Nat.add d (Nat.shiftLeft (fm_rp d x) 36) = Nat.add d (Nat.shiftLeft (fm_p (List.replicate x d)) 36)
    rw [ih]
theorem fm_rp_map {c d x : Nat} (hd : d < 2 ^ 36) : ((List.range x).map fun j => fm_d c (fm_g (fm_rp d x) j)) = List.replicate x (fm_d c d) := by
  apply List.ext_getElem?
  intro j
  by_cases hj : j < x
  · rw [List.getElem?_map, List.getElem?_range hj, Option.map_some, List.getElem?_replicate, if_pos hj, fm_rp_eq, fm_g_p _ (fun v hv => by rw [(List.mem_replicate.mp hv).2]; exact hd)]
    simp [hj]
  · rw [List.getElem?_eq_none (by simp; omega), List.getElem?_eq_none (by simp; omega)]
theorem fm_refs_eq (a x : Nat) : fm_refs a x = fm_p ((List.range x).map fun j => 8 * (a + j) + 2) := by
  induction x generalizing a with
  | zero => rfl
  | succ x ih =>
    rw [List.range_succ_eq_map, List.map_cons, List.map_map]
    show Nat.add (8 * a + 2) (Nat.shiftLeft (fm_refs (a + 1) x) 36) = Nat.add (8 * (a + 0) + 2) (Nat.shiftLeft (fm_p ((List.range x).map ((fun j => 8 * (a + j) + 2) ∘ Nat.succ))) 36)
    rw [ih]
    congr 4
    funext j
    show 8 * (a + 1 + j) + 2 = 8 * (a + (j + 1)) + 2
    omega
theorem fm_d1 {c v : Nat} (h : v % 8 = 1) : fm_d c v = .int (Int32.ofNat (v / 8)) := by
  unfold fm_d
  rw [h]
  rfl
theorem fm_d2 {c v : Nat} (h : v % 8 = 2) : fm_d c v = .ref (c + v / 8) := by
  unfold fm_d
  rw [h]
  rfl
theorem fm_d3 {c v : Nat} (h : v % 8 = 3) : fm_d c v = .null := by
  unfold fm_d
  rw [h]
  rfl
theorem fm_d4 {c v : Nat} (h : v % 8 = 4) : fm_d c v = .long (Int32.ofNat (v / 8)).toInt64 := by
  unfold fm_d
  rw [h]
  rfl
theorem fm_d5 {c v : Nat} (h : v % 8 = 5) : fm_d c v = .retAddr (v / 8 + 1) := by
  unfold fm_d
  rw [h]
  rfl
theorem fm_d6 {c v : Nat} (h : v % 8 = 6) : fm_d c v = .retAddr 0 := by
  unfold fm_d
  rw [h]
  rfl
theorem fm_d7 {c v : Nat} (h : v % 8 = 7) : fm_d c v = .null := by
  unfold fm_d
  rw [h]
  rfl
theorem fm_d_ref (c a : Nat) : fm_d c (8 * a + 2) = .ref (c + a) := by
  rw [fm_d2 (by omega), show (8 * a + 2) / 8 = a by omega]
theorem fm_d_int (c u : Nat) : fm_d c (8 * u + 1) = .int (Int32.ofNat u) := by
  rw [fm_d1 (by omega), show (8 * u + 1) / 8 = u by omega]
theorem fm_d_mk (c u : Nat) : fm_d c (fm_mk u) = .int (Int32.ofNat u) := by
  show fm_d c (8 * (u % 4294967296) + 1) = _
  rw [fm_d_int, fm_i_mod]
theorem fm_mk_sm (u : Nat) : fm_mk u < 2 ^ 36 := by
  show 8 * (u % 4294967296) + 1 < 2 ^ 36
  omega
theorem fm_iv_d {c v : Nat} (h : fm_iv v = true) : fm_d c v = .int (Int32.ofNat (v / 8)) := fm_d1 (Nat.eq_of_beq_eq_true h)
theorem fm_rv_d {c v : Nat} (h : fm_rv v = true) : fm_d c v = .ref (c + v / 8) := fm_d2 (Nat.eq_of_beq_eq_true h)
theorem fm_lo_len (c nL L : Nat) : (fm_lo c nL L).length = nL := by
  unfold fm_lo
  rw [List.length_map, List.length_range]
theorem fm_lo_get {c nL L j : Nat} (h : j < nL) : (fm_lo c nL L)[j]? = some (fm_dl c (fm_g L j)) := by
  unfold fm_lo
  rw [List.getElem?_map, List.getElem?_range h]
  rfl
theorem fm_lo_set {c nL L j v : Nat} (hv : v < 2 ^ 36) (h0 : v ≠ 0) : fm_lo c nL (fm_s L j v) = (fm_lo c nL L).set j (some (fm_d c v)) := by
  apply List.ext_getElem?
  intro i
  by_cases hi : i < nL
  · rw [fm_lo_get hi, fm_g_s hv]
    by_cases hij : i = j
    · subst hij
      rw [if_pos rfl, List.getElem?_set_self (by rw [fm_lo_len]; exact hi)]
      unfold fm_dl
      rw [if_neg h0]
    · rw [if_neg hij, List.getElem?_set_ne (Ne.symm hij), fm_lo_get hi]
  · rw [List.getElem?_eq_none (by rw [fm_lo_len]; omega), List.getElem?_eq_none (by rw [List.length_set, fm_lo_len]; omega)]
theorem fm_lo_p {c nL : Nat} {as : List Nat} (hl : as.length ≤ nL) (hs : ∀ v ∈ as, v < 2 ^ 36 ∧ v ≠ 0) : fm_lo c nL (fm_p as) = (as.map (fm_d c)).map some ++ List.replicate (nL - as.length) none := by
  apply List.ext_getElem?
  intro i
  by_cases hi : i < nL
  · rw [fm_lo_get hi, fm_g_p _ (fun v hv => (hs v hv).1)]
    by_cases hia : i < as.length
    · rw [List.getElem?_append_left (by simp; exact hia), List.getElem?_map, List.getElem?_map, List.getElem?_eq_getElem hia]
      rw [List.getD_eq_getElem?_getD, List.getElem?_eq_getElem hia]
      show some (fm_dl c as[i]) = _
      unfold fm_dl
      rw [if_neg (hs _ (List.getElem_mem hia)).2]
      rfl
    · rw [List.getElem?_append_right (by simp; omega), List.getElem?_replicate, if_pos (by simp; omega)]
      rw [List.getD_eq_getElem?_getD, List.getElem?_eq_none (by omega)]
      rfl
  · rw [List.getElem?_eq_none (by rw [fm_lo_len]; omega), List.getElem?_eq_none (by simp; omega)]
