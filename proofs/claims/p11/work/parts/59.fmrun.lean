/-! ===== a run of the fast machine is a run of the abstract machine ===== -/
section FMRUN
variable (fty : Nat → Nat → Option FieldType) (dfl : Nat → Option (List Value)) (lk : Nat → Nat → Option am_K) (tl : List Nat)
/-- is the code of the fast machine the method's -/
def fm_mck (mi : am_M) (mf : fm_M) : Bool := decide (mf.2.2.1 = am_L mi ∧ mf.2.2.2.1 = am_f mi ∧ mf.2.2.2.2.1 = am_w mi ∧ mf.2.2.2.2.2 = am_h mi) && ((List.range mf.2.1).all fun pc => Nat.beq (fm_w0 (fm_w mf.1 pc)) 0 || (match am_ins (am_c mi) pc with
    | some (i, n) => fm_ck fty dfl lk tl mi pc i n (fm_w0 (fm_w mf.1 pc)) (fm_w1 (fm_w mf.1 pc)) (fm_w2 (fm_w mf.1 pc)) (fm_w3 (fm_w mf.1 pc)) (fm_w4 (fm_w mf.1 pc))
    | none => false)) && ((am_h mi).isEmpty || (am_c mi).all fun x => match x.2.1 with
    | .invokevirtual ix => match lk (am_o mi) ix with
      | some kk => Nat.beq kk.1 20
      | none => true
    | _ => true)
theorem fm_mck_d {mi : am_M} {mf : fm_M} (h : fm_mck fty dfl lk tl mi mf = true) : (mf.2.2.1 = am_L mi ∧ mf.2.2.2.1 = am_f mi ∧ mf.2.2.2.2.1 = am_w mi ∧ mf.2.2.2.2.2 = am_h mi) ∧ (∀ pc, pc < mf.2.1 → fm_w0 (fm_w mf.1 pc) ≠ 0 → ∃ i n, am_ins (am_c mi) pc = some (i, n) ∧ fm_ck fty dfl lk tl mi pc i n (fm_w0 (fm_w mf.1 pc)) (fm_w1 (fm_w mf.1 pc)) (fm_w2 (fm_w mf.1 pc)) (fm_w3 (fm_w mf.1 pc)) (fm_w4 (fm_w mf.1 pc)) = true) ∧ (am_h mi ≠ [] → ∀ pc ix n kk, am_ins (am_c mi) pc = some (.invokevirtual ix, n) → lk (am_o mi) ix = some kk → kk.1 = 20) := by
  obtain ⟨h1, h3⟩ := fm_a2 h
  obtain ⟨h1, h2⟩ := fm_a2 h1
  refine ⟨of_decide_eq_true h1, fun pc hpc h0 => ?_, fun hne pc ix n kk hi hl => ?_⟩
  · have := List.all_eq_true.mp h2 pc (List.mem_range.mpr hpc)
    rcases Bool.or_eq_true_iff.mp this with g | g
    · exact absurd (Nat.eq_of_beq_eq_true g) h0
    · split at g
      · rename_i i n hi
        exact ⟨i, n, hi, g⟩
      · cases g
  · rcases Bool.or_eq_true_iff.mp h3 with g | g
    · exact absurd (List.isEmpty_iff.mp g) hne
    · have := List.all_eq_true.mp g _ (am_ins_mem hi)
      dsimp only at this
      rw [hl] at this
      exact Nat.eq_of_beq_eq_true this
variable {fty dfl lk tl}
variable {cmp : Nat → Option (Option Nat)} {bl : Nat → Nat} {cx : Nat → Option Nat} {fms : Nat → Option fm_M} {ms : Nat → Option am_M} {hp : am_H}
theorem fm_ck_iv {mi : am_M} {pc n a b d : Nat} {i : Instr} (h : fm_ck fty dfl lk tl mi pc i n 40 a b 2 d = true) : ∃ ix, i = .invokevirtual ix := by
  cases i
  case invokevirtual ix => exact ⟨ix, rfl⟩
  case newarray ty => exfalso; cases ty <;> simp [fm_ck] at h
  all_goals (exfalso; simp only [fm_ck] at h)
  all_goals (first | (cases h; done) | skip)
  all_goals (repeat' (split at h))
  all_goals (first | (cases h; done) | (simp at h; done))
theorem fm_ask_pc {mi : am_M} {xs : am_O} {i : Instr} {n pc k q : Nat} {lo : List (Option Value)} {st : List Value} {h : am_H} {j : Nat} {as : List Value} {S : am_S} (he : am_exec fty dfl cmp lk xs mi i n pc lo st h k q = some (.inr (.inr (j, as, S)))) : S.1 = pc := by
  rcases am_exec_inr he with ⟨ix, kf, rc, -, -, hask, -⟩ | ⟨-, ⟨-, x, -, -, hY⟩ | ⟨-, a, C, -, -, hY⟩ | ⟨-, -, -, hY⟩⟩ | ⟨ix, kf, -, -, -, -, -, hthr⟩
  · obtain ⟨as0, r0, -, -, -, ⟨-, -, hX0⟩ | ⟨-, a, c0, -, -, -, hX0⟩⟩ := am_ask_inv hask <;> cases hX0 <;> rfl
  · cases hY
  · cases hY
  · cases hY
  · obtain ⟨-, -, -, is, ic, d, ks, kc, -, -, -, -, -, -, -, -, hX0⟩ := am_thr_inv hthr
    cases hX0
theorem fm_run_ok (hcmp : ∀ t, 103 ≤ t → t ≤ 106 → (cmp t).isSome = true) (hbl : ∀ ci vs, dfl ci = some vs → ((List.range vs.length).map fun j => fm_d hp.length (fm_g (bl ci) j)) = vs) (hms : ∀ j mf, fms j = some mf → ∃ mi, ms j = some mi ∧ fm_mck fty dfl lk tl mi mf = true) : ∀ (f : Nat) (xs : am_O) (mi : am_M) (mf : fm_M) (S : fm_S) (r : fm_R), fm_mck fty dfl lk tl mi mf = true → fm_ok S.2.2.2.1 → fm_run cmp tl bl cx fms f xs mf S = some r → am_run fty dfl cmp lk ms cx xs f mi (fm_as hp (am_L mi) S) = some (fm_ar hp r) ∧ fm_ok r.2.1
  | 0, xs, mi, mf, S, r, _, _, h => by cases h
  | f + 1, xs, mi, mf, S, r, hm, hk, h => by
    have ih := fm_run_ok hcmp hbl hms f
    obtain ⟨⟨d1, d2, d3, d4⟩, hcode, hcat⟩ := fm_mck_d fty dfl lk tl hm
    obtain ⟨pc, L, st, H, k, q⟩ := S
    have h : (bif Nat.blt pc mf.2.1 then fm_k0 cx fms (fm_run cmp tl bl cx fms f) xs mf (fm_sp cmp tl bl xs (fm_w mf.1 pc) pc L st H k q) else none) = some r := h
    obtain ⟨hpc, h⟩ := fm_bt h
    have hpc : pc < mf.2.1 := Nat.le_of_ble_eq_true hpc
    generalize hX : fm_sp cmp tl bl xs (fm_w mf.1 pc) pc L st H k q = X at h
    cases X with
    | none => cases h
    | some x =>
      have hX : fm_ex cmp tl bl xs (fm_w0 (fm_w mf.1 pc)) (fm_w1 (fm_w mf.1 pc)) (fm_w2 (fm_w mf.1 pc)) (fm_w3 (fm_w mf.1 pc)) (fm_w4 (fm_w mf.1 pc)) pc L st H k q = some x := hX
      have hop : fm_w0 (fm_w mf.1 pc) ≠ 0 := fun e => by
        rw [e] at hX
        exact nomatch (show (none : fm_X) = some x from hX)
      obtain ⟨i, n, hins, hck⟩ := hcode pc hpc hop
      obtain ⟨hex, hokx⟩ := fm_exec_ok (hp := hp) hcmp hbl hck hk hX
      have hstep : am_step fty dfl cmp lk xs mi (fm_as hp (am_L mi) (pc, L, st, H, k, q)) = some (fm_ax hp (am_L mi) x) := by
        unfold am_step
        show (match am_ins (am_c mi) pc with
          | some (i, n) => am_exec fty dfl cmp lk xs mi i n pc (fm_lo hp.length (am_L mi) L) (st.map (fm_d hp.length)) (fm_ah hp H) k q
          | none => none) = _
        rw [hins]
        exact hex
      unfold am_run
      rw [hstep]
      match x, h, hokx, hex with
      | .inl S', h, hokx, _ => exact ih xs mi mf S' r hm hokx h
      | .inr (.inl r'), h, hokx, _ =>
        have h : some r' = some r := h
        cases h
        exact ⟨rfl, hokx⟩
      | .inr (.inr (j, as, (pc', L', st', H', k', q'))), h, hokx, hex =>
        have hpc' : pc' = pc := fm_ask_pc hex
        have h : (match fms j with
          | some mj => fm_k2 cx (fm_run cmp tl bl cx fms f) xs mf as (pc', L', st', H', k', q') mj
          | none => none) = some r := h
        split at h
        · rename_i mj hj
          obtain ⟨mj', hmj, hmk⟩ := hms j mj hj
          obtain ⟨⟨c1, c2, c3, c4⟩, -, -⟩ := fm_mck_d fty dfl lk tl hmk
          unfold fm_k2 at h
          obtain ⟨hc, h⟩ := fm_bt h
          obtain ⟨hc, hall⟩ := fm_a2 hc
          obtain ⟨hc, hlen⟩ := fm_a2 hc
          obtain ⟨hfr, hwo⟩ := fm_a2 hc
          have hfr : mj.2.2.2.1 + 1 ≤ mf.2.2.2.1 := Nat.le_of_ble_eq_true hfr
          have hwo : 8 + (mj.2.2.1 + 11) + mj.2.2.2.2.1 ≤ mf.2.2.2.2.1 := Nat.le_of_ble_eq_true hwo
          have hlen : as.length ≤ mj.2.2.1 := Nat.le_of_ble_eq_true hlen
          rw [c2, d2] at hfr
          rw [c1, c3, d3] at hwo
          rw [c1] at hlen
          have hsm : ∀ v ∈ as, v < 2 ^ 36 ∧ v ≠ 0 := fun v hv => fm_sm_d (List.all_eq_true.mp hall v hv)
          split at h
          · rename_i r2 hr2
            obtain ⟨hcall, hok2⟩ := ih (none, xs.2) mj' mj (0, fm_p as, [], H', 0, 0) r2 hmk hokx hr2
            have hent : fm_as hp (am_L mj') (0, fm_p as, [], H', 0, 0) = (0, (as.map (fm_d hp.length)).map some ++ List.replicate (am_L mj' - (as.map (fm_d hp.length)).length) none, [], fm_ah hp H', 0, 0) := by
              show (0, fm_lo hp.length (am_L mj') (fm_p as), _, _, _, _) = _
              rw [fm_lo_p hlen hsm, List.length_map]
              rfl
            rw [hent] at hcall
            show (match ms j with
              | none => none
              | some mj => if am_f mj + 1 ≤ am_f mi ∧ 8 + (am_L mj + 11) + am_w mj ≤ am_w mi ∧ (as.map (fm_d hp.length)).length ≤ am_L mj then match am_run fty dfl cmp lk ms cx (none, xs.2) f mj (0, (as.map (fm_d hp.length)).map some ++ List.replicate (am_L mj - (as.map (fm_d hp.length)).length) none, [], fm_ah hp H', 0, 0) with
                | some (.inl v, h', k2, q2) => am_run fty dfl cmp lk ms cx xs f mi (pc' + 3, fm_lo hp.length (am_L mi) L', v.toList ++ st'.map (fm_d hp.length), h', k' + k2, q' + q2)
                | some (.inr x, h', k2, q2) => match am_ins (am_c mi) pc' with
                  | some (.invokevirtual ix, _) => match lk (am_o mi) ix, h'[x]? with
                    | some kk, some c => if kk.1 = 20 then match am_catch cx (am_h mi) pc' c.1 with
                      | some t => am_run fty dfl cmp lk ms cx xs f mi (t, fm_lo hp.length (am_L mi) L', [.ref x], h', k' + k2, q' + q2)
                      | none => none
                      else none
                    | _, _ => none
                  | _ => none
                | none => none
                else none) = _ ∧ _
            rw [hmj]
            dsimp only
            rw [if_pos ⟨hfr, hwo, by rw [List.length_map]; exact hlen⟩, hcall]
            obtain ⟨v | x, H2, k2, q2⟩ := r2
            · have h : fm_run cmp tl bl cx fms f xs mf (pc' + 3, L', v.toList ++ st', H2, k' + k2, q' + q2) = some r := h
              have e := ih xs mi mf _ r hm hok2 h
              have e2 : fm_as hp (am_L mi) (pc' + 3, L', v.toList ++ st', H2, k' + k2, q' + q2) = (pc' + 3, fm_lo hp.length (am_L mi) L', (v.map (fm_d hp.length)).toList ++ st'.map (fm_d hp.length), fm_ah hp H2, k' + k2, q' + q2) := by
                show (_, _, (v.toList ++ st').map (fm_d hp.length), _, _, _) = _
                rw [List.map_append]
                cases v <;> rfl
              rw [e2] at e
              exact e
            · have h : (bif Nat.blt x H2.1 && Nat.beq (fm_w0 (fm_w mf.1 pc')) 40 && Nat.beq (fm_w3 (fm_w mf.1 pc')) 2 then (match am_catch cx mf.2.2.2.2.2 pc' (fm_tg H2.2.2.1 x) with
                | some t => fm_run cmp tl bl cx fms f xs mf (t, L', [Nat.add (Nat.mul 8 x) 2], H2, k' + k2, q' + q2)
                | none => none) else none) = some r := h
              obtain ⟨hc2, h⟩ := fm_bt h
              obtain ⟨hc2, hrc⟩ := fm_a2 hc2
              obtain ⟨hxl, h40⟩ := fm_a2 hc2
              have hxl : x < H2.1 := Nat.le_of_ble_eq_true hxl
              have h40 := Nat.eq_of_beq_eq_true h40
              have hrc := Nat.eq_of_beq_eq_true hrc
              rw [hpc'] at h40 hrc
              rw [h40, hrc] at hck
              obtain ⟨ix, rfl⟩ := fm_ck_iv hck
              have hck' := hck
              simp only [fm_ck] at hck'
              split at hck'
              · rename_i kk hl
                split at h
                · rename_i t ht
                  rw [d4] at ht
                  have hne : am_h mi ≠ [] := fun e => by rw [e] at ht; cases ht
                  have h20 := hcat hne pc ix n kk hins hl
                  show (match am_ins (am_c mi) pc' with
                    | some (.invokevirtual ix, _) => match lk (am_o mi) ix, (fm_ah hp H2)[hp.length + x]? with
                      | some kk, some c => if kk.1 = 20 then match am_catch cx (am_h mi) pc' c.1 with
                        | some t => am_run fty dfl cmp lk ms cx xs f mi (t, fm_lo hp.length (am_L mi) L', [.ref (hp.length + x)], fm_ah hp H2, k' + k2, q' + q2)
                        | none => none
                        else none
                      | _, _ => none
                    | _ => none) = _ ∧ _
                  rw [hpc', hins]
                  dsimp only
                  rw [hl, fm_ah_get hxl]
                  dsimp only
                  rw [if_pos h20]
                  rw [hpc'] at ht
                  rw [fm_cell_tag, ht]
                  have e := ih xs mi mf _ r hm hok2 h
                  have e2 : fm_as hp (am_L mi) (t, L', [Nat.add (Nat.mul 8 x) 2], H2, k' + k2, q' + q2) = (t, fm_lo hp.length (am_L mi) L', [.ref (hp.length + x)], fm_ah hp H2, k' + k2, q' + q2) := by
                    show (_, _, [fm_d hp.length (8 * x + 2)], _, _, _) = _
                    rw [fm_d_ref]
                  rw [e2] at e
                  exact e
                · cases h
              · cases hck'
          · cases h
        · cases h
end FMRUN
