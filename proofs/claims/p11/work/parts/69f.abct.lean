/-! ===== a unit that is checked keeps its contract ===== -/
section ABZ
variable {fty : Nat → Nat → Option FieldType} {dfl : Nat → Option (List Value)} {cmp : Nat → Option (Option Nat)} {lk : Nat → Nat → Option am_K} {ms : Nat → Option am_M} {cx : Nat → Option Nat}
variable {kd : Nat → Nat × Nat} {un uq : Nat → Bool} {Gm : Nat → Nat → List ab_V} {tls : Nat → List Nat} {wms : Nat → Option fm_M} {Ct : Nat → List ab_V → List ab_C} {cr : Nat → Nat → List (List ab_F)}
variable {τ u : Nat → Nat} {tv : Nat} {K : am_H → Prop} {P0 P1 : am_H → Nat}
theorem ab_run1 {xs : am_O} {mi : am_M} {S S' : am_S} {f : Nat} {r : am_R} (hs : am_step fty dfl cmp lk xs mi S = some (.inl S')) (hr : am_run fty dfl cmp lk ms cx xs f mi S' = some r) : am_run fty dfl cmp lk ms cx xs (f + 1) mi S = some r := by
  unfold am_run
  rw [hs]
  exact hr
theorem ab_rune {xs : am_O} {mi : am_M} {S : am_S} {r : am_R} (hs : am_step fty dfl cmp lk xs mi S = some (.inr (.inl r))) : am_run fty dfl cmp lk ms cx xs 1 mi S = some r := by
  unfold am_run
  rw [hs]
theorem ab_runc {mi mj : am_M} {S : am_S} {j pc k q k' q' f1 f2 : Nat} {as : List Value} {lo : List (Option Value)} {st : List Value} {h h' : am_H} {v : Option Value} {r : am_R} (hs : am_step fty dfl cmp lk am_o0 mi S = some (.inr (.inr (j, as, (pc, lo, st, h, k, q))))) (hj : ms j = some mj) (hroom : am_f mj + 1 ≤ am_f mi ∧ 8 + (am_L mj + 11) + am_w mj ≤ am_w mi ∧ as.length ≤ am_L mj) (h1 : am_run fty dfl cmp lk ms cx am_o0 f1 mj (0, as.map some ++ List.replicate (am_L mj - as.length) none, [], h, 0, 0) = some (.inl v, h', k', q')) (h2 : am_run fty dfl cmp lk ms cx am_o0 f2 mi (pc + 3, lo, v.toList ++ st, h', k + k', q + q') = some r) : am_run fty dfl cmp lk ms cx am_o0 (f1 + f2 + 1) mi S = some r := by
  unfold am_run
  rw [hs]
  dsimp only
  rw [hj]
  dsimp only
  rw [if_pos hroom]
  have e1 := am_mono h1 (Nat.le_add_right f1 f2)
  have e2 := am_mono h2 (Nat.le_add_left f2 f1)
  have e1 : am_run fty dfl cmp lk ms cx (none, am_o0.2) (f1 + f2) mj (0, as.map some ++ List.replicate (am_L mj - as.length) none, [], h, 0, 0) = some (.inl v, h', k', q') := e1
  rw [e1]
  exact e2
theorem ab_runx {mi mj : am_M} {S : am_S} {j pc k q k' q' f1 f2 x t ix n : Nat} {as : List Value} {lo : List (Option Value)} {st : List Value} {h h' : am_H} {r : am_R} {kk : am_K} {c : am_C} (hs : am_step fty dfl cmp lk am_o0 mi S = some (.inr (.inr (j, as, (pc, lo, st, h, k, q))))) (hj : ms j = some mj) (hroom : am_f mj + 1 ≤ am_f mi ∧ 8 + (am_L mj + 11) + am_w mj ≤ am_w mi ∧ as.length ≤ am_L mj) (h1 : am_run fty dfl cmp lk ms cx am_o0 f1 mj (0, as.map some ++ List.replicate (am_L mj - as.length) none, [], h, 0, 0) = some (.inr x, h', k', q')) (hi : am_ins (am_c mi) pc = some (.invokevirtual ix, n)) (hl : lk (am_o mi) ix = some kk) (h20 : kk.1 = 20) (hx : h'[x]? = some c) (hc : am_catch cx (am_h mi) pc c.1 = some t) (h2 : am_run fty dfl cmp lk ms cx am_o0 f2 mi (t, lo, [.ref x], h', k + k', q + q') = some r) : am_run fty dfl cmp lk ms cx am_o0 (f1 + f2 + 1) mi S = some r := by
  unfold am_run
  rw [hs]
  dsimp only
  rw [hj]
  dsimp only
  rw [if_pos hroom]
  have e1 := am_mono h1 (Nat.le_add_right f1 f2)
  have e2 := am_mono h2 (Nat.le_add_left f2 f1)
  have e1 : am_run fty dfl cmp lk ms cx (none, am_o0.2) (f1 + f2) mj (0, as.map some ++ List.replicate (am_L mj - as.length) none, [], h, 0, 0) = some (.inr x, h', k', q') := e1
  rw [e1]
  dsimp only
  rw [hi]
  dsimp only
  rw [hl, hx]
  dsimp only
  rw [if_pos h20, hc]
  exact e2
variable {pm nF : Nat}
/-- a call by contract -/
theorem ab_out_ok {C : ab_C} {rc k q : Nat} {hs : List (Nat × Nat × Nat × Nat)} {A : ab_S} {ρ : Nat → Nat} {e : Nat × ab_V × List ab_F} : ∀ {l : List (Nat × ab_V × List ab_F)} {As : List ab_S}, ab_out kd uq cx C rc hs A l = some As → e ∈ l → ab_bfs uq e.2.2 = true ∧ ((e.1 = 0 ∧ (Nat.add A.1 3, A.2.1, A.2.2.1, e.2.2 ++ ab_rmw kd C.2.2.2.1 A.2.2.2.1, ab_gg A.2.2.2.2 C.2.2.2.2) ∈ As) ∨ (e.1 = 1 ∧ (Nat.add A.1 3, A.2.1, ab_nrm uq e.2.1 :: A.2.2.1, e.2.2 ++ ab_rmw kd C.2.2.2.1 A.2.2.2.1, ab_gg A.2.2.2.2 C.2.2.2.2) ∈ As) ∨ (e.1 = 2 ∧ rc = 2 ∧ ∃ t, am_catch cx hs A.1 e.2.1.1 = some t ∧ (t, A.2.1, [(6, 0, 0)], e.2.2 ++ ab_rmw kd C.2.2.2.1 A.2.2.2.1, ab_gg A.2.2.2.2 C.2.2.2.2) ∈ As))
  | [], _, _, he => by cases he
  | e' :: l, As, ho, he => by
    unfold ab_out at ho
    split at ho
    · cases ho
    · rename_i r hr
      obtain ⟨hb, ho⟩ := ab_bt_ ho
      have hcase : ∃ X, As = X :: r ∧ ((e'.1 = 0 ∧ X = (Nat.add A.1 3, A.2.1, A.2.2.1, e'.2.2 ++ ab_rmw kd C.2.2.2.1 A.2.2.2.1, ab_gg A.2.2.2.2 C.2.2.2.2)) ∨ (e'.1 = 1 ∧ X = (Nat.add A.1 3, A.2.1, ab_nrm uq e'.2.1 :: A.2.2.1, e'.2.2 ++ ab_rmw kd C.2.2.2.1 A.2.2.2.1, ab_gg A.2.2.2.2 C.2.2.2.2)) ∨ (e'.1 = 2 ∧ rc = 2 ∧ ∃ t, am_catch cx hs A.1 e'.2.1.1 = some t ∧ X = (t, A.2.1, [(6, 0, 0)], e'.2.2 ++ ab_rmw kd C.2.2.2.1 A.2.2.2.1, ab_gg A.2.2.2.2 C.2.2.2.2))) := by
        cases e0 : Nat.beq e'.1 0 with
        | true =>
          rw [e0] at ho
          exact ⟨_, (Option.some.inj ho).symm, Or.inl ⟨ab_beq e0, rfl⟩⟩
        | false =>
          rw [e0] at ho
          cases e1 : (Nat.beq e'.1 1 && ab_clo e'.2.1) with
          | true =>
            rw [e1] at ho
            exact ⟨_, (Option.some.inj ho).symm, Or.inr (Or.inl ⟨ab_beq (ab_a2 e1).1, rfl⟩)⟩
          | false =>
            rw [e1] at ho
            cases e2 : (Nat.beq e'.1 2 && Nat.beq rc 2) with
            | true =>
              rw [e2] at ho
              obtain ⟨f1, f2⟩ := ab_a2 e2
              have ho : (match am_catch cx hs A.1 e'.2.1.1 with
                | some t => some ((t, A.2.1, [(6, 0, 0)], e'.2.2 ++ ab_rmw kd C.2.2.2.1 A.2.2.2.1, ab_gg A.2.2.2.2 C.2.2.2.2) :: r)
                | none => none) = some As := ho
              split at ho
              · rename_i t ht
                exact ⟨_, (Option.some.inj ho).symm, Or.inr (Or.inr ⟨ab_beq f1, ab_beq f2, t, ht, rfl⟩)⟩
              · cases ho
            | false =>
              rw [e2] at ho
              cases ho
      obtain ⟨X, rfl, hX⟩ := hcase
      rcases List.mem_cons.mp he with rfl | he
      · refine ⟨hb, ?_⟩
        rcases hX with ⟨h1, rfl⟩ | ⟨h1, rfl⟩ | ⟨h1, h2, t, h3, rfl⟩
        · exact Or.inl ⟨h1, List.mem_cons_self⟩
        · exact Or.inr (Or.inl ⟨h1, List.mem_cons_self⟩)
        · exact Or.inr (Or.inr ⟨h1, h2, t, h3, List.mem_cons_self⟩)
      · obtain ⟨i0, i1⟩ := ab_out_ok (k := k) (q := q) (ρ := ρ) hr he
        refine ⟨i0, ?_⟩
        rcases i1 with ⟨h1, h2⟩ | ⟨h1, h2⟩ | ⟨h1, h2, t, h3, h4⟩
        · exact Or.inl ⟨h1, List.mem_cons_of_mem _ h2⟩
        · exact Or.inr (Or.inl ⟨h1, List.mem_cons_of_mem _ h2⟩)
        · exact Or.inr (Or.inr ⟨h1, h2, t, h3, List.mem_cons_of_mem _ h4⟩)
theorem ab_try_d {as : List ab_V} {wr rc : Nat} {hs : List (Nat × Nat × Nat × Nat)} {A : ab_S} {As : List ab_S} : ∀ {l : List ab_C}, ab_try kd uq cx as wr rc hs A l = some As → ∃ C ∈ l, ab_mat uq C as A.2.2.2.1 wr = true ∧ ab_out kd uq cx C rc hs A C.2.2.1 = some As
  | [], h => by cases h
  | C :: l, h => by
    unfold ab_try at h
    cases e : ab_mat uq C as A.2.2.2.1 wr with
    | true =>
      rw [e] at h
      exact ⟨C, List.mem_cons_self, e, h⟩
    | false =>
      rw [e] at h
      obtain ⟨C', h1, h2⟩ := ab_try_d h
      exact ⟨C', List.mem_cons_of_mem _ h1, h2⟩
/-- from a state that is stepped on, if all next ones come to a good end -/
theorem ab_stp_ok (hcmp : ∀ t, 103 ≤ t → t ≤ 106 → (cmp t).isSome = true) (htv : 2147483648 ≤ tv ∧ tv ≤ 2147523647) (hU : ab_U uq τ u) (hpm : ab_pm kd τ K P0 P1 pm) (hwms : ∀ j mf, wms j = some mf → ∃ mi, ms j = some mi ∧ wk_mck fty lk tls mi mf = true) (hCt : ∀ j as C mj, C ∈ Ct j as → wms j = some mj → mj.2.2.2.1 < nF → ab_Vd fty dfl cmp lk ms cx kd un uq Gm τ u tv K P0 P1 j C) {mi : am_M} {mf : fm_M} {wr tk : Nat} {bn : List (Nat × Nat)} {h0 : am_H} {Q : am_R → Prop} {A : ab_S} {ρ : Nat → Nat} {S : am_S} (hmf : wk_mck fty lk tls mi mf = true) (hnf : mf.2.2.2.1 ≤ nF) (hadm : ab_ad uq u ρ) (hm : ab_m kd un Gm τ tv K P0 P1 wr h0 ρ A S) {Y : List ab_S ⊕ (Nat × ab_V)} (hY : ab_stp kd un uq Gm cmp tls cx wms Ct mf wr pm tk bn A = some Y) (hn : ∀ As, Y = .inl As → ∀ A' ∈ As, ∀ ρ' S', ab_ad uq u ρ' → ab_m kd un Gm τ tv K P0 P1 wr h0 ρ' A' S' → ∃ f r, am_run fty dfl cmp lk ms cx am_o0 f mi S' = some r ∧ Q r) (he : ∀ t v, Y = .inr (t, v) → ∀ r, ((t = 0 ∧ r = (.inl none, S.2.2.2)) ∨ (t = 1 ∧ ∃ x, r = (.inl (some x), S.2.2.2) ∧ ab_g τ tv ρ v x) ∨ (t = 2 ∧ r = (.inr S.2.2.2.1.length, S.2.2.2.1 ++ [(v.1, [])], S.2.2.2.2.1 + 1, S.2.2.2.2.2 + 6))) → Q r) : ∃ f r, am_run fty dfl cmp lk ms cx am_o0 f mi S = some r ∧ Q r := by
  obtain ⟨pc, lo', st', h, k, q⟩ := S
  obtain ⟨pc', lo, st, fa, g⟩ := A
  obtain ⟨m1, m2, m3, m4, m5⟩ := hm
  have m1 : pc = pc' := m1
  subst m1
  have m2 : ab_gO τ tv ρ lo lo' := m2
  have m3 : ab_gL τ tv ρ st st' := m3
  have m4 : ab_fs τ tv ρ h fa := m4
  have m5 : ab_Hp kd un Gm τ tv K P0 P1 wr h0 h k q g := m5
  obtain ⟨⟨d1, d2, d3, d4⟩, hcode, hcat⟩ := wk_mck_d fty lk tls hmf
  unfold ab_stp at hY
  obtain ⟨hpc, hY⟩ := ab_bt_ hY
  have hpc : pc < mf.2.1 := ab_blt hpc
  dsimp only at hY
  generalize hX : ab_ex kd un uq Gm cmp tls wr pm tk (ab_bnd bn pc) (fm_w0 (fm_w mf.1 pc)) (fm_w1 (fm_w mf.1 pc)) (fm_w2 (fm_w mf.1 pc)) (fm_w3 (fm_w mf.1 pc)) (fm_w4 (fm_w mf.1 pc)) pc lo st fa g = X at hY
  cases X with
  | none => cases hY
  | some X =>
    have hop : fm_w0 (fm_w mf.1 pc) ≠ 0 := fun e => by
      rw [e] at hX
      exact nomatch (show (none : Option ab_X) = some X from hX)
    obtain ⟨i, n, hins, hck⟩ := hcode pc hpc hop
    have h40 : fm_w0 (fm_w mf.1 pc) = 40 → (fm_w3 (fm_w mf.1 pc) = 0 ∨ fm_w3 (fm_w mf.1 pc) = 1 ∨ fm_w3 (fm_w mf.1 pc) = 2) ∧ (fm_w3 (fm_w mf.1 pc) = 2 → ∃ ix, i = .invokevirtual ix ∧ (lk (am_o mi) ix).isSome = true) := fun e => by
      rw [e] at hck
      exact wk_ck_40 fty lk tls hck
    have hq := ab_ex_ok hcmp htv hU hpm hadm m2 m3 m4 m5 hX (fun e => (h40 e).1)
    have hstep : ∀ Z, wk_ex tls cmp (fm_w0 (fm_w mf.1 pc)) (fm_w1 (fm_w mf.1 pc)) (fm_w2 (fm_w mf.1 pc)) (fm_w3 (fm_w mf.1 pc)) (fm_w4 (fm_w mf.1 pc)) pc lo' st' h k q = some Z → am_step fty dfl cmp lk am_o0 mi (pc, lo', st', h, k, q) = some Z := fun Z hZ => by
      unfold am_step
      show (match am_ins (am_c mi) pc with
        | some (i, n) => am_exec fty dfl cmp lk am_o0 mi i n pc lo' st' h k q
        | none => none) = _
      rw [hins]
      exact wk_ok hck hZ
    match X, hY, hq with
    | .inl As, hY, ⟨S', hS, A', hA, ρ', ha', hm'⟩ =>
      obtain ⟨f, r, hr, hQ⟩ := hn As (Option.some.inj hY).symm A' hA ρ' S' ha' hm'
      exact ⟨f + 1, r, ab_run1 (hstep _ hS) hr, hQ⟩
    | .inr (.inl (t, v)), hY, ⟨r, hS, hr⟩ => exact ⟨1, r, ab_rune (hstep _ hS), he t v (Option.some.inj hY).symm r hr⟩
    | .inr (.inr (j, as, A')), hY, ⟨as', S', hS, hgas, hm'⟩ =>
      obtain ⟨hb, hY⟩ := ab_bt_ hY
      obtain ⟨b1, b2⟩ := ab_a2 hb
      have b2 : A'.1 = pc := ab_beq b2
      obtain ⟨c02, c2⟩ := h40 (ab_beq b1)
      split at hY
      · rename_i As hcall
        have hn := hn As (Option.some.inj hY).symm
        unfold ab_call at hcall
        split at hcall
        · rename_i mj hj
          obtain ⟨hr0, hcall⟩ := ab_bt_ hcall
          obtain ⟨hr0, r3⟩ := ab_a2 hr0
          obtain ⟨r1, r2⟩ := ab_a2 hr0
          have r1 : mj.2.2.2.1 + 1 ≤ mf.2.2.2.1 := ab_ble r1
          have r2 : 8 + (mj.2.2.1 + 11) + mj.2.2.2.2.1 ≤ mf.2.2.2.2.1 := ab_ble r2
          have r3 : as.length ≤ mj.2.2.1 := ab_ble r3
          obtain ⟨mj', hmj, hmk⟩ := hwms j mj hj
          obtain ⟨⟨e1, e2, e3, e4⟩, -, -⟩ := wk_mck_d fty lk tls hmk
          have hroom : am_f mj' + 1 ≤ am_f mi ∧ 8 + (am_L mj' + 11) + am_w mj' ≤ am_w mi ∧ as'.length ≤ am_L mj' := by
            rw [← e1, ← e2, ← e3, ← d2, ← d3, ← ab_gL_len hgas]
            exact ⟨r1, r2, r3⟩
          obtain ⟨C, hC, hmat, hout⟩ := ab_try_d hcall
          obtain ⟨hmat, t4⟩ := ab_a2 hmat
          obtain ⟨hmat, t3⟩ := ab_a2 hmat
          obtain ⟨t1, t2⟩ := ab_a2 hmat
          obtain ⟨pc2, lo2, st2, h2, k2, q2⟩ := S'
          obtain ⟨n1, n2, n3, n4, n5⟩ := hm'
          have n1 : pc2 = A'.1 := n1
          have n2 : ab_gO τ tv ρ A'.2.1 lo2 := n2
          have n3 : ab_gL τ tv ρ A'.2.2.1 st2 := n3
          have n4 : ab_fs τ tv ρ h2 A'.2.2.2.1 := n4
          have n5 : ab_Hp kd un Gm τ tv K P0 P1 wr h0 h2 k2 q2 A'.2.2.2.2 := n5
          obtain ⟨o1, o2⟩ := ab_rho_ok htv hU hadm t1 t2 hgas
          obtain ⟨f1, rr, hrun, e, he', hend, hPo, hfb⟩ := hCt j as C mj hC hj (Nat.lt_of_lt_of_le (by omega) hnf) mj' hmj (ab_rho ρ C.1 as') h2 as' o2 n5.1 n5.2.1 o1 (ab_pfk_ok htv t1 hgas n4 t3)
          obtain ⟨w0, wcase⟩ := ab_out_ok (k := 0) (q := 0) (ρ := ρ) hout he'
          obtain ⟨rv, h3, k3, q3⟩ := rr
          have hPo : ab_Hp kd un Gm τ tv K P0 P1 C.2.2.2.1 h2 h3 k3 q3 C.2.2.2.2 := hPo
          have hH := ab_Hp_tr t4 n5 hPo
          have hF : ab_fs τ tv ρ h3 (e.2.2 ++ ab_rmw kd C.2.2.2.1 A'.2.2.2.1) := ab_fs_app (ab_bfs_ok hadm w0 hfb) (ab_rmw_ok n5.1 hPo.2.2.1 n4)
          have hend : (e.1 = 0 ∧ rv = .inl none) ∨ (e.1 = 1 ∧ ∃ x, rv = .inl (some x) ∧ ab_gc τ tv e.2.1 x) ∨ (e.1 = 2 ∧ ∃ y c, rv = .inr y ∧ h3[y]? = some c ∧ c.1 = e.2.1.1) := hend
          rcases hend with ⟨x0, rfl⟩ | ⟨x0, x, rfl, hx⟩ | ⟨x0, y, c, rfl, hy, hcl⟩
          · rcases wcase with ⟨y0, hmem⟩ | ⟨y0, -⟩ | ⟨y0, -⟩
            · obtain ⟨f2, r, hr, hQ⟩ := hn _ hmem ρ (pc2 + 3, lo2, st2, h3, k2 + k3, q2 + q3) hadm ⟨by show pc2 + 3 = A'.1 + 3; rw [n1], n2, n3, hF, hH⟩
              exact ⟨_, r, ab_runc (hstep _ hS) hmj hroom hrun hr, hQ⟩
            · omega
            · omega
          · rcases wcase with ⟨y0, -⟩ | ⟨y0, hmem⟩ | ⟨y0, -⟩
            · omega
            · obtain ⟨f2, r, hr, hQ⟩ := hn _ hmem ρ (pc2 + 3, lo2, x :: st2, h3, k2 + k3, q2 + q3) hadm ⟨by show pc2 + 3 = A'.1 + 3; rw [n1], n2, ⟨ab_nrm_ok hU hadm hx, n3⟩, hF, hH⟩
              exact ⟨_, r, ab_runc (hstep _ hS) hmj hroom hrun hr, hQ⟩
            · omega
          · rcases wcase with ⟨y0, -⟩ | ⟨y0, -⟩ | ⟨y0, hrc, t, ht, hmem⟩
            · omega
            · omega
            · obtain ⟨ix, rfl, hlk⟩ := c2 hrc
              obtain ⟨kk, hkk⟩ := Option.isSome_iff_exists.mp hlk
              have hne : am_h mi ≠ [] := fun e => by
                rw [d4, e] at ht
                cases ht
              obtain ⟨f2, r, hr, hQ⟩ := hn _ hmem ρ (t, lo2, [.ref y], h3, k2 + k3, q2 + q3) hadm ⟨rfl, n2, ⟨⟨y, rfl⟩, trivial⟩, hF, hH⟩
              rw [b2] at n1
              subst n1
              rw [b2, d4, ← hcl] at ht
              exact ⟨_, r, ab_runx (hstep _ hS) hmj hroom hrun hins hkk (hcat hne _ ix n kk hins hkk) hy ht hr, hQ⟩
        · cases hcall
      · cases hY
end ABZ
