/-! ===== tables of entries, and units ===== -/
section ABY
variable {fty : Nat → Nat → Option FieldType} {dfl : Nat → Option (List Value)} {cmp : Nat → Option (Option Nat)} {lk : Nat → Nat → Option am_K} {ms : Nat → Option am_M} {cx : Nat → Option Nat}
variable {kd : Nat → Nat × Nat} {un uq : Nat → Bool} {Gm : Nat → Nat → List ab_V} {tls : Nat → List Nat} {wms : Nat → Option fm_M} {Ct : Nat → List ab_V → List ab_C} {cr : Nat → Nat → List (List ab_F)}
variable {τ u : Nat → Nat} {tv : Nat} {K : am_H → Prop} {P0 P1 : am_H → Nat}
theorem ab_sl_app {h : am_H} {c : am_C} {a i : Nat} (ha : a < h.length) : ab_sl (h ++ [c]) a i = ab_sl h a i := by
  unfold ab_sl
  rw [List.getElem?_append_left ha]
theorem ab_Hp_app {wr pm k q : Nat} {h0 h : am_H} {g : ab_G} {c : am_C} (hpm : ab_pm kd τ K P0 P1 pm) (hP : ab_Hp kd un Gm τ tv K P0 P1 wr h0 h k q g) : ab_Hp kd un Gm τ tv K P0 P1 wr h0 (h ++ [c]) (k + 1) (q + 6) (g.1, g.2.1, Nat.add g.2.2.1 1, Nat.add g.2.2.2 6) := by
  obtain ⟨p1, p2, p3, p4, p5, p6, p7, p8⟩ := hP
  obtain ⟨k1, k2, k3⟩ := hpm h (h ++ [c]) (fun a ha i _ => ab_sl_app (ab_typed p1 ha))
  refine ⟨fun a ha => ?_, k1 p2, fun a ha => ?_, ?_, ?_, ?_, ?_, ?_⟩
  · obtain ⟨vs, h1, h2, h3⟩ := p1 a ha
    exact ⟨vs, by rw [List.getElem?_append_left (ab_typed p1 ha)]; exact h1, h2, h3⟩
  · obtain ⟨f1, f2⟩ := p3 a ha
    have hal : a < h.length := by omega
    exact ⟨fun e => by rw [List.getElem?_append_left hal]; exact f1 e, fun e i hb => by rw [ab_sl_app hal]; exact f2 e i hb⟩
  · rw [List.length_append, List.length_singleton]
    omega
  · show P0 (h ++ [c]) + 1000 ≤ P0 h0 + g.1
    omega
  · show P1 (h ++ [c]) + 1000 ≤ P1 h0 + g.2.1
    omega
  · show k + 1 ≤ g.2.2.1 + 1
    omega
  · show q + 6 ≤ g.2.2.2 + 6
    omega
theorem ab_fb_ok {ρ : Nat → Nat} {h : am_H} {l : List ab_F} (had : ab_ad uq u ρ) (hb : ab_bfs uq l = true) (hf : ab_fs τ tv ρ h l) : ∀ f ∈ l, ab_fb τ u tv h f := by
  induction l with
  | nil => intro f hf; cases hf
  | cons f l ih =>
    obtain ⟨h1, h4⟩ := ab_a2 hb
    obtain ⟨h1, h3⟩ := ab_a2 h1
    obtain ⟨h1, h2⟩ := ab_a2 h1
    intro f' hf'
    rcases List.mem_cons.mp hf' with rfl | hf'
    · obtain ⟨g1, g2, x, g3, g4⟩ := hf f' List.mem_cons_self
      have h1 : f'.1 % 16 = 0 := ab_beq h1
      have e : ρ f'.1 = u (f'.1 / 16) := by
        have := had (f'.1 / 16) h2
        have e2 : 16 * (f'.1 / 16) = f'.1 := by omega
        rw [e2] at this
        exact this
      rw [e] at g1 g3
      exact ⟨g1, g2, x, g3, ab_clo_ok h3 g4⟩
    · exact ih h4 (fun f hf' => hf f (List.mem_cons_of_mem _ hf')) f' hf'
theorem ab_ed_d {C : ab_C} {fa : List ab_F} {g : ab_G} {t : Nat} {v : ab_V} : ∀ {l : List (Nat × ab_V × List ab_F)}, ab_ed uq C fa g t v l = true → ∃ e ∈ l, e.1 = t ∧ (t = 0 ∨ (t = 1 ∧ ab_le v e.2.1 = true ∧ ab_clo e.2.1 = true) ∨ (t ≠ 0 ∧ t ≠ 1 ∧ v.1 = e.2.1.1)) ∧ ab_bfs uq e.2.2 = true ∧ ab_leF fa e.2.2 = true ∧ ab_leG (bif Nat.beq t 2 then (g.1, g.2.1, Nat.add g.2.2.1 1, Nat.add g.2.2.2 6) else g) C.2.2.2.2 = true
  | [], h => by cases h
  | e :: l, h => by
    rcases Bool.or_eq_true_iff.mp h with h | h
    · obtain ⟨h, h5⟩ := ab_a2 h
      obtain ⟨h, h4⟩ := ab_a2 h
      obtain ⟨h, h3⟩ := ab_a2 h
      obtain ⟨h1, h2⟩ := ab_a2 h
      refine ⟨e, List.mem_cons_self, ab_beq h1, ?_, h3, h4, h5⟩
      cases e0 : Nat.beq t 0 with
      | true => exact Or.inl (ab_beq e0)
      | false =>
        rw [e0] at h2
        cases e1 : Nat.beq t 1 with
        | true =>
          rw [e1] at h2
          obtain ⟨g1, g2⟩ := ab_a2 h2
          exact Or.inr (Or.inl ⟨ab_beq e1, g1, g2⟩)
        | false =>
          rw [e1] at h2
          exact Or.inr (Or.inr ⟨Nat.ne_of_beq_eq_false e0, Nat.ne_of_beq_eq_false e1, ab_beq h2⟩)
    · obtain ⟨e', h1, h2⟩ := ab_ed_d h
      exact ⟨e', List.mem_cons_of_mem _ h1, h2⟩
variable {pm nF : Nat}
theorem ab_go_ok (hcmp : ∀ t, 103 ≤ t → t ≤ 106 → (cmp t).isSome = true) (htv : 2147483648 ≤ tv ∧ tv ≤ 2147523647) (hU : ab_U uq τ u) (hpm : ab_pm kd τ K P0 P1 pm) (hwms : ∀ j mf, wms j = some mf → ∃ mi, ms j = some mi ∧ wk_mck fty lk tls mi mf = true) (hCt : ∀ j as C mj, C ∈ Ct j as → wms j = some mj → mj.2.2.2.1 < nF → ab_Vd fty dfl cmp lk ms cx kd un uq Gm τ u tv K P0 P1 j C) {mi : am_M} {mf : fm_M} {C : ab_C} {tk cut : Nat} {bn : List (Nat × Nat)} {es : List ab_E} {h0 : am_H} (hmf : wk_mck fty lk tls mi mf = true) (hnf : mf.2.2.2.1 ≤ nF) (hes : ∀ e ∈ es, ∀ ρ S, ab_ad uq u ρ → ab_m kd un Gm τ tv K P0 P1 C.2.2.2.1 h0 ρ e.2.2.2 S → ∃ f r, am_run fty dfl cmp lk ms cx am_o0 f mi S = some r ∧ ab_Po kd un Gm τ u tv K P0 P1 C h0 r) : ∀ (fu : Nat) (A : ab_S), ab_go kd un uq Gm cmp tls cx wms Ct mf C pm tk bn cut es fu A = true → ∀ ρ S, ab_ad uq u ρ → ab_m kd un Gm τ tv K P0 P1 C.2.2.2.1 h0 ρ A S → ∃ f r, am_run fty dfl cmp lk ms cx am_o0 f mi S = some r ∧ ab_Po kd un Gm τ u tv K P0 P1 C h0 r
  | 0, A, h, _, _, _, _ => by cases h
  | fu + 1, A, hg, ρ, S, had, hm => by
    unfold ab_go at hg
    cases hY : ab_stp kd un uq Gm cmp tls cx wms Ct mf C.2.2.2.1 pm tk bn A with
    | none => rw [hY] at hg; cases hg
    | some Y =>
      rw [hY] at hg
      refine ab_stp_ok hcmp htv hU hpm hwms hCt hmf hnf had hm hY (fun As hAs A' hA' ρ' S' had' hm' => ?_) (fun t v hv r hr => ?_)
      · subst hAs
        have := List.all_eq_true.mp hg A' hA'
        cases ec : ab_tb cut A'.1 with
        | true =>
          rw [ec] at this
          obtain ⟨e, he, hle⟩ := ab_ms_ok this
          exact hes e he ρ' S' had' (ab_leS_ok htv hle hm')
        | false =>
          rw [ec] at this
          exact ab_go_ok hcmp htv hU hpm hwms hCt hmf hnf hes fu A' this ρ' S' had' hm'
      · subst hv
        have hg : ab_ed uq C A.2.2.2.1 A.2.2.2.2 t v C.2.2.1 = true := hg
        obtain ⟨e, he, e1, e2, e3, e4, e5⟩ := ab_ed_d hg
        obtain ⟨m1, m2, m3, m4, m5⟩ := hm
        have hF := ab_leF_ok htv e4 m4
        rcases hr with ⟨rfl, rfl⟩ | ⟨rfl, x, rfl, hx⟩ | ⟨rfl, rfl⟩
        · exact ⟨e, he, Or.inl ⟨e1, rfl⟩, ab_leG_ok e5 m5, ab_fb_ok had e3 hF⟩
        · rcases e2 with e2 | ⟨-, g1, g2⟩ | ⟨-, g1, -⟩
          · cases e2
          · refine ⟨e, he, Or.inr (Or.inl ⟨e1, x, rfl, ab_clo_ok g2 (ab_le_ok htv g1 (ab_bne (ab_a2 g2).2) hx)⟩), ab_leG_ok e5 m5, ab_fb_ok had e3 hF⟩
          · exact absurd rfl g1
        · rcases e2 with e2 | ⟨e2, -⟩ | ⟨-, -, e2⟩
          · cases e2
          · cases e2
          · refine ⟨e, he, Or.inr (Or.inr ⟨e1, _, (v.1, []), rfl, ?_, e2⟩), ab_leG_ok e5 (ab_Hp_app hpm m5), fun f hf => ?_⟩
            · show (S.2.2.2.1 ++ [(v.1, [])])[S.2.2.2.1.length]? = _
              rw [List.getElem?_append_right (Nat.le_refl _), Nat.sub_self]
              rfl
            · obtain ⟨g1, g2, x, g3, g4⟩ := ab_fb_ok had e3 hF f hf
              refine ⟨g1, g2, x, ?_, g4⟩
              show ab_sl (S.2.2.2.1 ++ [(v.1, [])]) _ _ = _
              rw [ab_sl_app (ab_typed m5.1 (by rw [g1]; exact g2))]
              exact g3
theorem ab_cuts_ok : ∀ {cs : List Nat} {l h b : Nat}, l ≤ b → b ≤ h → ∃ p ∈ ab_cuts l h cs, p.1 ≤ b ∧ b ≤ p.2
  | [], l, h, b, h1, h2 => ⟨(l, h), List.mem_singleton_self _, h1, h2⟩
  | c :: cs, l, h, b, h1, h2 => by
    by_cases hc : b < c
    · exact ⟨(l, c - 1), List.mem_cons_self, h1, by show b ≤ c - 1; omega⟩
    · obtain ⟨p, hp, h3⟩ := ab_cuts_ok (cs := cs) (l := c) (h := h) (b := b) (by omega) h2
      exact ⟨p, List.mem_cons_of_mem _ hp, h3⟩
theorem ab_gO_cut {ρ : Nat → Nat} {v : ab_V} : ∀ {l : List ab_V} {m : List (Option Value)} {j : Nat} {x : Value}, ab_gO τ tv ρ l m → m[j]? = some (some x) → ab_g τ tv ρ v x → ab_gO τ tv ρ (l.set j v) m
  | [], [], _, _, h, _, _ => h
  | [], _ :: _, _, _, h, _, _ => h.elim
  | _ :: _, [], _, _, h, _, _ => h.elim
  | w :: l, o :: m, 0, x, h, hj, hv => by
    have hj : o = some x := Option.some.inj hj
    exact ⟨Or.inr ⟨x, hj, hv⟩, h.2⟩
  | w :: l, o :: m, j + 1, x, h, hj, hv => ⟨h.1, ab_gO_cut h.2 (by rw [List.getElem?_cons_succ] at hj; exact hj) hv⟩
theorem ab_nL_d {ρ : Nat → Nat} {p : Nat} : ∀ {l : List ab_V} {m : List (Option Value)}, ab_nL p l = false → ab_gO τ tv ρ l m → τ (ρ p) = p / 16 ∧ p / 16 ≠ 0
  | [], _, h, _ => by cases h
  | _ :: _, [], _, h => h.elim
  | v :: l, o :: m, hn, h => by
    unfold ab_nL at hn
    cases e : ab_nV p v with
    | true =>
      rw [e] at hn
      exact ab_nL_d hn h.2
    | false =>
      unfold ab_nV at e
      have e : (Nat.beq v.1 1 && Nat.beq v.2.1 p) = true := by simpa using e
      obtain ⟨e1, e2⟩ := ab_a2 e
      obtain ⟨t, n, b⟩ := v
      have f1 : t = 1 := ab_beq e1
      have f2 : n = p := ab_beq e2
      subst f1 f2
      rcases h.1 with h5 | ⟨x, -, hx⟩
      · cases h5
      · exact hx.2
theorem ab_tab_ok (hcmp : ∀ t, 103 ≤ t → t ≤ 106 → (cmp t).isSome = true) (htv : 2147483648 ≤ tv ∧ tv ≤ 2147523647) (hU : ab_U uq τ u) (hpm : ab_pm kd τ K P0 P1 pm) (hwms : ∀ j mf, wms j = some mf → ∃ mi, ms j = some mi ∧ wk_mck fty lk tls mi mf = true) (hCt : ∀ j as C mj, C ∈ Ct j as → wms j = some mj → mj.2.2.2.1 < nF → ab_Vd fty dfl cmp lk ms cx kd un uq Gm τ u tv K P0 P1 j C) (hR : ∀ id p ρ h, ab_ad uq u ρ → ab_I kd un Gm τ tv h → K h → ((τ (ρ p) = p / 16 ∧ p / 16 ≠ 0) ∨ (p % 16 = 0 ∧ uq (p / 16) = true)) → ∃ l ∈ cr id p, ab_fs τ tv ρ h l) {mi : am_M} {mf : fm_M} {C : ab_C} {tk cut : Nat} {bn : List (Nat × Nat)} {h0 : am_H} (hmf : wk_mck fty lk tls mi mf = true) (hnf : mf.2.2.2.1 ≤ nF) : ∀ {es : List ab_E}, ab_tab kd un uq Gm cmp tls cx wms Ct cr mf C pm tk bn cut es = true → ∀ e ∈ es, ∀ ρ S, ab_ad uq u ρ → ab_m kd un Gm τ tv K P0 P1 C.2.2.2.1 h0 ρ e.2.2.2 S → ∃ f r, am_run fty dfl cmp lk ms cx am_o0 f mi S = some r ∧ ab_Po kd un Gm τ u tv K P0 P1 C h0 r
  | [], _, _, he, _, _, _, _ => by cases he
  | e :: es, ht, e', he, ρ, S, had, hm => by
    obtain ⟨t1, t2⟩ := ab_a2 ht
    have ih := ab_tab_ok hcmp htv hU hpm hwms hCt hR (h0 := h0) hmf hnf t2
    rcases List.mem_cons.mp he with rfl | he
    · unfold ab_ent at t1
      cases e0 : Nat.beq e'.1 0 with
      | true =>
        rw [e0] at t1
        exact ab_go_ok hcmp htv hU hpm hwms hCt hmf hnf ih 1000 _ t1 ρ S had hm
      | false =>
        rw [e0] at t1
        obtain ⟨m1, m2, m3, m4, m5⟩ := hm
        cases e1 : Nat.beq e'.1 1 with
        | true =>
          rw [e1] at t1
          obtain ⟨t1, t3⟩ := ab_a2 t1
          have h5 : (ab_nth e'.2.2.2.2.1 e'.2.1).1 ≠ 5 := fun e => by
            unfold ab_iI at t1
            rw [e] at t1
            cases t1
          obtain ⟨x, hx, hgx⟩ := ab_gO_nth m2 e'.2.1 h5
          obtain ⟨z, rfl, z1, z2⟩ := ab_int htv t1 hgx
          obtain ⟨p, hp, p1, p2⟩ := ab_cuts_ok (cs := e'.2.2.1) z1 z2
          have := List.all_eq_true.mp t3 p hp
          obtain ⟨e2, he2, hle⟩ := ab_ms_ok this
          exact ih e2 he2 ρ S had (ab_leS_ok htv hle ⟨m1, ab_gO_cut m2 hx (ab_g_0.mpr ⟨z, rfl, p1, p2⟩), m3, m4, m5⟩)
        | false =>
          rw [e1] at t1
          have t1 : (match e'.2.2.1 with
            | p :: _ => ((Nat.beq (Nat.mod p 16) 0 && uq (Nat.div p 16)) || !(ab_nL p e'.2.2.2.2.1)) && ((cr e'.2.1 p).all fun l => ab_ms (e'.2.2.2.1, e'.2.2.2.2.1, e'.2.2.2.2.2.1, l ++ e'.2.2.2.2.2.2.1, e'.2.2.2.2.2.2.2) es)
            | [] => false) = true := t1
          split at t1
          · rename_i p l hp
            obtain ⟨t3, t4⟩ := ab_a2 t1
            have hc : (τ (ρ p) = p / 16 ∧ p / 16 ≠ 0) ∨ (p % 16 = 0 ∧ uq (p / 16) = true) := by
              rcases Bool.or_eq_true_iff.mp t3 with h | h
              · obtain ⟨h1, h2⟩ := ab_a2 h
                exact Or.inr ⟨ab_beq h1, h2⟩
              · exact Or.inl (ab_nL_d (by simpa using h) m2)
            obtain ⟨l', hl', hfs⟩ := hR e'.2.1 p ρ S.2.2.2.1 had m5.1 m5.2.1 hc
            have := List.all_eq_true.mp t4 l' hl'
            obtain ⟨e2, he2, hle⟩ := ab_ms_ok this
            exact ih e2 he2 ρ S had (ab_leS_ok htv hle ⟨m1, m2, m3, ab_fs_app hfs m4, m5⟩)
          · cases t1
    · exact ih e' he ρ S had hm
theorem ab_5s_ok {ρ : Nat → Nat} : ∀ (n : Nat), ab_gO τ tv ρ (ab_5s n) (List.replicate n none)
  | 0 => trivial
  | n + 1 => ⟨Or.inl rfl, ab_5s_ok n⟩
theorem ab_gA_O {ρ : Nat → Nat} {l' : List ab_V} {m' : List (Option Value)} : ∀ {l : List ab_V} {m : List Value}, ab_gA τ tv ρ l m → ab_gO τ tv ρ l' m' → ab_gO τ tv ρ (l ++ l') (m.map some ++ m')
  | [], [], _, h => h
  | [], _ :: _, h, _ => h.elim
  | _ :: _, [], h, _ => h.elim
  | v :: l, x :: m, h, h' => ⟨by
      rcases h.1 with e | e
      · exact Or.inl e
      · exact Or.inr ⟨x, rfl, e⟩, ab_gA_O h.2 h'⟩
theorem ab_gA_len {ρ : Nat → Nat} : ∀ {l : List ab_V} {m : List Value}, ab_gA τ tv ρ l m → l.length = m.length
  | [], [], _ => rfl
  | [], _ :: _, h => h.elim
  | _ :: _, [], h => h.elim
  | _ :: l, _ :: m, h => by rw [List.length_cons, List.length_cons, ab_gA_len h.2]
theorem ab_unit_ok (hcmp : ∀ t, 103 ≤ t → t ≤ 106 → (cmp t).isSome = true) (htv : 2147483648 ≤ tv ∧ tv ≤ 2147523647) (hU : ab_U uq τ u) (hpm : ab_pm kd τ K P0 P1 pm) (hwms : ∀ j mf, wms j = some mf → ∃ mi, ms j = some mi ∧ wk_mck fty lk tls mi mf = true) (hCt : ∀ j as C mj, C ∈ Ct j as → wms j = some mj → mj.2.2.2.1 < nF → ab_Vd fty dfl cmp lk ms cx kd un uq Gm τ u tv K P0 P1 j C) (hR : ∀ id p ρ h, ab_ad uq u ρ → ab_I kd un Gm τ tv h → K h → ((τ (ρ p) = p / 16 ∧ p / 16 ≠ 0) ∨ (p % 16 = 0 ∧ uq (p / 16) = true)) → ∃ l ∈ cr id p, ab_fs τ tv ρ h l) {j : Nat} {C : ab_C} {tk cut : Nat} {bn : List (Nat × Nat)} {es : List ab_E} (hu : ab_unit kd un uq Gm cmp tls cx wms Ct cr j C pm tk bn cut es = true) (hnf : ∀ mf, wms j = some mf → mf.2.2.2.1 ≤ nF) : ab_Vd fty dfl cmp lk ms cx kd un uq Gm τ u tv K P0 P1 j C := by
  intro mj hmj ρ h as had hI hK hA hF
  unfold ab_unit at hu
  split at hu
  · rename_i mf hj
    obtain ⟨hu, u3⟩ := ab_a2 hu
    obtain ⟨u1, u2⟩ := ab_a2 hu
    have u1 : C.1.length ≤ mf.2.2.1 := ab_ble u1
    obtain ⟨mi, hmi, hmk⟩ := hwms j mf hj
    rw [hmj] at hmi
    cases hmi
    obtain ⟨⟨d1, -⟩, -⟩ := wk_mck_d fty lk tls hmk
    obtain ⟨e, he, hle⟩ := ab_ms_ok u3
    have hlen := ab_gA_len hA
    refine ab_tab_ok hcmp htv hU hpm hwms hCt hR (h0 := h) hmk (hnf mf hj) u2 e he ρ _ had (ab_leS_ok htv hle ⟨rfl, ?_, trivial, hF, hI, hK, fun a ha => ⟨fun _ => rfl, fun _ i _ => rfl⟩, rfl, ?_, ?_, Nat.le_refl _, Nat.le_refl _⟩)
    · have e1 : Nat.sub mf.2.2.1 C.1.length = am_L mj - as.length := by
        show mf.2.2.1 - C.1.length = _
        rw [d1, hlen]
      show ab_gO τ tv ρ (C.1 ++ ab_5s (Nat.sub mf.2.2.1 C.1.length)) _
      rw [e1]
      exact ab_gA_O hA (ab_5s_ok _)
    · exact Nat.le_refl _
    · exact Nat.le_refl _
  · cases hu
end ABY
