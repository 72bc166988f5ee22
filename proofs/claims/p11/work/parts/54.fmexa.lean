/-! ===== each instruction of the fast machine, on the abstract machine ===== -/
def fm_as (hp : am_H) (nL : Nat) (S : fm_S) : am_S := (S.1, fm_lo hp.length nL S.2.1, S.2.2.1.map (fm_d hp.length), fm_ah hp S.2.2.2.1, S.2.2.2.2.1, S.2.2.2.2.2)
def fm_ar (hp : am_H) (r : fm_R) : am_R := (match r.1 with
  | .inl v => .inl (v.map (fm_d hp.length))
  | .inr x => .inr (hp.length + x), fm_ah hp r.2.1, r.2.2.1, r.2.2.2)
def fm_ax (hp : am_H) (nL : Nat) (x : fm_S ⊕ (fm_R ⊕ (Nat × List Nat × fm_S))) : am_X := match x with
  | .inl S => .inl (fm_as hp nL S)
  | .inr (.inl r) => .inr (.inl (fm_ar hp r))
  | .inr (.inr (j, as, S)) => .inr (.inr (j, as.map (fm_d hp.length), fm_as hp nL S))
def fm_okx (x : fm_S ⊕ (fm_R ⊕ (Nat × List Nat × fm_S))) : Prop := match x with
  | .inl S => fm_ok S.2.2.2.1
  | .inr (.inl r) => fm_ok r.2.1
  | .inr (.inr (_, _, S)) => fm_ok S.2.2.2.1
theorem fm_bt {α : Type} {c : Bool} {A : Option α} {x : α} (h : (bif c then A else none) = some x) : c = true ∧ A = some x := by
  cases c with
  | true => exact ⟨rfl, h⟩
  | false => cases h
theorem fm_bf {α : Type} {c : Bool} {A : Option α} {x : α} (h : (bif c then none else A) = some x) : c = false ∧ A = some x := by
  cases c with
  | true => cases h
  | false => exact ⟨rfl, h⟩
theorem fm_a2 {a b : Bool} (h : (a && b) = true) : a = true ∧ b = true := by
  cases a <;> cases b <;> first | exact ⟨rfl, rfl⟩ | cases h
theorem fm_sm_d {v : Nat} (h : fm_sm v = true) : v < 2 ^ 36 ∧ v ≠ 0 := by
  obtain ⟨h1, h2⟩ := fm_a2 h
  refine ⟨Nat.le_of_ble_eq_true h1, fun h0 => ?_⟩
  subst h0
  cases h2
section FMA
variable {hp : am_H} {nL pc L k q : Nat} {st : List Nat} {H : fm_H} {x : fm_S ⊕ (fm_R ⊕ (Nat × List Nat × fm_S))}
theorem fs_lod {j len : Nat} {re : Bool} (hk : fm_ok H) (hj : j < nL) (h : fx_lod (fm_g L j) (Nat.add pc len) re L st H k q = some x) : am_lod len j len re pc (fm_lo hp.length nL L) (st.map (fm_d hp.length)) (fm_ah hp H) k q = some (fm_ax hp nL x) ∧ fm_okx x := by
  unfold fx_lod at h
  obtain ⟨h1, h2⟩ := fm_bt h
  cases h2
  refine ⟨?_, hk⟩
  show _ = am_go (pc + len, fm_lo hp.length nL L, fm_d hp.length (fm_g L j) :: st.map (fm_d hp.length), fm_ah hp H, k, q)
  unfold am_lod
  rw [if_pos rfl, fm_lo_get hj]
  generalize fm_g L j = v at h1 ⊢
  have h0 : v ≠ 0 := fun e => by subst e; cases re <;> cases h1
  unfold fm_dl
  rw [if_neg h0]
  cases re with
  | true =>
    have h2 : 2 ≤ v % 4 := Nat.le_of_ble_eq_true h1
    have hv : v % 8 = 2 ∨ v % 8 = 3 ∨ v % 8 = 6 ∨ v % 8 = 7 := by omega
    rcases hv with hv | hv | hv | hv
    · rw [fm_d2 hv]; rfl
    · rw [fm_d3 hv]; rfl
    · rw [fm_d6 hv]; rfl
    · rw [fm_d7 hv]; rfl
  | false =>
    have h2 : v % 4 = 1 := Nat.eq_of_beq_eq_true h1
    have hv : v % 8 = 1 ∨ v % 8 = 5 := by omega
    rcases hv with hv | hv
    · rw [fm_d1 hv]; rfl
    · rw [fm_d5 hv]; rfl
theorem fs_sto {j len : Nat} {re : Bool} (hk : fm_ok H) (hj : j < nL) (h : fx_sto j (Nat.add pc len) re L st H k q = some x) : am_sto len j len re pc (fm_lo hp.length nL L) (st.map (fm_d hp.length)) (fm_ah hp H) k q = some (fm_ax hp nL x) ∧ fm_okx x := by
  unfold fx_sto at h
  split at h
  · rename_i v r
    obtain ⟨h1, h2⟩ := fm_bt h
    obtain ⟨h3, h4⟩ := fm_a2 h1
    obtain ⟨s1, s2⟩ := fm_sm_d h3
    cases h2
    refine ⟨?_, hk⟩
    show _ = am_go (pc + len, fm_lo hp.length nL (fm_s L j v), r.map (fm_d hp.length), fm_ah hp H, k, q)
    unfold am_sto
    rw [if_pos rfl, if_pos (by rw [fm_lo_len]; exact hj), fm_lo_set s1 s2, List.map_cons]
    cases re with
    | true =>
      have h4 : (Nat.beq (Nat.mod v 8) 2 || Nat.beq v 3) = true := h4
      rcases Bool.or_eq_true_iff.mp h4 with g | g
      · rw [fm_d2 (Nat.eq_of_beq_eq_true g)]; rfl
      · have g : v = 3 := Nat.eq_of_beq_eq_true g
        rw [fm_d3 (by omega)]; rfl
    | false =>
      have h2 : v % 4 = 1 := Nat.eq_of_beq_eq_true h4
      have hv : v % 8 = 1 ∨ v % 8 = 5 := by omega
      rcases hv with hv | hv
      · rw [fm_d1 hv]; rfl
      · rw [fm_d5 hv]; rfl
  · cases h
theorem fs_inc {j c : Nat} {z : Int} (hk : fm_ok H) (hj : j < nL) (hz : Int32.ofInt z = Int32.ofNat c) (h : fx_inc j c (fm_g L j) pc L st H k q = some x) : (match (fm_lo hp.length nL L)[j]? with
    | some (some (.int w)) => am_go (pc + 3, (fm_lo hp.length nL L).set j (some (.int (w + Int32.ofInt z))), st.map (fm_d hp.length), fm_ah hp H, k, q)
    | _ => none) = some (fm_ax hp nL x) ∧ fm_okx x := by
  unfold fx_inc at h
  obtain ⟨h1, h2⟩ := fm_bt h
  cases h2
  refine ⟨?_, hk⟩
  show _ = am_go (pc + 3, fm_lo hp.length nL (fm_s L j (fm_mk (fm_g L j / 8 + c))), st.map (fm_d hp.length), fm_ah hp H, k, q)
  have h0 : fm_mk (fm_g L j / 8 + c) ≠ 0 := Nat.succ_ne_zero _
  rw [fm_lo_get hj, fm_lo_set (fm_mk_sm _) h0, fm_d_mk, Int32.ofNat_add]
  have hv : fm_g L j % 8 = 1 := Nat.eq_of_beq_eq_true h1
  unfold fm_dl
  rw [if_neg (by omega), fm_d1 hv, hz]
theorem fs_bin {f : Nat → Nat → Nat} {g : Int32 → Int32 → Option Int32} (hk : fm_ok H) (hf : ∀ u v, g (Int32.ofNat u) (Int32.ofNat v) = some (Int32.ofNat (f u v))) (h : fx_bin f pc L st H k q = some x) : am_bin 1 g pc (fm_lo hp.length nL L) (st.map (fm_d hp.length)) (fm_ah hp H) k q = some (fm_ax hp nL x) ∧ fm_okx x := by
  unfold fx_bin at h
  split at h
  · rename_i y u r
    obtain ⟨h1, h2⟩ := fm_bt h
    obtain ⟨h3, h4⟩ := fm_a2 h1
    cases h2
    refine ⟨?_, hk⟩
    show _ = am_go (pc + 1, fm_lo hp.length nL L, fm_d hp.length (fm_mk (f (u / 8) (y / 8))) :: r.map (fm_d hp.length), fm_ah hp H, k, q)
    unfold am_bin
    rw [if_pos rfl, List.map_cons, List.map_cons, fm_iv_d h3, fm_iv_d h4, fm_d_mk]
    dsimp only
    rw [hf]
  · cases h
theorem fs_dv {f : Nat → Nat → Nat} {g : Int32 → Int32 → Option Int32} (hk : fm_ok H) (hf : ∀ u v, Int32.ofNat v ≠ 0 → g (Int32.ofNat u) (Int32.ofNat v) = some (Int32.ofNat (f u v))) (h : fx_dv f pc L st H k q = some x) : am_bin 1 g pc (fm_lo hp.length nL L) (st.map (fm_d hp.length)) (fm_ah hp H) k q = some (fm_ax hp nL x) ∧ fm_okx x := by
  unfold fx_dv at h
  split at h
  · rename_i y r0
    obtain ⟨h0, hb⟩ := fm_bf h
    have hy : Int32.ofNat (y / 8) ≠ 0 := fun e => by
      have e : Int32.ofNat (y / 8) = Int32.ofNat 0 := e
      rw [fm_i_inj] at e
      have h0 : Nat.beq (Nat.mod (Nat.div y 8) 4294967296) 0 = false := h0
      exact Nat.ne_of_beq_eq_false h0 e
    unfold fx_bin at hb
    split at hb
    · rename_i y' u r e
      cases e
      obtain ⟨h1, h2⟩ := fm_bt hb
      obtain ⟨h3, h4⟩ := fm_a2 h1
      cases h2
      refine ⟨?_, hk⟩
      show _ = am_go (pc + 1, fm_lo hp.length nL L, fm_d hp.length (fm_mk (f (u / 8) (y / 8))) :: r.map (fm_d hp.length), fm_ah hp H, k, q)
      unfold am_bin
      rw [if_pos rfl, List.map_cons, List.map_cons, fm_iv_d h3, fm_iv_d h4, fm_d_mk]
      dsimp only
      rw [hf _ _ hy]
    · cases hb
  · cases h
theorem fm_oc_eq (l : List (ClassFile.Cond × Nat × Int32 × Bool)) (c : ClassFile.Cond) (n : Nat) (y : Int32) : fm_oc l (am_cc c) n y = am_oc l c n y := by
  induction l with
  | nil => rfl
  | cons z r ih =>
    obtain ⟨d, j, w, t⟩ := z
    unfold fm_oc am_oc
    rw [ih]
theorem fs_cv {c : Nat} {os : List (ClassFile.Cond × Nat × Int32 × Bool)} {cd : ClassFile.Cond} {v y : Nat} {t : Bool} (h : fx_cv os (am_cc cd) v y = some t) : am_cv os cd (fm_d c v) (Int32.ofNat y) = some t := by
  unfold fx_cv at h
  cases h1 : fm_iv v with
  | true =>
    rw [h1] at h
    rw [fm_iv_d h1]
    have h : some (fm_cnd (am_cc cd) (v / 8) y) = some t := h
    rw [fm_cnd_eq] at h
    exact h
  | false =>
    rw [h1] at h
    have h : (bif Nat.beq (Nat.mod v 8) 5 then fm_oc os (am_cc cd) (Nat.div v 8) (Int32.ofNat y) else none) = some t := h
    obtain ⟨h2, h3⟩ := fm_bt h
    rw [fm_d5 (Nat.eq_of_beq_eq_true h2)]
    rw [fm_oc_eq] at h3
    exact h3
theorem fs_br {o : Option Bool} {t : Nat} {off : Int} {r : List Nat} (hk : fm_ok H) (ht : (pc : Int) + off = (t : Int)) (h : fx_br o t pc L r H k q = some x) : ∃ b, o = some b ∧ am_br b pc off (fm_lo hp.length nL L) (r.map (fm_d hp.length)) (fm_ah hp H) k q = some (fm_ax hp nL x) ∧ fm_okx x := by
  unfold fx_br at h
  split at h
  · rename_i b
    cases h
    refine ⟨b, rfl, ?_, hk⟩
    unfold am_br
    rw [ht]
    rfl
  · cases h
theorem fs_ifc {xs : am_O} {cd : ClassFile.Cond} {t : Nat} {off : Int} (hk : fm_ok H) (ht : (pc : Int) + off = (t : Int)) (h : fx_ifc xs (am_cc cd) t pc L st H k q = some x) : (match st.map (fm_d hp.length) with
    | v :: r => match am_cv xs.2.2.1 cd v 0 with
      | some t => am_br t pc off (fm_lo hp.length nL L) r (fm_ah hp H) k q
      | none => none
    | _ => none) = some (fm_ax hp nL x) ∧ fm_okx x := by
  unfold fx_ifc at h
  split at h
  · rename_i v r
    obtain ⟨b, h1, h2, h3⟩ := fs_br (hp := hp) (nL := nL) hk ht h
    have h4 := fs_cv (c := hp.length) h1
    have h5 : am_cv xs.2.2.1 cd (fm_d hp.length v) 0 = some b := h4
    rw [List.map_cons]
    dsimp only
    rw [h5]
    exact ⟨h2, h3⟩
  · cases h
theorem fs_icm {xs : am_O} {cd : ClassFile.Cond} {t : Nat} {off : Int} (hk : fm_ok H) (ht : (pc : Int) + off = (t : Int)) (h : fx_icm xs (am_cc cd) t pc L st H k q = some x) : (match st.map (fm_d hp.length) with
    | .int y :: v :: r => match am_cv xs.2.2.1 cd v y with
      | some t => am_br t pc off (fm_lo hp.length nL L) r (fm_ah hp H) k q
      | none => none
    | _ => none) = some (fm_ax hp nL x) ∧ fm_okx x := by
  unfold fx_icm at h
  split at h
  · rename_i y v r
    obtain ⟨h0, h⟩ := fm_bt h
    obtain ⟨b, h1, h2, h3⟩ := fs_br (hp := hp) (nL := nL) hk ht h
    have h4 := fs_cv (c := hp.length) h1
    have h5 : am_cv xs.2.2.1 cd (fm_d hp.length v) (Int32.ofNat (y / 8)) = some b := h4
    rw [List.map_cons, List.map_cons, fm_iv_d h0]
    dsimp only
    rw [h5]
    exact ⟨h2, h3⟩
  · cases h
theorem fs_and {xs : am_O} (hk : fm_ok H) (h : fx_and xs pc L st H k q = some x) : am_and xs.2.2.2 1 pc (fm_lo hp.length nL L) (st.map (fm_d hp.length)) (fm_ah hp H) k q = some (fm_ax hp nL x) ∧ fm_okx x := by
  unfold fx_and at h
  split at h
  · rename_i y u r
    obtain ⟨h0, h⟩ := fm_bt h
    unfold am_and
    rw [if_pos rfl, List.map_cons, List.map_cons, fm_iv_d h0]
    cases h1 : fm_iv u with
    | true =>
      rw [h1] at h
      cases h
      refine ⟨?_, hk⟩
      rw [fm_iv_d h1]
      show _ = am_go (pc + 1, fm_lo hp.length nL L, fm_d hp.length (fm_mk (fm_u (Int32.ofNat (u / 8) &&& Int32.ofNat (y / 8)))) :: r.map (fm_d hp.length), fm_ah hp H, k, q)
      rw [fm_d_mk, fm_i_u]
    | false =>
      rw [h1] at h
      obtain ⟨h2, h⟩ := fm_bt h
      split at h
      · rename_i z hz
        cases h
        refine ⟨?_, hk⟩
        rw [fm_d5 (Nat.eq_of_beq_eq_true h2)]
        show _ = am_go (pc + 1, fm_lo hp.length nL L, fm_d hp.length (fm_mk (fm_u z)) :: r.map (fm_d hp.length), fm_ah hp H, k, q)
        rw [fm_d_mk, fm_i_u]
        have hz : am_oa xs.2.2.2 (u / 8) (Int32.ofNat (y / 8)) = some z := hz
        dsimp only
        rw [hz]
      · cases h
  · cases h
end FMA
