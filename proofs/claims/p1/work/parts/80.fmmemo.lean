/-! ===== runs put together: more fuel, less oracle, calls from a table ===== -/
section AMMO
variable {fty : Nat → Nat → Option FieldType} {dfl : Nat → Option (List Value)} {cmp : Nat → Option (Option Nat)} {lk : Nat → Nat → Option am_K} {ms : Nat → Option am_M} {cx : Nat → Option Nat}
theorem am_mono1 : ∀ (f : Nat) (xs : am_O) (mi : am_M) (S : am_S) (r : am_R), am_run fty dfl cmp lk ms cx xs f mi S = some r → am_run fty dfl cmp lk ms cx xs (f + 1) mi S = some r
  | 0, _, _, _, _, h => by cases h
  | f + 1, xs, mi, S, r, h => by
    unfold am_run at h ⊢
    split at h
    · cases h
    · rename_i S' hs
      try rw [hs]
      exact am_mono1 f xs mi S' r h
    · rename_i r' hs
      try rw [hs]
      exact h
    · rename_i j as pc lo st h0 k q hs
      try rw [hs]
      try dsimp only
      split at h
      · cases h
      · rename_i mj hmj
        try rw [hmj]
        try dsimp only
        split at h
        · rename_i hroom
          try rw [if_pos hroom]
          split at h
          · rename_i v h' k' q' hr
            rw [am_mono1 f _ _ _ _ hr]
            exact am_mono1 f _ _ _ _ h
          · rename_i x h' k' q' hr
            rw [am_mono1 f _ _ _ _ hr]
            try dsimp only
            split at h
            · rename_i ix n hin
              try rw [hin]
              try dsimp only
              split at h
              · rename_i kk c hl hx
                try rw [hl, hx]
                try dsimp only
                split at h
                · rename_i h20
                  try rw [if_pos h20]
                  split at h
                  · rename_i t ht
                    try rw [ht]
                    exact am_mono1 f _ _ _ _ h
                  · cases h
                · cases h
              · cases h
            · cases h
          · cases h
        · cases h
theorem am_mono {f g : Nat} {xs : am_O} {mi : am_M} {S : am_S} {r : am_R} (h : am_run fty dfl cmp lk ms cx xs f mi S = some r) (hg : f ≤ g) : am_run fty dfl cmp lk ms cx xs g mi S = some r := by
  obtain ⟨d, rfl⟩ := Nat.le.dest hg
  induction d with
  | zero => exact h
  | succ d ih => exact am_mono1 _ _ _ _ _ (ih (Nat.le_add_right _ _))
/-- nothing is known of the script -/
abbrev am_o0 : am_O := (none, [], [], [])
theorem am_cv_om {os : List (ClassFile.Cond × Nat × Int32 × Bool)} {c : ClassFile.Cond} {v : Value} {y : Int32} {t : Bool} (h : am_cv [] c v y = some t) : am_cv os c v y = some t := by
  unfold am_cv at h ⊢
  split at h
  · exact h
  · cases h
  · cases h
theorem am_exec_om {xs : am_O} {mi : am_M} {i : Instr} {n pc k q : Nat} {lo : List (Option Value)} {st : List Value} {hh : am_H} {X : am_X} (h : am_exec fty dfl cmp lk am_o0 mi i n pc lo st hh k q = some X) : am_exec fty dfl cmp lk xs mi i n pc lo st hh k q = some X := by
  cases i
  case iand =>
    simp only [am_exec, am_and] at h ⊢
    split at h
    · rename_i hn
      rw [if_pos hn]
      split at h
      · exact h
      · split at h
        · rename_i hz
          cases hz
        · cases h
      · cases h
    · cases h
  case ifCond c off =>
    simp only [am_exec] at h ⊢
    split at h
    · rename_i hn
      rw [if_pos hn]
      split at h
      · split at h
        · rename_i ht
          rw [am_cv_om ht]
          exact h
        · cases h
      · cases h
    · cases h
  case if_icmp c off =>
    simp only [am_exec] at h ⊢
    split at h
    · rename_i hn
      rw [if_pos hn]
      split at h
      · split at h
        · rename_i ht
          rw [am_cv_om ht]
          exact h
        · cases h
      · cases h
    · cases h
  case iaload =>
    simp only [am_exec] at h ⊢
    split at h
    · rename_i hn
      rw [if_pos hn]
      split at h
      · exact h
      · cases h
      · cases h
    · cases h
  case arraylength =>
    simp only [am_exec] at h ⊢
    split at h
    · rename_i hn
      rw [if_pos hn]
      split at h
      · exact h
      · cases h
      · cases h
    · cases h
  case newarray ty => cases ty <;> exact h
  all_goals exact h
theorem am_step_om {xs : am_O} {mi : am_M} {S : am_S} {X : am_X} (h : am_step fty dfl cmp lk am_o0 mi S = some X) : am_step fty dfl cmp lk xs mi S = some X := by
  unfold am_step at h ⊢
  split at h
  · exact am_exec_om h
  · cases h
theorem am_run_om : ∀ (f : Nat) (xs : am_O) (mi : am_M) (S : am_S) (r : am_R), am_run fty dfl cmp lk ms cx am_o0 f mi S = some r → am_run fty dfl cmp lk ms cx xs f mi S = some r
  | 0, _, _, _, _, h => by cases h
  | f + 1, xs, mi, S, r, h => by
    unfold am_run at h ⊢
    split at h
    · cases h
    · rename_i S' hs
      rw [am_step_om hs]
      exact am_run_om f xs mi S' r h
    · rename_i r' hs
      rw [am_step_om hs]
      exact h
    · rename_i j as pc lo st h0 k q hs
      rw [am_step_om hs]
      try dsimp only
      split at h
      · cases h
      · rename_i mj hmj
        try rw [hmj]
        try dsimp only
        split at h
        · rename_i hroom
          try rw [if_pos hroom]
          split at h
          · rename_i v h' k' q' hr
            rw [am_run_om f (none, xs.2) _ _ _ hr]
            exact am_run_om f _ _ _ _ h
          · rename_i x h' k' q' hr
            rw [am_run_om f (none, xs.2) _ _ _ hr]
            try dsimp only
            split at h
            · rename_i ix n hin
              try rw [hin]
              try dsimp only
              split at h
              · rename_i kk c hl hx
                try rw [hl, hx]
                try dsimp only
                split at h
                · rename_i h20
                  try rw [if_pos h20]
                  split at h
                  · rename_i t ht
                    try rw [ht]
                    exact am_run_om f _ _ _ _ h
                  · cases h
                · cases h
              · cases h
            · cases h
          · cases h
        · cases h
end AMMO
/-- calls that are known: method, arguments, heap; the end -/
abbrev fm_Tb : Type := List (Nat × List Nat × fm_H × fm_R)
def fm_eqL : List Nat → List Nat → Bool
  | [], [] => true
  | a :: l, b :: m => Nat.beq a b && fm_eqL l m
  | _, _ => false
def fm_eqH (A B : fm_H) : Bool := Nat.beq A.1 B.1 && (Nat.beq A.2.1 B.2.1 && (Nat.beq A.2.2.1 B.2.2.1 && Nat.beq A.2.2.2 B.2.2.2))
theorem fm_eqL_d : ∀ {l m : List Nat}, fm_eqL l m = true → l = m
  | [], [], _ => rfl
  | [], _ :: _, h => by cases h
  | _ :: _, [], h => by cases h
  | a :: l, b :: m, h => by
    obtain ⟨h1, h2⟩ := fm_a2 h
    rw [Nat.eq_of_beq_eq_true h1, fm_eqL_d h2]
theorem fm_eqH_d {A B : fm_H} (h : fm_eqH A B = true) : A = B := by
  obtain ⟨a1, a2, a3, a4⟩ := A
  obtain ⟨b1, b2, b3, b4⟩ := B
  obtain ⟨h1, h⟩ := fm_a2 h
  obtain ⟨h2, h⟩ := fm_a2 h
  obtain ⟨h3, h4⟩ := fm_a2 h
  have h1 : a1 = b1 := Nat.eq_of_beq_eq_true h1
  have h2 : a2 = b2 := Nat.eq_of_beq_eq_true h2
  have h3 : a3 = b3 := Nat.eq_of_beq_eq_true h3
  have h4 : a4 = b4 := Nat.eq_of_beq_eq_true h4
  rw [h1, h2, h3, h4]
def fm_look : fm_Tb → Nat → List Nat → fm_H → Option fm_R
  | [], _, _, _ => none
  | (j', as', H', r) :: t, j, as, H => bif Nat.beq j' j && (fm_eqL as' as && fm_eqH H' H) then some r else fm_look t j as H
theorem fm_look_mem {tb : fm_Tb} {j : Nat} {as : List Nat} {H : fm_H} {r : fm_R} (h : fm_look tb j as H = some r) : (j, as, H, r) ∈ tb := by
  induction tb with
  | nil => cases h
  | cons x t ih =>
    obtain ⟨j', as', H', r'⟩ := x
    have h : (bif Nat.beq j' j && (fm_eqL as' as && fm_eqH H' H) then some r' else fm_look t j as H) = some r := h
    cases hq : (Nat.beq j' j && (fm_eqL as' as && fm_eqH H' H)) with
    | true =>
      rw [hq] at h
      cases h
      obtain ⟨h1, h2⟩ := fm_a2 hq
      obtain ⟨h2, h3⟩ := fm_a2 h2
      rw [Nat.eq_of_beq_eq_true h1, fm_eqL_d h2, fm_eqH_d h3]
      exact List.mem_cons_self
    | false =>
      rw [hq] at h
      exact List.mem_cons_of_mem _ (ih h)
section FMT
variable (cmp : Nat → Option (Option Nat)) (tl : List Nat) (bl : Nat → Nat) (cx : Nat → Option Nat) (ms : Nat → Option fm_M) (tb : fm_Tb)
def fm_t2 (rec : fm_Fn) (xs : am_O) (mi : fm_M) (j : Nat) (as : List Nat) (S : fm_S) (mj : fm_M) : Option fm_R :=
  bif Nat.ble (Nat.add mj.2.2.2.1 1) mi.2.2.2.1 && Nat.ble (Nat.add (Nat.add 8 (Nat.add mj.2.2.1 11)) mj.2.2.2.2.1) mi.2.2.2.2.1 && Nat.ble as.length mj.2.2.1 && as.all fm_sm then (match fm_look tb j as S.2.2.2.1 with
    | some r => fm_k3 cx rec xs mi S r
    | none => match rec (none, xs.2) mj (0, fm_p as, [], S.2.2.2.1, 0, 0) with
      | some r => fm_k3 cx rec xs mi S r
      | none => none) else none
def fm_t1 (rec : fm_Fn) (xs : am_O) (mi : fm_M) (y : fm_R ⊕ (Nat × List Nat × fm_S)) : Option fm_R := match y with
  | .inl r => some r
  | .inr (j, as, S) => match ms j with
    | some mj => fm_t2 cx tb rec xs mi j as S mj
    | none => none
def fm_t0 (rec : fm_Fn) (xs : am_O) (mi : fm_M) (x : fm_X) : Option fm_R := match x with
  | none => none
  | some (.inl S') => rec xs mi S'
  | some (.inr y) => fm_t1 cx ms tb rec xs mi y
def fm_td (rec : fm_Fn) (xs : am_O) (mi : fm_M) (S : fm_S) : Option fm_R := match S with
  | (pc, L, st, H, k, q) => bif Nat.blt pc mi.2.1 then fm_t0 cx ms tb rec xs mi (fm_sp cmp tl bl xs (fm_w mi.1 pc) pc L st H k q) else none
def fm_runT : Nat → fm_Fn
  | 0 => fun _ _ _ => none
  | f + 1 => fm_td cmp tl bl cx ms tb (fm_runT f)
end FMT
section FMTOK
variable {fty : Nat → Nat → Option FieldType} {dfl : Nat → Option (List Value)} {lk : Nat → Nat → Option am_K} {tl : List Nat}
variable {cmp : Nat → Option (Option Nat)} {bl : Nat → Nat} {cx : Nat → Option Nat} {fms : Nat → Option fm_M} {ms : Nat → Option am_M} {hp : am_H}
/-- a call in the table is a run -/
def fm_tbe (fty : Nat → Nat → Option FieldType) (dfl : Nat → Option (List Value)) (cmp : Nat → Option (Option Nat)) (lk : Nat → Nat → Option am_K) (ms : Nat → Option am_M) (cx : Nat → Option Nat) (hp : am_H) (e : Nat × List Nat × fm_H × fm_R) : Prop := ∀ mi, ms e.1 = some mi → ∃ f, am_run fty dfl cmp lk ms cx am_o0 f mi (fm_as hp (am_L mi) (0, fm_p e.2.1, [], e.2.2.1, 0, 0)) = some (fm_ar hp e.2.2.2) ∧ fm_ok e.2.2.2.2.1
theorem fm_runT_ok {tb : fm_Tb} (hcmp : ∀ t, 103 ≤ t → t ≤ 106 → (cmp t).isSome = true) (hbl : ∀ ci vs, dfl ci = some vs → ((List.range vs.length).map fun j => fm_d hp.length (fm_g (bl ci) j)) = vs) (hms : ∀ j mf, fms j = some mf → ∃ mi, ms j = some mi ∧ fm_mck fty dfl lk tl mi mf = true) (htb : ∀ e ∈ tb, fm_tbe fty dfl cmp lk ms cx hp e) : ∀ (f : Nat) (xs : am_O) (mi : am_M) (mf : fm_M) (S : fm_S) (r : fm_R), fm_mck fty dfl lk tl mi mf = true → fm_ok S.2.2.2.1 → fm_runT cmp tl bl cx fms tb f xs mf S = some r → (∃ g, am_run fty dfl cmp lk ms cx xs g mi (fm_as hp (am_L mi) S) = some (fm_ar hp r)) ∧ fm_ok r.2.1
  | 0, xs, mi, mf, S, r, _, _, h => by cases h
  | f + 1, xs, mi, mf, S, r, hm, hk, h => by
    have ih := fm_runT_ok hcmp hbl hms htb f
    obtain ⟨⟨d1, d2, d3, d4⟩, hcode, hcat⟩ := fm_mck_d fty dfl lk tl hm
    obtain ⟨pc, L, st, H, k, q⟩ := S
    have h : (bif Nat.blt pc mf.2.1 then fm_t0 cx fms tb (fm_runT cmp tl bl cx fms tb f) xs mf (fm_sp cmp tl bl xs (fm_w mf.1 pc) pc L st H k q) else none) = some r := h
    obtain ⟨hpc, h⟩ := fm_bt h
    have hpc : pc < mf.2.1 := Nat.le_of_ble_eq_true hpc
    generalize hX : fm_sp cmp tl bl xs (fm_w mf.1 pc) pc L st H k q = X at h
    cases X with
    | none => cases h
    | some x =>
      have hX : fm_ex cmp tl bl xs (fm_w0 (fm_w mf.1 pc)) (fm_w1 (fm_w mf.1 pc)) (fm_w2 (fm_w mf.1 pc)) (fm_w3 (fm_w mf.1 pc)) (fm_w4 (fm_w mf.1 pc)) pc L st H k q = some x := hX
      have hop : fm_w0 (fm_w mf.1 pc) ≠ 0 := fun e => by
        rw [e] at hX
        exact nomatch (show (none : fm_X) = some x from hX)
      obtain ⟨i, n, hins, hck⟩ := hcode pc hpc hop
      obtain ⟨hex, hokx⟩ := fm_exec_ok (hp := hp) hcmp hbl hck hk hX
      have hstep : am_step fty dfl cmp lk xs mi (fm_as hp (am_L mi) (pc, L, st, H, k, q)) = some (fm_ax hp (am_L mi) x) := by
        unfold am_step
        show (match am_ins (am_c mi) pc with
          | some (i, n) => am_exec fty dfl cmp lk xs mi i n pc (fm_lo hp.length (am_L mi) L) (st.map (fm_d hp.length)) (fm_ah hp H) k q
          | none => none) = _
        rw [hins]
        exact hex
      match x, h, hokx, hex, hstep with
      | .inl S', h, hokx, _, hstep =>
        obtain ⟨⟨g, hg⟩, ho⟩ := ih xs mi mf S' r hm hokx h
        refine ⟨⟨g + 1, ?_⟩, ho⟩
        unfold am_run
        rw [hstep]
        exact hg
      | .inr (.inl r'), h, hokx, _, hstep =>
        have h : some r' = some r := h
        cases h
        refine ⟨⟨1, ?_⟩, hokx⟩
        unfold am_run
        rw [hstep]
        rfl
      | .inr (.inr (j, as, (pc', L', st', H', k', q'))), h, hokx, hex, hstep =>
        have hpc' : pc' = pc := fm_ask_pc hex
        have h : (match fms j with
          | some mj => fm_t2 cx tb (fm_runT cmp tl bl cx fms tb f) xs mf j as (pc', L', st', H', k', q') mj
          | none => none) = some r := h
        split at h
        · rename_i mj hj
          obtain ⟨mj', hmj, hmk⟩ := hms j mj hj
          obtain ⟨⟨c1, c2, c3, c4⟩, -, -⟩ := fm_mck_d fty dfl lk tl hmk
          unfold fm_t2 at h
          obtain ⟨hc, h⟩ := fm_bt h
          obtain ⟨hc, hall⟩ := fm_a2 hc
          obtain ⟨hc, hlen⟩ := fm_a2 hc
          obtain ⟨hfr, hwo⟩ := fm_a2 hc
          have hfr : mj.2.2.2.1 + 1 ≤ mf.2.2.2.1 := Nat.le_of_ble_eq_true hfr
          have hwo : 8 + (mj.2.2.1 + 11) + mj.2.2.2.2.1 ≤ mf.2.2.2.2.1 := Nat.le_of_ble_eq_true hwo
          have hlen : as.length ≤ mj.2.2.1 := Nat.le_of_ble_eq_true hlen
          rw [c2, d2] at hfr
          rw [c1, c3, d3] at hwo
          rw [c1] at hlen
          have hsm : ∀ v ∈ as, v < 2 ^ 36 ∧ v ≠ 0 := fun v hv => fm_sm_d (List.all_eq_true.mp hall v hv)
          have hent : fm_as hp (am_L mj') (0, fm_p as, [], H', 0, 0) = (0, (as.map (fm_d hp.length)).map some ++ List.replicate (am_L mj' - (as.map (fm_d hp.length)).length) none, [], fm_ah hp H', 0, 0) := by
            show (0, fm_lo hp.length (am_L mj') (fm_p as), _, _, _, _) = _
            rw [fm_lo_p hlen hsm, List.length_map]
            rfl
          have hcall : ∃ r2, (∃ g, am_run fty dfl cmp lk ms cx (none, xs.2) g mj' (fm_as hp (am_L mj') (0, fm_p as, [], H', 0, 0)) = some (fm_ar hp r2)) ∧ fm_ok r2.2.1 ∧ fm_k3 cx (fm_runT cmp tl bl cx fms tb f) xs mf (pc', L', st', H', k', q') r2 = some r := by
            split at h
            · rename_i r2 hlook
              obtain ⟨g, hg, hgo⟩ := htb _ (fm_look_mem hlook) mj' hmj
              exact ⟨r2, ⟨g, am_run_om g _ _ _ _ hg⟩, hgo, h⟩
            · split at h
              · rename_i r2 hr2
                obtain ⟨hg, hgo⟩ := ih (none, xs.2) mj' mj (0, fm_p as, [], H', 0, 0) r2 hmk hokx hr2
                exact ⟨r2, hg, hgo, h⟩
              · cases h
          obtain ⟨r2, ⟨g1, hcall⟩, hok2, h⟩ := hcall
          rw [hent] at hcall
          have hnext : ∀ g2, am_run fty dfl cmp lk ms cx xs (g1 + g2 + 1) mi (fm_as hp (am_L mi) (pc, L, st, H, k, q)) = (match fm_ar hp r2 with
              | (.inl v, h', k2, q2) => am_run fty dfl cmp lk ms cx xs (g1 + g2) mi (pc' + 3, fm_lo hp.length (am_L mi) L', v.toList ++ st'.map (fm_d hp.length), h', k' + k2, q' + q2)
              | (.inr x, h', k2, q2) => match am_ins (am_c mi) pc' with
                  | some (.invokevirtual ix, _) => match lk (am_o mi) ix, h'[x]? with
                    | some kk, some c => if kk.1 = 20 then match am_catch cx (am_h mi) pc' c.1 with
                      | some t => am_run fty dfl cmp lk ms cx xs (g1 + g2) mi (t, fm_lo hp.length (am_L mi) L', [.ref x], h', k' + k2, q' + q2)
                      | none => none
                      else none
                    | _, _ => none
                  | _ => none) := by
            intro g2
            conv => lhs; unfold am_run
            rw [hstep]
            show (match ms j with
              | none => none
              | some mj => if am_f mj + 1 ≤ am_f mi ∧ 8 + (am_L mj + 11) + am_w mj ≤ am_w mi ∧ (as.map (fm_d hp.length)).length ≤ am_L mj then match am_run fty dfl cmp lk ms cx (none, xs.2) (g1 + g2) mj (0, (as.map (fm_d hp.length)).map some ++ List.replicate (am_L mj - (as.map (fm_d hp.length)).length) none, [], fm_ah hp H', 0, 0) with
                | some (.inl v, h', k2, q2) => am_run fty dfl cmp lk ms cx xs (g1 + g2) mi (pc' + 3, fm_lo hp.length (am_L mi) L', v.toList ++ st'.map (fm_d hp.length), h', k' + k2, q' + q2)
                | some (.inr x, h', k2, q2) => match am_ins (am_c mi) pc' with
                  | some (.invokevirtual ix, _) => match lk (am_o mi) ix, h'[x]? with
                    | some kk, some c => if kk.1 = 20 then match am_catch cx (am_h mi) pc' c.1 with
                      | some t => am_run fty dfl cmp lk ms cx xs (g1 + g2) mi (t, fm_lo hp.length (am_L mi) L', [.ref x], h', k' + k2, q' + q2)
                      | none => none
                      else none
                    | _, _ => none
                  | _ => none
                | none => none
                else none) = _
            rw [hmj]
            dsimp only
            rw [if_pos ⟨hfr, hwo, by rw [List.length_map]; exact hlen⟩, am_mono hcall (Nat.le_add_right g1 g2)]
            obtain ⟨v | x, H2, k2, q2⟩ := r2 <;> rfl
          obtain ⟨v | x, H2, k2, q2⟩ := r2
          · have h : fm_runT cmp tl bl cx fms tb f xs mf (pc' + 3, L', v.toList ++ st', H2, k' + k2, q' + q2) = some r := h
            obtain ⟨⟨g2, e⟩, ho⟩ := ih xs mi mf _ r hm hok2 h
            have e2 : fm_as hp (am_L mi) (pc' + 3, L', v.toList ++ st', H2, k' + k2, q' + q2) = (pc' + 3, fm_lo hp.length (am_L mi) L', (v.map (fm_d hp.length)).toList ++ st'.map (fm_d hp.length), fm_ah hp H2, k' + k2, q' + q2) := by
              show (_, _, (v.toList ++ st').map (fm_d hp.length), _, _, _) = _
              rw [List.map_append]
              cases v <;> rfl
            rw [e2] at e
            refine ⟨⟨g1 + g2 + 1, ?_⟩, ho⟩
            rw [hnext]
            exact am_mono e (Nat.le_add_left g2 g1)
          · have h : (bif Nat.blt x H2.1 && Nat.beq (fm_w0 (fm_w mf.1 pc')) 40 && Nat.beq (fm_w3 (fm_w mf.1 pc')) 2 then (match am_catch cx mf.2.2.2.2.2 pc' (fm_tg H2.2.2.1 x) with
              | some t => fm_runT cmp tl bl cx fms tb f xs mf (t, L', [Nat.add (Nat.mul 8 x) 2], H2, k' + k2, q' + q2)
              | none => none) else none) = some r := h
            obtain ⟨hc2, h⟩ := fm_bt h
            obtain ⟨hc2, hrc⟩ := fm_a2 hc2
            obtain ⟨hxl, h40⟩ := fm_a2 hc2
            have hxl : x < H2.1 := Nat.le_of_ble_eq_true hxl
            have h40 := Nat.eq_of_beq_eq_true h40
            have hrc := Nat.eq_of_beq_eq_true hrc
            rw [hpc'] at h40 hrc
            rw [h40, hrc] at hck
            obtain ⟨ix, rfl⟩ := fm_ck_iv hck
            have hck' := hck
            simp only [fm_ck] at hck'
            split at hck'
            · rename_i kk hl
              split at h
              · rename_i t ht
                rw [d4] at ht
                have hne : am_h mi ≠ [] := fun e => by rw [e] at ht; cases ht
                have h20 := hcat hne pc ix n kk hins hl
                obtain ⟨⟨g2, e⟩, ho⟩ := ih xs mi mf _ r hm hok2 h
                refine ⟨⟨g1 + g2 + 1, ?_⟩, ho⟩
                rw [hnext]
                show (match am_ins (am_c mi) pc' with
                  | some (.invokevirtual ix, _) => match lk (am_o mi) ix, (fm_ah hp H2)[hp.length + x]? with
                    | some kk, some c => if kk.1 = 20 then match am_catch cx (am_h mi) pc' c.1 with
                      | some t => am_run fty dfl cmp lk ms cx xs (g1 + g2) mi (t, fm_lo hp.length (am_L mi) L', [.ref (hp.length + x)], fm_ah hp H2, k' + k2, q' + q2)
                      | none => none
                      else none
                    | _, _ => none
                  | _ => none) = _
                rw [hpc', hins]
                dsimp only
                rw [hl, fm_ah_get hxl]
                dsimp only
                rw [if_pos h20]
                rw [hpc'] at ht
                rw [fm_cell_tag, ht]
                have e2 : fm_as hp (am_L mi) (t, L', [Nat.add (Nat.mul 8 x) 2], H2, k' + k2, q' + q2) = (t, fm_lo hp.length (am_L mi) L', [.ref (hp.length + x)], fm_ah hp H2, k' + k2, q' + q2) := by
                  show (_, _, [fm_d hp.length (8 * x + 2)], _, _, _) = _
                  rw [fm_d_ref]
                rw [e2] at e
                exact am_mono e (Nat.le_add_left g2 g1)
              · cases h
            · cases hck'
        · cases h
end FMTOK
