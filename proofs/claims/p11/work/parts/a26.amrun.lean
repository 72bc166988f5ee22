/-! ===== a run of the abstract machine is a run of the machine ===== -/
def am_okK (TS : List Cond) (cl : List vw_C) (ms : Nat → Option am_M) (Zx : State → Prop) (own : String) (ix : Nat) (kf : am_K) : Prop :=
  ((kf.1 = 20 ∨ kf.1 = 21) → ∃ (mj : am_M) (C : String) (T : u_T) (N ci : Nat), ms kf.2.1 = some mj ∧ am_okM TS mj ∧ am_par mj kf.2.2.1 ∧ Cond.instanceMethod (am_y mj) ∈ TS ∧ Cond.selects C (am_y mj) (am_y mj) ∈ TS ∧ kf.2.2.2 = (ci : Int) ∧ cl[ci]? = some (C, T, N) ∧ (kf.1 = 20 → Cond.methodLink own ix (am_y mj) ∈ TS) ∧ (kf.1 = 21 → ∃ host, ∀ s, Zx s → va_Nw (.methodLinkNest own ix (am_y mj) host) s)) ∧
  ((kf.1 = 22 ∨ kf.1 = 23) → ∃ mj : am_M, ms kf.2.1 = some mj ∧ am_par mj kf.2.2.1 ∧ Cond.static (am_y mj) ∈ TS ∧ (kf.1 = 22 → (am_okM TS mj ∨ am_okW TS mj) ∧ Cond.methodLink own ix (am_y mj) ∈ TS) ∧ (kf.1 = 23 → am_okM TS mj ∧ ∃ host, ∀ s, Zx s → va_Nw (.methodLinkNest own ix (am_y mj) host) s)) ∧
  ((kf.1 = 24 ∨ kf.1 = 25) → ∃ mj : am_M, ms kf.2.1 = some mj ∧ am_okM TS mj ∧ am_par mj kf.2.2.1 ∧ Cond.instanceMethod (am_y mj) ∈ TS ∧ (am_y mj).name = "<init>" ∧ am_r mj = none ∧ (kf.1 = 24 → Cond.methodLink own ix (am_y mj) ∈ TS) ∧ (kf.1 = 25 → ∃ host, ∀ s, Zx s → va_Nw (.methodLinkNest own ix (am_y mj) host) s))
def am_okD (TS : List Cond) (on : Nat → String) (mj : am_M) : Prop := (∀ x ∈ am_c mj, decode (am_b mj) x.1 = .ok (x.2.1, x.2.2)) ∧ plainName (am_y mj).cls = true ∧ (am_y mj).cls = on (am_o mj) ∧ (am_h mj ≠ [] → am_o mj = 10)
/-- all that the tables of the abstract machine must be for its runs to be the machine's -/
def am_All (l : Launch) (TS : List Cond) (D : va_G) (cl : List vw_C) (dA : Nat → ClassId) (tyl : List FieldType) (b : Nat) (Zx : State → Prop) (fty : Nat → Nat → Option FieldType) (dfl : Nat → Option (List Value)) (cmp : Nat → Option (Option Nat)) (lk : Nat → Nat → Option am_K) (ms : Nat → Option am_M) (cx : Nat → Option Nat) (on : Nat → String) : Prop :=
  am_Ok TS cl tyl Zx fty dfl cmp lk on ∧ am_good TS ∧ am_Zok b Zx ∧ l.stackTraces = false ∧
  (∀ (o ix : Nat) (kf : am_K), lk o ix = some kf → am_okK TS cl ms Zx (on o) ix kf) ∧
  (tyl[3]? = some (.array .int) ∧ ∀ (o ix : Nat) (kf : am_K), lk o ix = some kf → kf.1 = 11 → Cond.classLink (on o) ix ("[" ++ (FieldType.array .int).toString) ∈ TS ∧ ∀ (a : Array Value) (s : State), Zx s → (Cond.arrayOver (.array .int)).before a s = true) ∧
  (∀ (o ix is ic : Nat) (kf ks kc : am_K), lk o ix = some kf → lk o is = some ks → lk o ic = some kc → kf.1 = 13 → ks.1 = 14 → kc.1 = 15 → kc.2.1 = kf.2.1 → am_okT TS cl Zx (on o) ix is ic kf.2.1) ∧
  (∀ (j : Nat) (mj : am_M), ms j = some mj → am_okD TS on mj ∧ (am_h mj = [] → Cond.code (am_y mj) (am_b mj) (am_L mj) (am_r mj) ∈ TS)) ∧
  (∀ (mi : am_M) (s : State) (a : Array Value) (ty ce : Nat), am_o mi = 10 → (∀ w ∈ TS, w.before a s = true) → Zx s → va_K D cl (am_tys dA tyl) s → cx ty = some ce → (∃ x, cl[ce]? = some x) ∧ am_okX cx (on (am_o mi)) s a ce (D.1 ce))
/-- where the walk of a method stands -/
def am_Wk (TS : List Cond) (D : va_G) (cl : List vw_C) (dA : Nat → ClassId) (tyl : List FieldType) (Zx : State → Prop) (mi : am_M) (p : Program) (R : Room) (s : State) (m : MethodId) (args : Array Value) (meth : Method) (c : Code) : Prop :=
  p.tables.exec = Jvm.exec ∧ c.code = am_b mi ∧ c.maxLocals = am_L mi ∧ s.vm.findClass (am_y mi).cls = some m.cls ∧ meth.name = (am_y mi).name ∧ meth.sig.returnType = am_r mi ∧ meth.locks = false ∧ meth.code = some c ∧ c.exceptionTable.toList.map am_ent = am_h mi ∧ (∀ w ∈ am_wl TS mi, w.before args s = true) ∧ va_K D cl (am_tys dA tyl) s ∧ Zx s ∧ am_f mi ≤ R.frames ∧ am_w mi ≤ R.locals
theorem am_catch_ex {cx : Nat → Option Nat} {pc ci t : Nat} : ∀ {hh : List (Nat × Nat × Nat × Nat)}, am_catch cx hh pc ci = some t → ∃ ty, cx ty = some ci
  | [], h => by cases h
  | (a, b, u, ty) :: r, h => by
    unfold am_catch at h
    split at h
    · split at h
      · rename_i cj hcj
        split at h
        · rename_i he
          rw [he] at hcj
          exact ⟨ty, hcj⟩
        · exact am_catch_ex h
      · cases h
    · exact am_catch_ex h
section AMZ
variable {fty : Nat → Nat → Option FieldType} {dfl : Nat → Option (List Value)} {cmp : Nat → Option (Option Nat)} {lk : Nat → Nat → Option am_K} {ms : Nat → Option am_M} {cx : Nat → Option Nat} {on : Nat → String}
theorem am_run_le : ∀ (f : Nat) (xs : am_O) (mi : am_M) (S : am_S) (r : am_R), am_run fty dfl cmp lk ms cx xs f mi S = some r → S.2.2.2.2.1 ≤ r.2.2.1 ∧ S.2.2.2.2.2 ≤ r.2.2.2
  | 0, _, _, _, _, h => by cases h
  | f + 1, xs, mi, S, r, h => by
    unfold am_run at h
    split at h
    · cases h
    · rename_i S' hs
      have h1 := am_run_le f xs mi S' r h
      unfold am_step at hs
      split at hs
      · have h2 : am_le S.2.2.2.2.1 S.2.2.2.2.2 (.inl S') := am_exec_le hs
        exact ⟨Nat.le_trans h2.1 h1.1, Nat.le_trans h2.2 h1.2⟩
      · cases hs
    · rename_i r' hs
      cases h
      unfold am_step at hs
      split at hs
      · have h2 : am_le S.2.2.2.2.1 S.2.2.2.2.2 (.inr (.inl r)) := am_exec_le hs
        exact h2
      · cases hs
    · rename_i j as pc lo st h0 k q hs
      have h2 : k = S.2.2.2.2.1 ∧ q = S.2.2.2.2.2 := by
        unfold am_step at hs
        split at hs
        · have h2 : am_le S.2.2.2.2.1 S.2.2.2.2.2 (.inr (.inr (j, as, (pc, lo, st, h0, k, q)))) := am_exec_le hs
          exact h2
        · cases hs
      rw [← h2.1, ← h2.2]
      split at h
      · cases h
      · split at h
        · split at h
          · rename_i v h' k' q' hr
            have h1 := am_run_le f xs mi _ r h
            exact ⟨Nat.le_trans (Nat.le_add_right k k') h1.1, Nat.le_trans (Nat.le_add_right q q') h1.2⟩
          · rename_i x h' k' q' hr
            split at h
            · split at h
              · split at h
                · split at h
                  · have h1 := am_run_le f xs mi _ r h
                    exact ⟨Nat.le_trans (Nat.le_add_right k k') h1.1, Nat.le_trans (Nat.le_add_right q q') h1.2⟩
                  · cases h
                · cases h
              · cases h
            · cases h
          · cases h
        · cases h
end AMZ
