/-! ===== one step of the abstract machine is steps of the machine ===== -/
def am_okF (TS : List Cond) (cl : List vw_C) (Zx : State → Prop) (own : String) (ix : Nat) (kk : am_K) : Prop := ∃ (C : String) (T : u_T) (N : Nat), cl[kk.2.1]? = some (C, T, N) ∧ kk.2.2.1 < N ∧ (T kk.2.2.1).1 = C ∧
  ((kk.1 = 0 ∨ kk.1 = 2 ∨ kk.1 = 3) → Cond.fieldLink own ix C (T kk.2.2.1).2.1 (T kk.2.2.1).2.2.1 ∈ TS) ∧ ((kk.1 = 1 ∨ kk.1 = 4) → ∃ host, ∀ s, Zx s → va_Nw (.fieldLinkNest own ix C (T kk.2.2.1).2.1 (T kk.2.2.1).2.2.1 host) s) ∧ (kk.1 ≤ 1 → (T kk.2.2.1).2.2.2 = false) ∧ (kk.1 = 2 → (T kk.2.2.1).2.2.2 = true ∧ C = own)
def am_okL (TS : List Cond) (cl : List vw_C) (tyl : List FieldType) (Zx : State → Prop) (own : String) (ix : Nat) (kk : am_K) : Prop :=
  (kk.1 ≤ 4 → am_okF TS cl Zx own ix kk) ∧
  (kk.1 = 9 → ∃ (C : String) (T : u_T) (N : Nat), cl[kk.2.1]? = some (C, T, N) ∧ Cond.classLink own ix C ∈ TS ∧ Cond.instantiable C N ∈ TS ∧ Cond.initialized C ∈ TS) ∧
  (kk.1 = 9 → 3 ≤ kk.2.2.1 → ∃ C : String, tyl[kk.2.2.1]? = some (.object C) ∧ Cond.classLink own ix C ∈ TS ∧ ∀ s, Zx s → va_AO C s) ∧
  (kk.1 = 12 → Cond.constant own ix (Int32.ofInt kk.2.2.2) ∈ TS) ∧
  (kk.1 = 26 → Cond.methodLink own ix objectInit ∈ TS ∧ Cond.instanceMethod objectInit ∈ TS ∧ Cond.code objectInit ⟨#[0xb1]⟩ 1 none ∈ TS) ∧
  (kk.1 = 27 → Cond.methodLink own ix Lib.Math.min.name ∈ TS ∧ Cond.static Lib.Math.min.name ∈ TS ∧ Cond.initialized "java/lang/Math" ∈ TS ∧ Cond.code Lib.Math.min.name Lib.Math.min.code 2 (some .int) ∈ TS) ∧
  (kk.1 = 28 → Cond.methodLink own ix Lib.Math.max.name ∈ TS ∧ Cond.static Lib.Math.max.name ∈ TS ∧ Cond.initialized "java/lang/Math" ∈ TS ∧ Cond.code Lib.Math.max.name Lib.Math.max.code 2 (some .int) ∈ TS) ∧
  (kk.1 = 29 → Cond.methodLink own ix arraycopyName ∈ TS ∧ Cond.native arraycopyName ∈ TS ∧ Cond.static arraycopyName ∈ TS ∧ Cond.initialized "java/lang/System" ∈ TS)
/-- the tables that the abstract machine runs by are the machine's -/
def am_Ok (TS : List Cond) (cl : List vw_C) (tyl : List FieldType) (Zx : State → Prop) (fty : Nat → Nat → Option FieldType) (dfl : Nat → Option (List Value)) (cmp : Nat → Option (Option Nat)) (lk : Nat → Nat → Option am_K) (on : Nat → String) : Prop :=
  cl.length ≤ 100 ∧
  (∀ (ci : Nat) (C : String) (T : u_T) (N : Nat), cl[ci]? = some (C, T, N) → (∀ w ∈ u_ws C T N, w ∈ TS) ∧ (∀ j, j < N → ∃ t, parseFieldDescriptor (T j).2.2.1 = some t) ∧ (∀ j ty, fty ci j = some ty → parseFieldDescriptor (T j).2.2.1 = some ty) ∧ (∀ a, a < N → ∀ b, b < N → a ≠ b → (T a).2.1 ≠ (T b).2.1) ∧ ∀ vs, dfl ci = some vs → vs.length = N ∧ ∀ j, j < N → ∃ t, parseFieldDescriptor (T j).2.2.1 = some t ∧ vs[j]? = some (defaultValue t)) ∧
  (tyl[0]? = some .int ∧ tyl[1]? = some .boolean ∧ tyl[2]? = some .long) ∧
  (Cond.arrayClass .int ∈ TS ∧ Cond.arrayClass .boolean ∈ TS ∧ Cond.arrayClass .long ∈ TS) ∧
  (∀ (t : Nat) (oo : Option Nat), cmp t = some oo → 103 ≤ t ∧ ∃ ty, tyl[t - 100]? = some ty ∧ ty.isReference = true ∧ ∀ ci, oo = some ci → ∃ (C : String) (T : u_T) (N : Nat), cl[ci]? = some (C, T, N) ∧ ty = .object C) ∧
  (∀ (o ix : Nat) (kk : am_K), lk o ix = some kk → am_okL TS cl tyl Zx (on o) ix kk)

section AME
variable {p : Program} {l : Launch} {e : Env} {R : Room} {s : State} {m : MethodId} {args : Array Value} {below : List Frame} {meth : Method} {c : Code} {Q : State → Prop}
variable {D : va_G} {cl : List vw_C} {dA : Nat → ClassId} {b : Nat} {sc : am_Sy} {tyl : List FieldType} {TS : List Cond} {Zx : State → Prop}
variable {fty : Nat → Nat → Option FieldType} {dfl : Nat → Option (List Value)} {cmp : Nat → Option (Option Nat)} {lk : Nat → Nat → Option am_K} {on : Nat → String} {mi : am_M} {xs : am_O}
variable {n pc k q : Nat} {lo : List (Option Value)} {st : List Value} {h : am_H} {S' : am_S} {H : Heap} {ls : Array Slot} {locs : List Loc}

theorem am_g_get {ix : Nat} {kf : am_K} (hOk : am_Ok TS cl tyl Zx fty dfl cmp lk on) (hx : p.tables.exec = Jvm.exec) (hb : c.code = am_b mi) (hml : c.maxLocals = am_L mi) (hno : (am_y mi).cls = on (am_o mi)) (hown : s.vm.findClass (am_y mi).cls = some m.cls) (hname : meth.name = (am_y mi).name) (hts : ∀ w ∈ TS, w.before args s = true) (hK : va_K D cl (am_tys dA tyl) s) (hz : Zx s) (hRf : am_f mi ≤ R.frames) (hRw : am_w mi ≤ R.locals) (hd : decode (am_b mi) pc = .ok (.getfield ix, 3)) (hl : lk (am_o mi) ix = some kf) (he : am_getf kf pc lo st h k q = some (.inl S')) (hJ : am_J D cl dA b sc s.heap (am_L mi) (pc, lo, st, h, k, q) H ls locs) (kk : (∀ (H' : Heap) (ls' : Array Slot) (locs' : List Loc), am_J D cl dA b sc s.heap (am_L mi) S' H' ls' locs' → W p l e R s m args below meth c H' locs' (S').2.2.2.2.1 (S').2.2.2.2.2 Q (F0 m (S').1 ls' ((S').2.2.1.map (am_v b sc))))) : W p l e R s m args below meth c H locs k q Q (F0 m pc ls (st.map (am_v b sc))) := by
  obtain ⟨o1, o2, -, -, -, o6⟩ := hOk
  unfold am_getf at he
  split at he
  · rename_i h4
    obtain ⟨C, T, N, f1, f2, f3, f4, f5, f6, f7⟩ := (o6 _ _ _ hl).1 h4
    obtain ⟨c1, c2, c3, c4, c5⟩ := o2 _ _ _ _ f1
    split at he
    · rename_i a r
      split at he
      · rename_i vs ha
        split at he
        · rename_i v hv
          cases he
          rw [hno] at hown
          by_cases hn : kf.1 = 1 ∨ kf.1 = 4
          · obtain ⟨host, f5⟩ := f5 hn
            exact am_x_getN hx hb hts c1 hown hK (am_ci o1 f1) f1 f2 f3 (va_Nw.use rfl (f5 s hz)) hd ha hv hJ kk
          · exact am_x_get hx hb hts c1 hown hK (am_ci o1 f1) f1 f2 f3 (hts _ (f4 (by omega))) hd ha hv hJ kk
        · cases he
      · cases he
    · cases he
  · cases he
theorem am_g_put {ix : Nat} {kf : am_K} (hOk : am_Ok TS cl tyl Zx fty dfl cmp lk on) (hx : p.tables.exec = Jvm.exec) (hb : c.code = am_b mi) (hml : c.maxLocals = am_L mi) (hno : (am_y mi).cls = on (am_o mi)) (hown : s.vm.findClass (am_y mi).cls = some m.cls) (hname : meth.name = (am_y mi).name) (hts : ∀ w ∈ TS, w.before args s = true) (hK : va_K D cl (am_tys dA tyl) s) (hz : Zx s) (hRf : am_f mi ≤ R.frames) (hRw : am_w mi ≤ R.locals) (hd : decode (am_b mi) pc = .ok (.putfield ix, 3)) (hl : lk (am_o mi) ix = some kf) (he : am_putf fty (am_y mi).name kf pc lo st h k q = some (.inl S')) (hJ : am_J D cl dA b sc s.heap (am_L mi) (pc, lo, st, h, k, q) H ls locs) (kk : (∀ (H' : Heap) (ls' : Array Slot) (locs' : List Loc), am_J D cl dA b sc s.heap (am_L mi) S' H' ls' locs' → W p l e R s m args below meth c H' locs' (S').2.2.2.2.1 (S').2.2.2.2.2 Q (F0 m (S').1 ls' ((S').2.2.1.map (am_v b sc))))) : W p l e R s m args below meth c H locs k q Q (F0 m pc ls (st.map (am_v b sc))) := by
  obtain ⟨o1, o2, -, -, -, o6⟩ := hOk
  unfold am_putf at he
  split at he
  · rename_i h4
    obtain ⟨C, T, N, f1, f2, f3, f4, f5, f6, f7⟩ := (o6 _ _ _ hl).1 (by omega)
    obtain ⟨c1, c2, c3, c4, c5⟩ := o2 _ _ _ _ f1
    split at he
    · rename_i v a r
      split at he
      · rename_i vs ty ha hty
        split at he
        · rename_i hv
          cases he
          rw [hno] at hown
          rcases h4 with h4 | ⟨h4, h5⟩
          · by_cases hn : kf.1 = 1
            · obtain ⟨host, f5⟩ := f5 (Or.inl hn)
              exact am_x_putN hx hb hts c1 hown hK (am_ci o1 f1) f1 c2 c4 f2 f3 (f6 h4) (va_Nw.use rfl (f5 s hz)) (c3 _ _ hty) hv.2 hv.1 hd ha hJ kk
            · exact am_x_put hx hb hts c1 hown hK (am_ci o1 f1) f1 c2 c4 f2 f3 (f6 h4) (hts _ (f4 (by omega))) (c3 _ _ hty) hv.2 hv.1 hd ha hJ kk
          · exact am_x_putF hx hb hts c1 hown hK (am_ci o1 f1) f1 c2 c4 f2 f3 (f7 h4).1 (hname.trans h5) (f7 h4).2 (hts _ (f4 (by omega))) (c3 _ _ hty) hv.2 hv.1 hd ha hJ kk
        · cases he
      · cases he
    · cases he
  · cases he
end AME
