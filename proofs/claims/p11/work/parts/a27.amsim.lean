/-! ===== the simulation ===== -/
section AMQ
variable {l : Launch} {TS : List Cond} {D : va_G} {cl : List vw_C} {dA : Nat → ClassId} {tyl : List FieldType} {b : Nat} {sc : am_Sy} {Zx : State → Prop}
variable {fty : Nat → Nat → Option FieldType} {dfl : Nat → Option (List Value)} {cmp : Nat → Option (Option Nat)} {lk : Nat → Nat → Option am_K} {ms : Nat → Option am_M} {cx : Nat → Option Nat} {on : Nat → String}
def am_Xs (sc : am_Sy) (b : Nat) (s : State) (xs : am_O) : Prop := ∀ lx, xs.1 = some lx → ∃ f : Nat → Int32, va_X sc.1 lx f s s.heap ∧ sc.1 < s.heap.size ∧ sc.1 < b ∧ ∀ j, j < lx → f j = sc.2 j
/-- what is to be shown of runs of f steps -/
def am_Goal (l : Launch) (TS : List Cond) (D : va_G) (cl : List vw_C) (dA : Nat → ClassId) (tyl : List FieldType) (b : Nat) (sc : am_Sy) (Zx : State → Prop) (fty : Nat → Nat → Option FieldType) (dfl : Nat → Option (List Value)) (cmp : Nat → Option (Option Nat)) (lk : Nat → Nat → Option am_K) (ms : Nat → Option am_M) (cx : Nat → Option Nat) (on : Nat → String) (f : Nat) : Prop :=
  ∀ (mi : am_M) (xs : am_O) (S : am_S) (r : am_R), am_okD TS on mi → am_run fty dfl cmp lk ms cx xs f mi S = some r → ∀ (p : Program) (e : Env) (R : Room) (s : State) (m : MethodId) (args : Array Value) (below : List Frame) (meth : Method) (c : Code), am_Wk TS D cl dA tyl Zx mi p R s m args meth c → am_Xs sc b s xs → am_Or sc xs → r.2.2.1 ≤ R.cells → r.2.2.2 ≤ R.slots → b ≤ s.heap.size →
    ∀ (H : Heap) (ls : Array Slot) (locs : List Loc), am_J D cl dA b sc s.heap (am_L mi) S H ls locs → W p l e R s m args below meth c H locs S.2.2.2.2.1 S.2.2.2.2.2 (am_MQ D cl dA b sc below r s) (F0 m S.1 ls (S.2.2.1.map (am_v b sc)))
theorem am_dec {mi : am_M} (hD : am_okD TS on mi) {pc : Nat} {i : Instr} {n : Nat} (h : am_ins (am_c mi) pc = some (i, n)) : decode (am_b mi) pc = .ok (i, n) := hD.1 (pc, i, n) (am_ins_mem h)
theorem am_con (hA : am_All l TS D cl dA tyl b Zx fty dfl cmp lk ms cx on) {f : Nat} (ih : am_Goal l TS D cl dA tyl b sc Zx fty dfl cmp lk ms cx on f) {mj : am_M} {as : List Value} {h : am_H} {r : am_R} (hD : am_okD TS on mj) (h1 : am_one as = true) (hl : as.length ≤ am_L mj) {ox : List (Nat × Int32) × List (ClassFile.Cond × Nat × Int32 × Bool) × List (Nat × Int32 × Int32)} (hO : am_Or sc (none, ox)) (hr : am_run fty dfl cmp lk ms cx (none, ox) f mj (0, as.map some ++ List.replicate (am_L mj - as.length) none, [], h, 0, 0) = some r) : am_Con l TS D cl dA tyl b sc Zx mj as h r := by
  have hone : ∀ v ∈ as, v.category = 1 := fun v hv => by
    unfold am_one at h1
    exact Nat.eq_of_beq_eq_true (List.all_eq_true.mp h1 v hv)
  have spec : ∀ (args : Array Value) (s : State) (m : MethodId), (headSpec (am_wl TS mj) (am_rm mj r)).pre.before args s = true → s.methodNamed? (am_y mj) = some m → ∃ meth c, s.vm.method? m = some meth ∧ meth.code = some c ∧ c.code = am_b mj ∧ c.maxLocals = am_L mj ∧ meth.sig.returnType = am_r mj ∧ meth.locks = false ∧ c.exceptionTable.toList.map am_ent = am_h mj := by
    intro args s m hp hn
    have hw := atoms_spec (ws := am_wl TS mj) hp
    cases hh : am_h mj with
    | nil =>
      rw [am_wl_nil hh] at hw
      obtain ⟨meth, c, g1, g2, g3, g4, g5, g6, g7, -⟩ := Cond.code_spec hn (hw _ List.mem_cons_self)
      refine ⟨meth, c, g1, g2, g3, g4, g5, g6, ?_⟩
      have : c.exceptionTable.toList = [] := by simpa using g7
      rw [this]
      rfl
    | cons x t =>
      rw [am_wl_cons (by rw [hh]; simp)] at hw
      obtain ⟨m9, meth, c, hn9, g1, g2, g3, g4, g7, g5, g6, -⟩ := Cond.codeWith_spec (hw _ List.mem_cons_self)
      cases hn.symm.trans hn9
      refine ⟨meth, c, g1, g2, g3, g4, g5, g6, ?_⟩
      rw [← hh]
      exact g7
  refine MetFree.of_bodyS (code := am_b mj) (maxLocals := am_L mj) (ret := am_r mj) hD.2.1 ?_ ?_
  · intro args s m hp hn
    obtain ⟨meth, c, g1, g2, g3, g4, g5, g6, -⟩ := spec args s m hp hn
    exact ⟨meth, c, g1, g2, g3, g4, g5, g6⟩
  · intro p e s m args below meth c s₁ B hml hP _
    obtain ⟨rfl, hPh, hKK, hzz⟩ := hP
    have hh0 : s₁.heap = s.heap := by rw [B.state]; rfl
    have X0 := Stand.of_body B
    obtain ⟨meth', c', g1, g2, g3, g4, g5, g6, g7⟩ := spec _ s m B.pre B.named
    cases B.method.symm.trans g1
    cases X0.code.symm.trans g2
    have hwk : am_Wk TS D cl dA tyl Zx mj p (headSpec (am_wl TS mj) (am_rm mj r)).room s m ((as.map (am_v b sc)).toArray) meth c :=
      ⟨B.exec, B.bytes, hml, findClass_of_methodNamed B.named, (name_of_methodNamed B.named B.method).1, B.returns, B.notSynchronized, X0.code, g7, atoms_spec (ws := am_wl TS mj) B.pre, hKK, hzz, Nat.le_refl _, Nat.le_refl _⟩
    have w := ih mj (none, ox) _ r hD hr p e (headSpec (am_wl TS mj) (am_rm mj r)).room s m ((as.map (am_v b sc)).toArray) below meth c hwk (fun lx hlx => by cases hlx) hO (Nat.le_refl _) (Nat.le_refl _) (by rw [hPh.1]; exact Nat.le_add_right _ _) s.heap _ [] ⟨hPh, va_S.rf, am_Lo_entry as hone hl⟩
    obtain ⟨t, a1, o, b1, b2, b3⟩ := w s₁ hh0 X0
    refine ⟨t, o, ?_, b1, b2, b3⟩
    rw [lg_entry_eq]
    exact a1
set_option maxHeartbeats 4000000 in
theorem am_sim (hA : am_All l TS D cl dA tyl b Zx fty dfl cmp lk ms cx on) : ∀ f : Nat, am_Goal l TS D cl dA tyl b sc Zx fty dfl cmp lk ms cx on f
  | 0 => fun mi xs S r _ h => by cases h
  | f + 1 => by
    intro mi xs S r hD h p e R s m args below meth c hw hX hO hrk hrq hbs H ls locs hJ
    have ih := am_sim hA f
    obtain ⟨hx, hb, hml, hown, hname, hret, hlocks, hmc, hents, hts, hK, hz, hRf, hRw⟩ := hw
    have htsT : ∀ w ∈ TS, w.before args s = true := fun w hw => hts w (List.mem_cons_of_mem _ hw)
    obtain ⟨aOk, aG, aZ, aSt, aK, ⟨aT3, aMu⟩, aTh, aM, aC⟩ := hA
    have hA : am_All l TS D cl dA tyl b Zx fty dfl cmp lk ms cx on := ⟨aOk, aG, aZ, aSt, aK, ⟨aT3, aMu⟩, aTh, aM, aC⟩
    have hno := hD.2.2.1
    have hownO : s.vm.findClass (on (am_o mi)) = some m.cls := by rw [← hno]; exact hown
    have hwk : am_Wk TS D cl dA tyl Zx mi p R s m args meth c := ⟨hx, hb, hml, hown, hname, hret, hlocks, hmc, hents, hts, hK, hz, hRf, hRw⟩
    obtain ⟨pc, lo, st, h0, k, q⟩ := S
    unfold am_run at h
    split at h
    · cases h
    · rename_i S' hs
      have hle := am_run_le f xs mi S' r h
      unfold am_step at hs
      split at hs
      · rename_i i n hin
        have hd : decode (am_b mi) pc = .ok (i, n) := am_dec hD hin
        have kk := fun (H' : Heap) (ls' : Array Slot) (locs' : List Loc) (hJ' : am_J D cl dA b sc s.heap (am_L mi) S' H' ls' locs') => ih mi xs S' r hD h p e R s m args below meth c hwk hX hO hrk hrq hbs H' ls' locs' hJ'
        by_cases hmu : ∃ ix d, i = .multianewarray ix d
        · obtain ⟨ix, d, rfl⟩ := hmu
          simp only [am_exec] at hs
          split at hs
          · rename_i hn
            obtain ⟨rfl, rfl⟩ := hn
            split at hs
            · rename_i kf hl
              split at hs
              · rename_i h11
                split at hs
                · rename_i y x r0
                  split at hs
                  · cases hs
                  · rename_i hneg
                    split at hs
                    · rename_i hsm
                      cases hs
                      obtain ⟨g1, g2⟩ := aMu _ _ _ hl h11
                      exact am_x_multi hx hb (by rw [hJ.1.1]; exact Nat.le_add_right _ _) hK aOk.2.2.1.1 aT3 hownO (htsT _ g1) (g2 args s hz) (htsT _ aOk.2.2.2.1.1) hd (fun z => hneg (Or.inl z)) (fun z => hneg (Or.inr z)) hsm.1 hsm.2 (Nat.le_trans hle.1 hrk) (Nat.le_trans hle.2 hrq) hJ kk
                    · cases hs
                · cases hs
              · cases hs
            · cases hs
          · cases hs
        · exact am_exec_go aOk hx hb hml hno hown hname htsT hK hz hRf hRw hX hO (fun ix d e0 => hmu ⟨ix, d, e0⟩) hd hs (Nat.le_trans hle.1 hrk) (Nat.le_trans hle.2 hrq) hJ kk
      · cases hs
    · rename_i r' hs
      cases h
      unfold am_step at hs
      split at hs
      · rename_i i n hin
        have hd : decode (am_b mi) pc = .ok (i, n) := am_dec hD hin
        rcases am_exec_inr hs with ⟨ix, kf, rc, -, -, hask, -⟩ | ⟨rfl, ⟨rfl, x, hst, hty, hY⟩ | ⟨rfl, a, C, hst, hty, hY⟩ | ⟨rfl, hst, hty, hY⟩⟩ | ⟨ix, kf, rfl, rfl, hl, h13, hh, hthr⟩
        · obtain ⟨as, r0, -, -, -, ⟨-, -, hX0⟩ | ⟨-, a, c0, -, -, -, hX0⟩⟩ := am_ask_inv hask <;> cases hX0
        · cases hY
          cases hst
          rcases hty with hty | ⟨hty, hbit⟩
          · refine W.mono (fun t ht => ?_) (W.iret (Qc := fun _ st o t => o = .returned (some (.int x)) ∧ am_P D cl dA b sc h0 t.heap ∧ va_F (fun q => b ≤ q) st t) (free := fun q => b ≤ q) (v := x) hx hb (by rw [hret]; exact hty) (fun t ht hW => ⟨rfl, by rw [ht]; exact hJ.1, hJ.2.1.F ht⟩) hJ.2.1.2.2 hd)
            obtain ⟨o, t1, t2, ⟨t3, t4, t5⟩, L, t6, t7⟩ := ht
            exact ⟨o, t1, t2, t3, ⟨t4, t5⟩, t6.2.1, L, t6.2.2, t7⟩
          · refine W.mono (fun t ht => ?_) (W.zret (Qc := fun _ st o t => o = .returned (some (.int x)) ∧ am_P D cl dA b sc h0 t.heap ∧ va_F (fun q => b ≤ q) st t) (free := fun q => b ≤ q) (v := x) (ty := .boolean) hx hb (by rw [hret]; exact hty) (am_nar_bit hbit) (fun t ht hW => ⟨rfl, by rw [ht]; exact hJ.1, hJ.2.1.F ht⟩) hJ.2.1.2.2 hd)
            obtain ⟨o, t1, t2, ⟨t3, t4, t5⟩, L, t6, t7⟩ := ht
            exact ⟨o, t1, t2, t3, ⟨t4, t5⟩, t6.2.1, L, t6.2.2, t7⟩
        · cases hY
          cases hst
          refine W.mono (fun t ht => ?_) (W.aret (Qc := fun _ st o t => o = .returned (some (.ref (b + a))) ∧ am_P D cl dA b sc h0 t.heap ∧ va_F (fun q => b ≤ q) st t) (free := fun q => b ≤ q) (v := .ref (b + a)) (rt := .object C) hx hb (by rw [hret]; exact hty) (Or.inl ⟨C, rfl⟩) (Or.inr ⟨_, rfl⟩) (fun t ht hW => ⟨rfl, by rw [ht]; exact hJ.1, hJ.2.1.F ht⟩) hJ.2.1.2.2 hd)
          obtain ⟨o, t1, t2, ⟨t3, t4, t5⟩, L, t6, t7⟩ := ht
          exact ⟨o, t1, t2, t3, ⟨t4, t5⟩, t6.2.1, L, t6.2.2, t7⟩
        · cases hY
          cases hst
          refine W.mono (fun t ht => ?_) (W.vret (Qc := fun _ st o t => o = .returned none ∧ am_P D cl dA b sc h0 t.heap ∧ va_F (fun q => b ≤ q) st t) (free := fun q => b ≤ q) hx hb (by rw [hret]; exact hty) (fun t ht hW => ⟨rfl, by rw [ht]; exact hJ.1, hJ.2.1.F ht⟩) hJ.2.1.2.2 hd)
          obtain ⟨o, t1, t2, ⟨t3, t4, t5⟩, L, t6, t7⟩ := ht
          exact ⟨o, t1, t2, t3, ⟨t4, t5⟩, t6.2.1, L, t6.2.2, t7⟩
        · obtain ⟨f1, f2, f3, is, ic, d, ks, kc, f4, f5, f6, f7, f8, f9, f10, f11, hX0⟩ := am_thr_inv hthr
          cases hX0
          have dec := fun {pc' : Nat} {i' : Instr} {n' : Nat} (z : am_ins (am_c mi) pc' = some (i', n')) => am_dec hD z
          have hno0 : c.exceptionTable.toList = [] := by
            rw [hh] at hents
            exact List.map_eq_nil_iff.mp hents
          exact am_x_thr hx hb hml hownO hlocks hno0 aSt htsT aG aZ hz aOk.1 hK (aTh _ _ _ _ _ _ _ hl f7 f8 h13 f9 f10 f11) hd (dec f3) (f4.elim (fun z => Or.inl ⟨z.1, dec z.2⟩) (fun z => Or.inr ⟨z.1, dec z.2⟩)) (dec f5) (dec f6) (Nat.le_trans f1 hRf) (Nat.le_trans f2 hRw) hrk hrq hJ
      · cases hs
    · rename_i j as pc' lo' st' h' k' q' hs
      unfold am_step at hs
      split at hs
      · rename_i i n hin
        have hd : decode (am_b mi) pc = .ok (i, n) := am_dec hD hin
        split at h
        · cases h
        · rename_i mj hmj
          split at h
          · rename_i hroom
            obtain ⟨hDj, hcj⟩ := aM j mj hmj
            have hR : am_f mj + 1 ≤ R.frames ∧ 8 + (am_L mj + 11) + am_w mj ≤ R.locals := ⟨Nat.le_trans hroom.1 hRf, Nat.le_trans hroom.2.1 hRw⟩
            rcases am_exec_inr hs with ⟨ix, kf, rc, hl, rfl, hask, hkind⟩ | ⟨-, ⟨-, x, -, -, hY⟩ | ⟨-, a, C, -, -, hY⟩ | ⟨-, -, -, hY⟩⟩ | ⟨ix, kf, -, -, -, -, -, hthr⟩
            · obtain ⟨as0, r0, hlen, hone, hcat, hcase⟩ := am_ask_inv hask
              have hcons : ∀ a : Nat, am_one (.ref a :: as0) = true := fun a => by
                unfold am_one at hone ⊢
                rw [List.all_cons, hone]
                rfl
              have mapst : ∀ z : List Value, (as0.reverse ++ z).map (am_v b sc) = (as0.map (am_v b sc)).reverse ++ z.map (am_v b sc) := fun z => by rw [List.map_append, List.map_reverse]
              split at h
              · rename_i v h2 k2 q2 hrj
                have hle := am_run_le f xs mi _ r h
                have kk := fun (H' : Heap) (ls' : Array Slot) (locs' : List Loc) hJ' => ih mi xs _ r hD h p e R s m args below meth c hwk hX hO hrk hrq hbs H' ls' locs' hJ'
                have hf : k' + k2 ≤ R.cells ∧ q' + q2 ≤ R.slots := ⟨Nat.le_trans hle.1 hrk, Nat.le_trans hle.2 hrq⟩
                rcases hcase with ⟨rfl, rfl, hX0⟩ | ⟨hrc, a, c0, rfl, ha, hcc, hX0⟩
                · cases hX0
                  rcases hkind with ⟨-, hrc, -⟩ | ⟨rfl, -, hk⟩ | ⟨-, hrc, -⟩
                  · cases hrc
                  · obtain ⟨mj', g1, g2, g3, g4, g5⟩ := (aK _ _ _ hl).2.1 hk
                    cases hmj.symm.trans g1
                    have hC := am_con hA ih hDj hone hroom.2.2 (show am_Or sc (none, xs.2) from hO) hrj
                    rw [mapst]
                    rcases hk with hk | hk
                    · obtain ⟨g6 | g6, g7⟩ := g4 hk
                      · exact am_x_cS hx hb hml hownO hts aG hK aZ hz g6 g2 hR hlen hcat hf g7 g3 hC hd hJ kk
                      · exact am_x_cSW hx hb hml hownO hts aG hK aZ hz g6 g2 hR hlen hcat hf g7 g3 hC hd hJ kk
                    · obtain ⟨g6, host, g7⟩ := g5 hk
                      exact am_x_cSN hx hb hml hownO hts aG hK aZ hz g6 g2 hR hlen hcat hf (g7 s hz) g3 hC hd hJ kk
                  · cases hrc
                · cases hX0
                  rw [mapst]
                  rcases hkind with ⟨rfl, rfl, hk⟩ | ⟨-, hr0, -⟩ | ⟨rfl, rfl, hk⟩
                  · obtain ⟨mj', C, T, N, ci, g1, g2, g3, g4, g5, g6, g7, g8, g9⟩ := (aK _ _ _ hl).1 hk
                    cases hmj.symm.trans g1
                    have hC := am_con hA ih hDj (hcons a) hroom.2.2 (show am_Or sc (none, xs.2) from hO) hrj
                    have hci : c0.1 = ci := by
                      rcases hcc with hcc | hcc
                      · cases hcc
                      · rw [g6] at hcc
                        exact Int.ofNat.inj hcc
                    have ha' : h0[a]? = some (ci, c0.2) := by rw [ha, ← hci]
                    by_cases hk2 : kf.1 = 20
                    · exact am_x_cV hx hb hml hownO hts aG hK aZ hz g2 g3 hR hlen hcat hf (g8 hk2) g4 g5 (am_ci aOk.1 g7) g7 ha' hC hd hJ kk
                    · obtain ⟨host, g10⟩ := g9 (hk.resolve_left hk2)
                      exact am_x_cVN hx hb hml hownO hts aG hK aZ hz g2 g3 hR hlen hcat hf (g10 s hz) g4 g5 (am_ci aOk.1 g7) g7 ha' hC hd hJ kk
                  · exact absurd hr0 hrc
                  · obtain ⟨mj', g1, g2, g3, g4, g5, g6, g7, g8⟩ := (aK _ _ _ hl).2.2 hk
                    cases hmj.symm.trans g1
                    have hC := am_con hA ih hDj (hcons a) hroom.2.2 (show am_Or sc (none, xs.2) from hO) hrj
                    by_cases hk2 : kf.1 = 24
                    · exact am_x_cI hx hb hml hownO hts aG hK aZ hz g2 g3 hR hlen hcat hf (g7 hk2) g4 g5 g6 hC hd hJ kk
                    · obtain ⟨host, g10⟩ := g8 (hk.resolve_left hk2)
                      exact am_x_cIN hx hb hml hownO hts aG hK aZ hz g2 g3 hR hlen hcat hf (g10 s hz) g4 g5 g6 hC hd hJ kk
              · rename_i x h2 k2 q2 hrj
                rcases hcase with ⟨rfl, -, hX0⟩ | ⟨hrc, a, c0, rfl, ha, hcc, hX0⟩
                · cases hX0
                  split at h
                  · rename_i ix2 n2 hin2
                    exfalso
                    rcases hkind with ⟨-, hrc, -⟩ | ⟨rfl, -, -⟩ | ⟨-, hrc, -⟩
                    · cases hrc
                    · cases hin.symm.trans hin2
                    · cases hrc
                  · cases h
                · cases hX0
                  split at h
                  · rename_i ix2 n2 hin2
                    rcases hkind with ⟨rfl, rfl, hk⟩ | ⟨rfl, -, -⟩ | ⟨rfl, -, -⟩
                    · cases hin.symm.trans hin2
                      split at h
                      · rename_i kf2 cE hl2 hxE
                        cases hl.symm.trans hl2
                        split at h
                        · rename_i hk20
                          split at h
                          · rename_i t hct
                            have hle := am_run_le f xs mi _ r h
                            have kk := fun (H' : Heap) (ls' : Array Slot) (locs' : List Loc) hJ' => ih mi xs _ r hD h p e R s m args below meth c hwk hX hO hrk hrq hbs H' ls' locs' hJ'
                            have hf : k + k2 ≤ R.cells ∧ q + q2 ≤ R.slots := ⟨Nat.le_trans hle.1 hrk, Nat.le_trans hle.2 hrq⟩
                            obtain ⟨mj', C, T, N, ci, g1, g2, g3, g4, g5, g6, g7, g8, g9⟩ := (aK _ _ _ hl).1 hk
                            cases hmj.symm.trans g1
                            have hC := am_con hA ih hDj (hcons a) hroom.2.2 (show am_Or sc (none, xs.2) from hO) hrj
                            have hci : c0.1 = ci := by
                              rcases hcc with hcc | hcc
                              · cases hcc
                              · rw [g6] at hcc
                                exact Int.ofNat.inj hcc
                            have ha' : h0[a]? = some (ci, c0.2) := by rw [ha, ← hci]
                            have hne : am_h mi ≠ [] := fun z => by
                              rw [z] at hct
                              cases hct
                            obtain ⟨ty, hty⟩ := am_catch_ex hct
                            obtain ⟨⟨⟨E, TE, NE⟩, hE⟩, hokX⟩ := aC mi s args ty cE.1 (hD.2.2.2 hne) htsT hz hK hty
                            rw [mapst]
                            exact am_x_cat hx hb hml hownO hts aG hK aZ hz g2 g3 hR hlen hcat hf (g8 hk20) g4 g5 (am_ci aOk.1 g7) g7 ha' hC hd hJ hmc hxE (am_ci aOk.1 hE) hE hct hents hokX kk
                          · cases h
                        · cases h
                      · cases h
                    · cases hin.symm.trans hin2
                    · cases hin.symm.trans hin2
                  · cases h
              · cases h
            · cases hY
            · cases hY
            · cases hY
            · obtain ⟨-, -, -, is, ic, d, ks, kc, -, -, -, -, -, -, -, -, hX0⟩ := am_thr_inv hthr
              cases hX0
          · cases h
      · cases hs
end AMQ
