/-! ===== a new exception with a text is thrown out of the method ===== -/
theorem am_same_eq {s U : State} {k n : Nat} (h : s.sameButNew U [] k n) : ∀ a, a < s.heap.size → U.heap[a]? = s.heap[a]? := by
  intro a ha
  obtain ⟨c, hc⟩ : ∃ c, s.heap[a]? = some c := ⟨s.heap[a], Array.getElem?_eq_getElem ha⟩
  obtain ⟨c', h1, h2, h3, h4⟩ := h.2.2.2.2.2 a c hc
  have e : c'.slots = c.slots := by
    apply Array.ext_getElem?
    intro i
    exact h4 i (by simp)
  rw [h1, hc, h2, e]
section AMT
variable {p : Program} {l : Launch} {e : Env} {R : Room} {s : State} {m : MethodId} {args : Array Value} {below : List Frame} {meth : Method} {c : Code}
/-- the walk, begun anew where it stands -/
theorem am_rebase {T : State} {locs : List Loc} {cells slots : Nat} (X : Stand p l e R s m args below meth c T locs cells slots) (hc : cells ≤ R.cells) (hs : slots ≤ R.slots) : Stand p l e { frames := R.frames, cells := R.cells - cells, slots := R.slots - slots, locals := R.locals } (T.setFrames (.invoking m args :: below)) m args below meth c T [] 0 0 := by
  obtain ⟨g₀, hr⟩ := X.frames_eq
  have hcur : T.cur < T.threads.size := State.cur_lt_of_frames hr
  have hf : (T.setFrames (.invoking m args :: below)).frames = .invoking m args :: below := State.frames_setFrames _ hcur
  have hm : (T.setFrames (.invoking m args :: below)).vm.method? m = some meth := X.method'
  obtain ⟨t, ht, -⟩ := State.frames_cons hf
  refine ⟨X.admits, X.cas, X.clock, hf, ?_, ?_, hm, X.code, X.here, X.tail, State.WarmedH.refl _, ?_, ?_, ?_⟩
  · have h0 := X.room
    have h1 := X.heapSize
    have h2 := X.used
    have h3 := X.book
    simp only [State.hasRoom, Bool.and_eq_true, decide_eq_true_eq] at h0 ⊢
    rw [State.localsInUse_invoking X.frames X.method X.code, X.frames] at h0
    rw [State.localsInUse_invoking hf hm X.code, hf, State.stackLimits_setFrames, State.stackBytes_setFrames, X.limits, X.bytes]
    obtain ⟨⟨⟨⟨r1, r2⟩, r3⟩, r4⟩, r5⟩ := h0
    refine ⟨⟨⟨⟨r1, r2⟩, ?_⟩, ?_⟩, h3⟩
    · show T.heap.size + (R.cells - cells) ≤ _
      omega
    · show T.slotsUsed + (R.slots - slots) ≤ _
      omega
  · have h0 := X.hears
    have hal := X.warmed.alike
    cases below with
    | nil =>
      simp only [State.hears] at h0 ⊢
      show ((T.vm.method? m).any _) = true
      rw [hal.method?]
      exact h0
    | cons f r =>
      cases f <;> simp only [State.hears] at h0 ⊢ <;> (try (show ((T.vm.method? m).any _) = true; rw [hal.method?]; exact h0))
      rename_i g
      have hcd : (T.setFrames (.invoking m args :: .java g :: r)).code? g.method = s.code? g.method := by
        rw [State.code?_eq, State.code?_eq]
        show (T.vm.method? g.method).bind _ = _
        rw [hal.method?]
      rw [hcd]
      exact h0
  · rw [State.stackLimits_setFrames]
  · rw [State.stackBytes_setFrames]
  · have h := (State.sameButNew.refl (T.setFrames (.invoking m args :: below)) ht).setFrames T.frames (State.cur_lt_of_frames hf)
    have e1 : (T.setFrames (.invoking m args :: below)).setFrames T.frames = T := by
      rw [State.setFrames_setFrames]
      obtain ⟨t', ht', -⟩ := State.frames_cons hr
      exact State.setFrames_self ht'
    rw [e1] at h
    exact h
end AMT
section AMU
variable {p : Program} {l : Launch} {e : Env} {R : Room} {s : State} {m : MethodId} {args : Array Value} {below : List Frame} {meth : Method} {c : Code}
variable {D : va_G} {cl : List vw_C} {dA : Nat → ClassId} {b : Nat} {sc : am_Sy} {nL : Nat} {cc : ByteArray} {tyl : List FieldType} {TS : List Cond} {Zx : State → Prop}
variable {h : am_H} {k q pc : Nat} {H : Heap} {ls : Array Slot} {locs : List Loc} {lo : List (Option Value)} {st : List Value}
/-- what the tables must say at a throw: the exception's class, its chain of constructors, its text -/
def am_okT (TS : List Cond) (cl : List vw_C) (Zx : State → Prop) (own : String) (ix is ic ci : Nat) : Prop := ∃ (C text : String) (T : u_T) (names : List String) (jx : Nat) (rx : ByteArray), cl[ci]? = some (C, T, 0) ∧ Cond.classLink own ix C ∈ TS ∧ Cond.instantiable C 6 ∈ TS ∧ Cond.initialized C ∈ TS ∧ Bundle.fit C = true ∧ (∀ x ∈ names, Bundle.fit x = true) ∧ names.length ≤ 3 ∧
  (decode rx 0 = .ok (.aload_n 0, 1) ∧ decode rx 1 = .ok (.aload_n 1, 1) ∧ decode rx 2 = .ok (.invokespecial jx, 3) ∧ decode rx 5 = .ok (.return_, 1)) ∧
  (∀ (U : State) (a' : Array Value), (∀ w ∈ TS, w.before a' U = true) → Zx U → ∀ w ∈ Bundle.ownAtomsX own ic C jx rx names, w.before a' U = true) ∧ ∀ U : State, Zx U → ∃ sa, vk_R own is text sa U
theorem am_x_thr {own : String} {ix is ic ci d : Nat} (hx : p.tables.exec = Jvm.exec) (hb : c.code = cc) (hml : c.maxLocals = nL) (hown : s.vm.findClass own = some m.cls) (hlk : meth.locks = false) (hno : c.exceptionTable.toList = []) (htr : l.stackTraces = false) (hts : ∀ w ∈ TS, w.before args s = true) (hg : am_good TS) (hZ : am_Zok b Zx) (hz : Zx s) (hcl : cl.length ≤ 100) (hK : va_K D cl (am_tys dA tyl) s) (hT : am_okT TS cl Zx own ix is ic ci)
    (hd0 : decode cc pc = .ok (.new ix, 3)) (hd3 : decode cc (pc + 3) = .ok (.dup, 1)) (hd4 : (d = 2 ∧ decode cc (pc + 4) = .ok (.ldc is, 2)) ∨ (d = 3 ∧ decode cc (pc + 4) = .ok (.ldc_w is, 3))) (hd6 : decode cc (pc + 4 + d) = .ok (.invokespecial ic, 3)) (hd9 : decode cc (pc + 4 + d + 3) = .ok (.athrow, 1))
    (hf : 8 ≤ R.frames) (hw : 100 + am_cat st ≤ R.locals) (hk : k + 1 ≤ R.cells) (hq : q + 6 ≤ R.slots) (hJ : am_J D cl dA b sc s.heap nL (pc, lo, st, h, k, q) H ls locs) :
    W p l e R s m args below meth c H locs k q (am_MQ D cl dA b sc below (.inr h.length, h ++ [(ci, [])], k + 1, q + 6) s) (F0 m pc ls (st.map (am_v b sc))) := by
  intro T hTH X
  obtain ⟨C, text, T0, names, jx, rx, c1, w1, w2, w3, w4, w5, w6, ⟨x0, x1, x2, x5⟩, w7, w8⟩ := hT
  have X2 := am_rebase X (by omega) (by omega)
  have hheap : (T.setFrames (.invoking m args :: below)).heap = T.heap := rfl
  have hW : s.WarmedH (T.setFrames (.invoking m args :: below)).vm := X.warmed
  generalize hs2 : T.setFrames (.invoking m args :: below) = s2 at X2 hW hheap
  have hts2 : ∀ w ∈ TS, w.before args s2 = true := fun w hw => word_at hW (hg w hw) (hts w hw)
  have hz2 : Zx s2 := hZ s s2 hW (by rw [hheap, hTH]; exact hJ.2.1.1) (fun x h1 h2 => by rw [hheap, hTH]; exact hJ.2.1.2.1 x h1 h2) hz
  have hown2 : s2.vm.findClass own = some m.cls := by rw [hW.alike.findClass]; exact hown
  have htr2 : e.platform.stackTraces = false := by rw [Example.NoTraceControls.admits_follows X.admits]; exact htr
  obtain ⟨vm', cC, kC, h1, h2, h3, h4, X3, st3⟩ := X2.newCold hx hown2 (hts2 _ w1) (hts2 _ w2) (hts2 _ w3) (g := F0 m pc ls (st.map (am_v b sc))) rfl (by rw [hb]; exact hd0) (by show 0 + 1 ≤ R.cells - k; omega) (by show 0 + 6 ≤ R.slots - q; omega)
  generalize hT3 : (T.setVm vm').pushCell { cls := cC, slots := kC.instanceTypes.map defaultValue, vm := .none } = T3 at X3 st3
  have hcell : T3.heap[T.heap.size]? = some (freshCell cC kC) := by rw [← hT3]; exact State.heap_pushCell_size _ _
  obtain ⟨sa, hsa⟩ := w8 s2 hz2
  have hsz : ls.size = c.maxLocals := by rw [hml]; exact hJ.2.2.2.2.1
  obtain ⟨U, hsteps, hrun, hend, hWU, hsame, ce, hce, Kc, Kv⟩ := am_ctor X3 hx htr2 (own := own) (cls := C) (names := names) (ic := ic) x0 x1 x2 x5 hown2 w4 w5 (w7 s2 args hts2 hz2) h1 h2 hcell (by rw [hheap]; exact Nat.le_refl _) (msg := .ref sa) rfl
    (g := F0 m (pc + 4 + d) ls (.ref sa :: .ref T.heap.size :: .ref T.heap.size :: st.map (am_v b sc))) rfl hsz rfl rfl (rest := st.map (am_v b sc)) rfl (by rw [hb]; exact hd6) (by rw [hb]; exact hd9) (by rw [hno]; intro x hx; cases hx) (by show names.length + 3 < R.frames; omega)
    (by
      show 2 * 0 + ((Value.ref T.heap.size :: st.map (am_v b sc)).map fun v => v.category).sum + (13 * (names.length + 1) + 42) ≤ R.locals
      rw [List.map_cons, List.sum_cons, am_v_cats]
      show 2 * 0 + (1 + am_cat st) + _ ≤ _
      omega) hlk
  have hbase : T.heap.size = b + h.length := by rw [hTH]; exact hJ.1.1
  have heq := am_same_eq hsame
  have hold : ∀ x, x < H.size → U.heap[x]? = H[x]? := fun x hx => by
    have := heq x (by rw [hheap, hTH]; exact hx)
    rw [hheap, hTH] at this
    exact this
  have hUs : U.heap.size = H.size + 1 := by
    have g1 : U.heap.size ≤ s2.heap.size + (0 + 1) := hsame.2.2.1
    have g2 := (Array.getElem?_eq_some_iff.mp hce).1
    rw [hheap] at g1
    rw [← hTH]
    omega
  refine ⟨U, ?_, .threw T.heap.size, hrun, hend, ?_, ⟨?_, ?_⟩, ?_, locs, ?_, hJ.2.1.2.2⟩
  · refine st3 _ ?_
    show Steps p.tables e below (T3.setTop (F0 m (pc + 3) ls (.ref T.heap.size :: st.map (am_v b sc)))) _
    jvm_step X3.here [X3.here.top, hx, hb, hd3, Value.category]
    rcases hd4 with ⟨rfl, hd4⟩ | ⟨rfl, hd4⟩
    · exact X3.ldcString hx hown2 (text := text) (a := sa) hsa.1 hsa.2 (g := F0 m (pc + 4) ls (.ref T.heap.size :: .ref T.heap.size :: st.map (am_v b sc))) rfl (by rw [hb]; exact hd4) _ hsteps
    · exact X3.ldcStringW hx hown2 (text := text) (a := sa) hsa.1 hsa.2 (g := F0 m (pc + 4) ls (.ref T.heap.size :: .ref T.heap.size :: st.map (am_v b sc))) rfl (by rw [hb]; exact hd4) _ hsteps
  · show Outcome.threw T.heap.size = .threw (b + h.length)
    rw [hbase]
  · refine hJ.1.push ?_ hUs hold
    rw [am_e_obj (am_ci hcl c1)]
    refine ⟨_, c1, ce, by rw [← hbase]; exact hce, ?_, Kv, fun j hj => absurd hj (Nat.not_lt_zero j)⟩
    have g1 : s2.vm.findClass C = some (D.1 ci) := by rw [hW.alike.findClass]; exact (hK.1 ci _ c1).2.1
    exact Option.some.inj (Kc.symm.trans g1)
  · exact (am_S_push hJ.2.1 (by rw [hUs]; omega) hold).F rfl
  · exact State.WarmedH.trans hW hWU
  · subst hs2
    have g1 := hsame.setVm s.vm
    have g2 : (T.setVm s.vm).sameButNew ({ U with vm := s.vm } : State) [] (0 + 1) (0 + 6) := by
      refine ⟨?_, g1.2⟩
      have e1 : ({ U with vm := s.vm } : State) = { ((T.setFrames (.invoking m args :: below)).setVm s.vm).setFrames U.frames with heap := U.heap, slotsUsed := U.slotsUsed } := g1.1
      have e2 : ((T.setFrames (.invoking m args :: below)).setVm s.vm).setFrames U.frames = (T.setVm s.vm).setFrames U.frames := by
        show ((T.setVm s.vm).setFrames (.invoking m args :: below)).setFrames U.frames = _
        rw [State.setFrames_setFrames]
      rw [e2] at e1
      exact e1
    have g3 := X.same.trans g2
    rw [List.append_nil] at g3
    simpa using g3
end AMU
