/-! ===== contracts of the abstract machine's runs; calls ===== -/
/-- the words that a method's contract asks for: its own code, and all of TS -/
def am_wl (TS : List Cond) (mi : am_M) : List Cond := (match am_h mi with
  | [] => Cond.code (am_y mi) (am_b mi) (am_L mi) (am_r mi)
  | hh => Cond.codeWith (am_y mi) (am_b mi) (am_L mi) (am_r mi) hh) :: TS
def am_rm (mi : am_M) (r : am_R) : Room := { frames := am_f mi, cells := r.2.2.1, slots := r.2.2.2, locals := am_w mi }
/-- an end of the abstract machine, on the machine -/
def am_out (b : Nat) (sc : am_Sy) (r : am_R) (o : Outcome) : Prop := match r.1 with
  | .inl v => o = .returned (v.map (am_v b sc))
  | .inr x => o = .threw (b + x)
def am_Qh (D : va_G) (cl : List vw_C) (dA : Nat → ClassId) (b : Nat) (sc : am_Sy) (r : am_R) (st : State) (t : State) : Prop := am_P D cl dA b sc r.2.1 t.heap ∧ va_F (fun q => b ≤ q) st t
def am_Qs (D : va_G) (cl : List vw_C) (dA : Nat → ClassId) (b : Nat) (sc : am_Sy) (r : am_R) (st : State) (o : Outcome) (t : State) : Prop :=
  am_out b sc r o ∧ am_Qh D cl dA b sc r st t ∧ st.WarmedH t.vm ∧ ∃ L : List Loc, st.sameButNew ({ t with vm := st.vm } : State) L r.2.2.1 r.2.2.2 ∧ ∀ z ∈ L, b ≤ z.base
def am_Pc (D : va_G) (cl : List vw_C) (dA : Nat → ClassId) (tyl : List FieldType) (b : Nat) (sc : am_Sy) (Zx : State → Prop) (as : List Value) (h : am_H) : Array Value → State → Prop := fun a U => a = (as.map (am_v b sc)).toArray ∧ am_P D cl dA b sc h U.heap ∧ va_K D cl (am_tys dA tyl) U ∧ Zx U
def am_Con (l : Launch) (TS : List Cond) (D : va_G) (cl : List vw_C) (dA : Nat → ClassId) (tyl : List FieldType) (b : Nat) (sc : am_Sy) (Zx : State → Prop) (mi : am_M) (as : List Value) (h : am_H) (r : am_R) : Prop :=
  MetFree l (am_y mi) (headSpec (am_wl TS mi) (am_rm mi r)) (am_Pc D cl dA tyl b sc Zx as h) (fun _ _ _ _ _ => True) (fun _ st o t => am_Qs D cl dA b sc r st o t)
def am_MQ (D : va_G) (cl : List vw_C) (dA : Nat → ClassId) (b : Nat) (sc : am_Sy) (below : List Frame) (r : am_R) (s : State) : State → Prop := fun t =>
  ∃ o, t.status = .running ∧ Ended t below o ∧ am_Qs D cl dA b sc r s o t
/-- what a predicate of the state must bear: warmer tables, and heaps that are the same below b -/
def am_Zok (b : Nat) (Zx : State → Prop) : Prop := ∀ s U : State, s.WarmedH U.vm → s.heap.size ≤ U.heap.size → (∀ q, q < s.heap.size → ¬ b ≤ q → U.heap[q]? = s.heap[q]?) → Zx s → Zx U
theorem am_Zok.same {b : Nat} {Zx : State → Prop} (h : am_Zok b Zx) {s U : State} (hv : U.vm = s.vm) (hh : U.heap = s.heap) (hz : Zx s) : Zx U := by
  refine h s U (by rw [hv]; exact State.WarmedH.refl s) (by rw [hh]; exact Nat.le_refl _) (fun q _ _ => by rw [hh]) hz
theorem W.mono {p : Program} {l : Launch} {e : Env} {R : Room} {s : State} {m : MethodId} {args : Array Value} {below : List Frame} {meth : Method} {c : Code} {H : Heap} {locs : List Loc} {cells slots : Nat} {Q Q' : State → Prop} {g : JFrame} (h : ∀ t, Q t → Q' t) (w : W p l e R s m args below meth c H locs cells slots Q g) : W p l e R s m args below meth c H locs cells slots Q' g := fun T hT X => by
  obtain ⟨t, a1, b1⟩ := w T hT X
  exact ⟨t, a1, h t b1⟩
section AMC
variable {p : Program} {l : Launch} {e : Env} {R : Room} {s : State} {m : MethodId} {args : Array Value} {below : List Frame} {meth : Method} {c : Code} {Q : State → Prop}
variable {D : va_G} {cl : List vw_C} {dA : Nat → ClassId} {b : Nat} {sc : am_Sy} {nL : Nat} {cc : ByteArray} {tyl : List FieldType} {TS : List Cond} {Zx : State → Prop}
/-- the contract that the kit's call rows take, of a run that ends with an answer -/
theorem am_Con.met {mi : am_M} {as : List Value} {h h' : am_H} {v : Option Value} {k' q' : Nat} (hC : am_Con l TS D cl dA tyl b sc Zx mi as h (.inl v, h', k', q')) : Met l (am_y mi) (am_wl TS mi) (am_rm mi (.inl v, h', k', q')) (am_Pc D cl dA tyl b sc Zx as h) (fun _ st o t => o = .returned (v.map (am_v b sc)) ∧ am_Qh D cl dA b sc (.inl v, h', k', q') st t) k' q' (fun q => b ≤ q) := by
  intro p e h1 h2 h3 s m args below hf happ hP hK
  obtain ⟨n, o, g1, g2, g3, g4, g5, g6, L, g7, g8⟩ := hC p e h1 h2 h3 s m args below hf happ hP hK
  exact ⟨n, o, g1, g2, g3, ⟨g4, g5⟩, L, ⟨⟨_, g4⟩, g6, g7⟩, g8⟩
theorem am_Pc_blind (hZ : am_Zok b Zx) (as : List Value) (h : am_H) : FrameBlind (am_Pc D cl dA tyl b sc Zx as h) := fun a U g mk hp => by
  obtain ⟨h1, h2, h3, h4⟩ := hp
  exact ⟨h1, h2, va_K.moved (u := U) (U := U.calling g mk a) (Vm.Alike.refl U.vm) h3, hZ.same (s := U) (U := U.calling g mk a) rfl rfl h4⟩
theorem am_Pc_at (hZ : am_Zok b Zx) {as : List Value} {h : am_H} {H : Heap} {locs : List Loc} (hP : am_P D cl dA b sc h H) (hS : va_S (fun q => b ≤ q) s.heap H locs) (hK : va_K D cl (am_tys dA tyl) s) (hz : Zx s) : ∀ U : State, U.heap = H → s.WarmedH U.vm → am_Pc D cl dA tyl b sc Zx as h ((as.map (am_v b sc)).toArray) U := fun U hU hW =>
  ⟨rfl, by rw [hU]; exact hP, va_K.moved hW.alike hK, hZ s U hW (by rw [hU]; exact hS.1) (fun q h1 h2 => by rw [hU]; exact hS.2.1 q h1 h2) hz⟩
/-- behind a call that came back -/
theorem am_back {H : Heap} {ls : Array Slot} {locs : List Loc} {k q k' q' pc : Nat} {lo : List (Option Value)} {st : List Value} {st0 : List Value} {h h' : am_H} {v : Option Value} (hr : va_Run p l e R s m args below meth c H locs k q k' q' (F0 m pc ls st0) (st.map (am_v b sc)) (fun st o t => o = .returned (v.map (am_v b sc)) ∧ am_Qh D cl dA b sc (.inl v, h', k', q') st t) (fun q => b ≤ q))
    (hJ : am_J D cl dA b sc s.heap nL (pc, lo, st, h, k, q) H ls locs)
    (kk : ∀ (H' : Heap) (ls' : Array Slot) (locs' : List Loc), am_J D cl dA b sc s.heap nL (pc + 3, lo, v.toList ++ st, h', k + k', q + q') H' ls' locs' → W p l e R s m args below meth c H' locs' (k + k') (q + q') Q (F0 m (pc + 3) ls' ((v.toList ++ st).map (am_v b sc)))) : W p l e R s m args below meth c H locs k q Q (F0 m pc ls st0) := by
  intro T hT X
  obtain ⟨v', st₀, t, T', L, h0, X', hL, e1, e2, ⟨ho, hP, hz, hk⟩, go⟩ := hr T hT X
  cases ho
  rw [h0] at hz hk
  have hJ' : am_J D cl dA b sc s.heap nL (pc + 3, lo, v.toList ++ st, h', k + k', q + q') T'.heap ls (locs ++ L) := by
    refine ⟨by rw [e1]; exact hP, ⟨Nat.le_trans hJ.2.1.1 (by rw [e1]; exact hz), fun x h1 h2 => by rw [e1, hk x (Nat.lt_of_lt_of_le h1 hJ.2.1.1) h2]; exact hJ.2.1.2.1 x h1 h2, fun x hx => ?_⟩, hJ.2.2⟩
    rcases List.mem_append.mp hx with hx | hx
    · exact hJ.2.1.2.2 x hx
    · exact hL x hx
  have hst : (v.map (am_v b sc)).toList ++ st.map (am_v b sc) = (v.toList ++ st).map (am_v b sc) := by cases v <;> simp
  obtain ⟨t2, a1, b1⟩ := kk T'.heap ls (locs ++ L) hJ' T' rfl X'
  refine ⟨t2, go t2 ?_, b1⟩
  show Steps p.tables e below (T'.setTop (F0 m (pc + 3) ls ((v.map (am_v b sc)).toList ++ st.map (am_v b sc)))) t2
  rw [hst]
  exact a1
def am_good (TS : List Cond) : Prop := ∀ w ∈ TS, (w.onTables && w.keeps) = true ∨ ∃ ty, w = .arrayClass ty
theorem am_wl_in {mi mj : am_M} (hg : am_good TS) (hh : am_h mj = []) (hc : Cond.code (am_y mj) (am_b mj) (am_L mj) (am_r mj) ∈ TS) : GoodIn (am_wl TS mi) (am_wl TS mj) := fun w hw => by
  unfold am_wl at hw
  rw [hh] at hw
  rcases List.mem_cons.mp hw with rfl | hw
  · exact ⟨List.mem_cons_of_mem _ hc, hg _ hc⟩
  · exact ⟨List.mem_cons_of_mem _ hw, hg _ hw⟩
theorem am_wl_nil {mi : am_M} (hh : am_h mi = []) : am_wl TS mi = Cond.code (am_y mi) (am_b mi) (am_L mi) (am_r mi) :: TS := by
  unfold am_wl
  rw [hh]
/-- what the tables must say of a method that is called -/
def am_okM (TS : List Cond) (mj : am_M) : Prop := am_h mj = [] ∧ Cond.code (am_y mj) (am_b mj) (am_L mj) (am_r mj) ∈ TS ∧ Cond.initialized (am_y mj).cls ∈ TS ∧ (am_y mj).cls ≠ "java/lang/invoke/MethodHandle" ∧ (am_y mj).cls ≠ "java/lang/invoke/VarHandle"
def am_par (mj : am_M) (n : Nat) : Prop := (parseMethodDescriptor (am_y mj).desc).map (fun d => d.parameters.length) = some n
theorem am_callB {mi mj : am_M} {r : am_R} {own : String} {ix na : Nat} (hg : am_good TS) (hts : ∀ w ∈ am_wl TS mi, w.before args s = true) (hM : am_okM TS mj) (hl : Cond.methodLink own ix (am_y mj) ∈ TS) (hp : am_par mj na) (hR : am_f mj + 1 ≤ R.frames ∧ 8 + (am_L mj + 11) + am_w mj ≤ R.locals) : CallB R s args own ix (am_y mj) (am_b mj) (am_L mj) (am_r mj) (am_wl TS mj) (am_rm mj r) r.2.2.1 r.2.2.2 na :=
  callB_of na hts (am_wl_in hg hM.1 hM.2.1) (am_wl_nil hM.1) rfl rfl (hts _ (List.mem_cons_of_mem _ hM.2.2.1)) (hts _ (List.mem_cons_of_mem _ hl)) ⟨hM.2.2.2.1, hM.2.2.2.2, hp⟩ hR
theorem am_callN {mi mj : am_M} {r : am_R} {own host : String} {ix na : Nat} (hg : am_good TS) (hts : ∀ w ∈ am_wl TS mi, w.before args s = true) (hM : am_okM TS mj) (hl : va_Nw (.methodLinkNest own ix (am_y mj) host) s) (hp : am_par mj na) (hR : am_f mj + 1 ≤ R.frames ∧ 8 + (am_L mj + 11) + am_w mj ≤ R.locals) : va_CN R s args own ix (am_y mj) host (am_b mj) (am_L mj) (am_r mj) (am_wl TS mj) (am_rm mj r) r.2.2.1 r.2.2.2 na :=
  va_cnB na hts (am_wl_in hg hM.1 hM.2.1) (am_wl_nil hM.1) rfl rfl hl (hts _ (List.mem_cons_of_mem _ hM.2.2.1)) ⟨hM.2.2.2.1, hM.2.2.2.2, hp⟩ hR
end AMC
