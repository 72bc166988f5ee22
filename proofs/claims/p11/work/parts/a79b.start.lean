/-! ===== where the law begins ===== -/
theorem st_sts : ∀ x ∈ am_sts, Cond.stringRef x.1 x.2.1 x.2.2 ∈ tables_1 := by decide +kernel
theorem st_own : ∀ x ∈ am_sts, x.1 = "OverlayNet" := by decide +kernel
theorem st_nws : ∀ w ∈ am_nws, w ∈ tables_1 := by decide +kernel
theorem st_nwt : ∀ w ∈ am_nws, w.onTables = true := by decide +kernel
theorem st_aos : ∀ C ∈ am_aos, Cond.arrayOver (.object C) ∈ tables_1 := by decide +kernel
theorem st_ai : Cond.arrayOver (.array .int) ∈ tables_1 := by decide +kernel
theorem st_ls1 : Cond.laysStatic Bundle.tN "UNASSIGNED_STACK" Bundle.steD ∈ tables_1 := by decide +kernel
theorem st_ls2 : Cond.laysStatic Bundle.tN "SUPPRESSED_SENTINEL" Bundle.listD ∈ tables_1 := by decide +kernel
theorem st_in0 : Cond.instantiable "OverlayNet" 8 ∈ tables_1 := by decide +kernel
theorem st_tbl {w : Cond} (h : w ∈ tables_1) : w ∈ lw_tbl := List.mem_append_right _ h
theorem st_args {w : Cond} (h : w.onTables = true) {A A' : Array Value} {s : State} (hw : w.before A s = true) : w.before A' s = true := by
  have h2 := Cond.onTables_vm (A := A') (A' := A) (U := s) (U' := s) s.vm w h
  have h3 : s.setVm s.vm = s := rfl
  rw [h3] at h2
  rw [h2]
  exact hw
theorem st_Fa {A : Array Value} {s : State} (hts : ∀ w ∈ lw_tbl, w.before A s = true) : am_Fa am_fas s := fun w hw =>
  st_args (Bool.and_eq_true_iff.mp (am_fas_ok w hw)).2 (hts w (st_tbl (List.mem_filter.mp hw).1))
/-- the classes: their numbers and their slots -/
def st_CI (x : vw_C) : Prop := ∃ n, Cond.instantiable x.1 n ∈ tables_1
theorem st_ci : ∀ (ci : Nat) (x : vw_C), am_cl[ci]? = some x → st_CI x := am_ix_cons ⟨8, by decide +kernel⟩ (am_ix_cons ⟨3, by decide +kernel⟩ (am_ix_cons ⟨7, by decide +kernel⟩ (am_ix_cons ⟨5, by decide +kernel⟩ (am_ix_cons ⟨3, by decide +kernel⟩ (am_ix_cons ⟨13, by decide +kernel⟩ (am_ix_cons ⟨9, by decide +kernel⟩ (am_ix_cons ⟨4, by decide +kernel⟩ (am_ix_cons ⟨3, by decide +kernel⟩ (am_ix_cons ⟨42, by decide +kernel⟩ (am_ix_cons ⟨6, by decide +kernel⟩ (am_ix_cons ⟨6, by decide +kernel⟩ (am_ix_cons ⟨6, by decide +kernel⟩ am_ix_nil))))))))))))
theorem st_cls {A : Array Value} {s : State} (hts : ∀ w ∈ lw_tbl, w.before A s = true) (ci : Nat) : ∃ q : ClassId × (Nat → Nat), ∀ x, am_cl[ci]? = some x → u_Kn s x.1 x.2.1 x.2.2 q.1 q.2 := by
  cases h : am_cl[ci]? with
  | none => exact ⟨(0, fun _ => 0), fun x hx => by cases hx⟩
  | some x =>
    obtain ⟨n, hn⟩ := st_ci ci x h
    have hws : ∀ w ∈ u_ws x.1 x.2.1 x.2.2, w ∈ lw_tbl := fun w hw => (List.mem_filter.mp ((am_cls ci x h).1 w hw)).1
    obtain ⟨cC, iS, hk⟩ := u_known (n := n) hts hws (hts _ (st_tbl hn))
    exact ⟨(cC, iS), fun y hy => by cases hy; exact hk⟩
theorem st_arrC {A : Array Value} {s : State} {ty : FieldType} (h : (Cond.arrayClass ty).before A s = true) (hn : ∀ C, ty ≠ .object C) : ∃ cA, ArrOfT s cA ty ∧ va_RA s cA ty := by
  obtain ⟨c, k, comp, h1, h2, h3⟩ := Cond.arrayClass_spec h
  refine ⟨c, fun n z => ⟨fun k h => (by cases h), k, h2, comp, h3⟩, ?_⟩
  cases ty with
  | object C => exact absurd rfl (hn C)
  | _ => exact h1
theorem st_arrO {A : Array Value} {s : State} {C : String} (h : (Cond.arrayOver (.object C)).before A s = true) : ∃ cA, ArrOfT s cA (.object C) ∧ va_RA s cA (.object C) := by
  obtain ⟨comp, c, k, h1, h2, h3, h4, h5⟩ := Cond.arrayOver_spec h
  exact ⟨c, fun n z => ⟨fun k h => (by cases h), k, h3, comp, h4⟩, k, comp, h3, h4, h1, h5⟩
theorem st_arrA {A : Array Value} {s : State} (h : (Cond.arrayOver (.array .int)).before A s = true) : ∃ cA, ArrOfT s cA (.array .int) ∧ va_RA s cA (.array .int) := by
  obtain ⟨comp, c, k, h1, h2, h3, h4, h5⟩ := arrayOverA_spec h
  exact ⟨c, fun n z => ⟨fun k h => (by cases h), k, h3, comp, h4⟩, h5⟩
def st_AT (s : State) (ty : FieldType) : Prop := ∃ cA, ArrOfT s cA ty ∧ va_RA s cA ty
theorem st_arrs {A : Array Value} {s : State} (hts : ∀ w ∈ lw_tbl, w.before A s = true) : ∀ (k : Nat) (ty : FieldType), am_tyl[k]? = some ty → st_AT s ty := by
  have g : ∀ w ∈ am_TS, w.before A s = true := fun w hw => hts w (List.mem_filter.mp hw).1
  refine am_ix_cons ?_ (am_ix_cons ?_ (am_ix_cons ?_ (am_ix_cons ?_ (am_ix_cons ?_ (am_ix_cons ?_ (am_ix_cons ?_ am_ix_nil))))))
  · exact st_arrC (g _ am_w_61) (fun C h => by cases h)
  · exact st_arrC (g _ am_w_60) (fun C h => by cases h)
  · exact st_arrC (g _ am_w_1120) (fun C h => by cases h)
  · exact st_arrA (hts _ (st_tbl st_ai))
  · exact st_arrO (hts _ (st_tbl (st_aos "OverlayNet$Packet" (by decide))))
  · exact st_arrO (hts _ (st_tbl (st_aos "OverlayNet$Frame" (by decide))))
  · exact st_arrO (hts _ (st_tbl (st_aos "OverlayNet$Machine" (by decide))))
theorem st_dA {A : Array Value} {s : State} (hts : ∀ w ∈ lw_tbl, w.before A s = true) (k : Nat) : ∃ cA : ClassId, ∀ ty, am_tyl[k]? = some ty → ArrOfT s cA ty ∧ va_RA s cA ty := by
  cases h : am_tyl[k]? with
  | none => exact ⟨0, fun ty hty => by cases hty⟩
  | some ty =>
    obtain ⟨cA, h1⟩ := st_arrs hts k ty h
    exact ⟨cA, fun t ht => by cases ht; exact h1⟩
theorem st_K {A : Array Value} {s : State} (hts : ∀ w ∈ lw_tbl, w.before A s = true) : ∃ (D : va_G) (dA : Nat → ClassId), va_K D am_cl (am_tys dA am_tyl) s := by
  refine ⟨(fun ci => (Classical.choose (st_cls hts ci)).1, fun ci => (Classical.choose (st_cls hts ci)).2), fun k => Classical.choose (st_dA hts k), fun ci x hx => Classical.choose_spec (st_cls hts ci) x hx, fun k q hq => ?_⟩
  unfold am_tys at hq
  rw [List.getElem?_map, List.getElem?_zipIdx] at hq
  cases h : am_tyl[k]? with
  | none =>
    rw [h] at hq
    cases hq
  | some ty =>
    rw [h] at hq
    simp only [Option.map_some, Option.some.injEq, Nat.zero_add] at hq
    subst hq
    exact Classical.choose_spec (st_dA hts k) ty h
