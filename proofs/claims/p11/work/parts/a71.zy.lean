/-! ===== words that stay although they are not among those that a warmer state keeps by name ===== -/
def am_Fa (ws : List Cond) (U : State) : Prop := ∀ w ∈ ws, w.before #[] U = true
theorem am_Fa.use {ws : List Cond} (hg : ∀ w ∈ ws, (w.faceAtom && w.onTables) = true) {U : State} (h : am_Fa ws U) {w : Cond} (hw : w ∈ ws) (a : Array Value) : w.before a U = true := by
  have h1 := (Bool.and_eq_true_iff.mp (hg w hw)).2
  have h2 := Cond.onTables_vm (A := a) (A' := #[]) (U := U) (U' := U) U.vm w h1
  have h3 : U.setVm U.vm = U := rfl
  rw [h3] at h2
  rw [h2]
  exact h w hw
theorem am_Fa.moved {ws : List Cond} (hg : ∀ w ∈ ws, (w.faceAtom && w.onTables) = true) {s U : State} (hW : s.vm.Alike U.vm) (h : am_Fa ws s) : am_Fa ws U := by
  intro w hw
  obtain ⟨h1, h2⟩ := Bool.and_eq_true_iff.mp (hg w hw)
  have e1 : w.before #[] (s.setVm U.vm) = true := Cond.faceAtom_setVm hW w h1 (h w hw)
  have e2 := Cond.onTables_vm (A := #[]) (A' := #[]) (U := U) (U' := s) U.vm w h2
  have e3 : U.setVm U.vm = U := rfl
  rw [e3] at e2
  rw [e2]
  exact e1
/-- the claim's own: constructors that their classes declare, exceptions that are castable to themselves -/
def am_isFa : Cond → Bool
  | .declares _ => true
  | .castable _ _ => true
  | _ => false
def am_fas : List Cond := tables_1.filter am_isFa
theorem am_fas_ok : ∀ w ∈ am_fas, (w.faceAtom && w.onTables) = true := fun w hw => by
  have h := (List.mem_filter.mp hw).2
  cases w <;> first | rfl | cases h
theorem am_fa {w : Cond} (i : Nat) (h : tables_1[i]? = some w) (g : am_isFa w = true) : w ∈ am_fas := List.mem_filter.mpr ⟨List.mem_of_getElem? h, g⟩
def am_Zy (b : Nat) (U : State) : Prop := am_Zx b U ∧ am_Fa am_fas U
theorem am_nws_ok : ∀ w ∈ am_nws, ∃ (o : String) (i : Nat) (x : MethodName) (h : String), w = .methodLinkNest o i x h := by
  intro w hw
  simp only [am_nws, List.mem_cons, List.not_mem_nil, or_false] at hw
  rcases hw with rfl | rfl | rfl | rfl <;> exact ⟨_, _, _, _, rfl⟩
theorem am_Zy_ok (b : Nat) : am_Zok b (am_Zy b) := fun s U hW hsz hq ⟨h1, h2⟩ => ⟨am_Zg_ok am_nws_ok s U hW hsz hq h1, am_Fa.moved am_fas_ok hW.alike h2⟩
