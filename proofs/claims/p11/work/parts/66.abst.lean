/-! ===== what abstract states mean; loads and stores ===== -/
def ab_sl (h : am_H) (a i : Nat) : Option Value := match h[a]? with
  | some c => c.2[i]?
  | none => none
section ABM
variable (kd : Nat → Nat × Nat) (un uq : Nat → Bool) (Gm : Nat → Nat → List ab_V)
variable (τ u : Nat → Nat) (tv : Nat) (K : am_H → Prop) (P0 P1 : am_H → Nat)
def ab_gL (ρ : Nat → Nat) : List ab_V → List Value → Prop
  | [], [] => True
  | v :: l, x :: m => ab_g τ tv ρ v x ∧ ab_gL ρ l m
  | _, _ => False
def ab_gO (ρ : Nat → Nat) : List ab_V → List (Option Value) → Prop
  | [], [] => True
  | v :: l, o :: m => (v.1 = 5 ∨ ∃ x, o = some x ∧ ab_g τ tv ρ v x) ∧ ab_gO ρ l m
  | _, _ => False
def ab_fk (ρ : Nat → Nat) (h : am_H) (f : ab_F) : Prop := τ (ρ f.1) = f.1 / 16 ∧ f.1 / 16 ≠ 0 ∧ ∃ x, ab_sl h (ρ f.1) f.2.1 = some x ∧ ab_g τ tv ρ f.2.2 x
def ab_fs (ρ : Nat → Nat) (h : am_H) (fa : List ab_F) : Prop := ∀ f ∈ fa, ab_fk τ tv ρ h f
/-- names of kinds that have one cell alone -/
def ab_ad (ρ : Nat → Nat) : Prop := ∀ k, uq k = true → ρ (16 * k) = u k
def ab_U : Prop := ∀ a, uq (τ a) = true → a = u (τ a)
def ab_I (h : am_H) : Prop := ∀ a, τ a ≠ 0 → ∃ vs, h[a]? = some ((kd (τ a)).1, vs) ∧ vs.length = (kd (τ a)).2 ∧ ∀ i x, vs[i]? = some x → ∃ v ∈ Gm (τ a) (ab_gi un (τ a) i), ab_gc τ tv v x
/-- what was written lies in wr -/
def ab_Fr (wr : Nat) (h h' : am_H) : Prop := ∀ a, a < h.length → (τ a = 0 → h'[a]? = h[a]?) ∧ (τ a ≠ 0 → ∀ i, ab_tb wr (ab_bt kd (τ a) i) = false → ab_sl h' a i = ab_sl h a i)
def ab_Hp (wr : Nat) (h0 h : am_H) (k q : Nat) (g : ab_G) : Prop := ab_I kd un Gm τ tv h ∧ K h ∧ ab_Fr kd τ wr h0 h ∧ h.length = h0.length + k ∧ P0 h + 1000 ≤ P0 h0 + g.1 ∧ P1 h + 1000 ≤ P1 h0 + g.2.1 ∧ k ≤ g.2.2.1 ∧ q ≤ g.2.2.2
def ab_m (wr : Nat) (h0 : am_H) (ρ : Nat → Nat) (A : ab_S) (S : am_S) : Prop := S.1 = A.1 ∧ ab_gO τ tv ρ A.2.1 S.2.1 ∧ ab_gL τ tv ρ A.2.2.1 S.2.2.1 ∧ ab_fs τ tv ρ S.2.2.2.1 A.2.2.2.1 ∧ ab_Hp kd un Gm τ tv K P0 P1 wr h0 S.2.2.2.1 S.2.2.2.2.1 S.2.2.2.2.2 A.2.2.2.2
/-- K, P0 and P1 hang on slots in pm alone -/
def ab_pm (pm : Nat) : Prop := ∀ h h', (∀ a, τ a ≠ 0 → ∀ i, ab_tb pm (ab_bt kd (τ a) i) = true → ab_sl h' a i = ab_sl h a i) → (K h → K h') ∧ P0 h' = P0 h ∧ P1 h' = P1 h
variable {kd un uq Gm τ u tv K P0 P1}
variable {ρ : Nat → Nat}
theorem ab_g_c {v : ab_V} {x : Value} (h : ab_gc τ tv v x) : ab_g τ tv ρ v x := by
  unfold ab_g
  split
  · rename_i h1
    unfold ab_gc at h
    rw [h1] at h
    exact h.elim
  · exact h
theorem ab_gL_len {l : List ab_V} {m : List Value} (h : ab_gL τ tv ρ l m) : l.length = m.length := by
  induction l generalizing m with
  | nil => cases m with
    | nil => rfl
    | cons => exact h.elim
  | cons v l ih => cases m with
    | nil => exact h.elim
    | cons x m => rw [List.length_cons, List.length_cons, ih h.2]
theorem ab_gO_len {l : List ab_V} {m : List (Option Value)} (h : ab_gO τ tv ρ l m) : l.length = m.length := by
  induction l generalizing m with
  | nil => cases m with
    | nil => rfl
    | cons => exact h.elim
  | cons v l ih => cases m with
    | nil => exact h.elim
    | cons x m => rw [List.length_cons, List.length_cons, ih h.2]
theorem ab_gO_nth {l : List ab_V} {m : List (Option Value)} (h : ab_gO τ tv ρ l m) (j : Nat) (h5 : (ab_nth l j).1 ≠ 5) : ∃ x, m[j]? = some (some x) ∧ ab_g τ tv ρ (ab_nth l j) x := by
  induction l generalizing m j with
  | nil => exact absurd rfl h5
  | cons v l ih => cases m with
    | nil => exact h.elim
    | cons o m =>
      cases j with
      | zero =>
        rcases h.1 with e | ⟨x, rfl, hx⟩
        · exact absurd e h5
        · exact ⟨x, rfl, hx⟩
      | succ j =>
        rw [List.getElem?_cons_succ]
        exact ih h.2 j h5
theorem ab_gO_set {l : List ab_V} {m : List (Option Value)} (h : ab_gO τ tv ρ l m) (j : Nat) {v : ab_V} {x : Value} (hv : ab_g τ tv ρ v x) : ab_gO τ tv ρ (l.set j v) (m.set j (some x)) := by
  induction l generalizing m j with
  | nil => cases m with
    | nil => exact h
    | cons => exact h.elim
  | cons w l ih => cases m with
    | nil => exact h.elim
    | cons o m =>
      cases j with
      | zero => exact ⟨Or.inr ⟨x, rfl, hv⟩, h.2⟩
      | succ j => exact ⟨h.1, ih h.2 j⟩
/-- another cell for a name that does not stand there -/
def ab_up (ρ : Nat → Nat) (N a : Nat) : Nat → Nat := fun n => if n = N then a else ρ n
theorem ab_up_g {N a : Nat} {v : ab_V} {x : Value} (hn : ab_nV N v = true) (h : ab_g τ tv ρ v x) : ab_g τ tv (ab_up ρ N a) v x := by
  unfold ab_g at h ⊢
  split at h
  · rename_i h1
    have hne : v.2.1 ≠ N := fun e => by
      unfold ab_nV at hn
      have : (Nat.beq v.1 1 && Nat.beq v.2.1 N) = true := by
        rw [h1, e, Nat.beq_refl N]
        rfl
      rw [this] at hn
      cases hn
    have e : ab_up ρ N a v.2.1 = ρ v.2.1 := if_neg hne
    rw [e]
    exact h
  · exact h
theorem ab_up_L {N a : Nat} {l : List ab_V} {m : List Value} (hn : ab_nL N l = true) (h : ab_gL τ tv ρ l m) : ab_gL τ tv (ab_up ρ N a) l m := by
  induction l generalizing m with
  | nil => cases m with
    | nil => trivial
    | cons => exact h.elim
  | cons v l ih => cases m with
    | nil => exact h.elim
    | cons x m =>
      obtain ⟨h1, h2⟩ := ab_a2 hn
      exact ⟨ab_up_g h1 h.1, ih h2 h.2⟩
theorem ab_up_O {N a : Nat} {l : List ab_V} {m : List (Option Value)} (hn : ab_nL N l = true) (h : ab_gO τ tv ρ l m) : ab_gO τ tv (ab_up ρ N a) l m := by
  induction l generalizing m with
  | nil => cases m with
    | nil => trivial
    | cons => exact h.elim
  | cons v l ih => cases m with
    | nil => exact h.elim
    | cons x m =>
      obtain ⟨h1, h2⟩ := ab_a2 hn
      refine ⟨?_, ih h2 h.2⟩
      rcases h.1 with e | ⟨y, e, hy⟩
      · exact Or.inl e
      · exact Or.inr ⟨y, e, ab_up_g h1 hy⟩
theorem ab_up_F {N a : Nat} {l : List ab_F} {hh : am_H} (hn : ab_nF N l = true) (h : ab_fs τ tv ρ hh l) : ab_fs τ tv (ab_up ρ N a) hh l := by
  induction l with
  | nil => intro f hf; cases hf
  | cons f l ih =>
    obtain ⟨h1, h2⟩ := ab_a2 hn
    obtain ⟨h1, h3⟩ := ab_a2 h1
    intro f' hf'
    rcases List.mem_cons.mp hf' with rfl | hf'
    · have e : ab_up ρ N a f'.1 = ρ f'.1 := if_neg (ab_bne h1)
      obtain ⟨g1, g2, x, g3, g4⟩ := h f' List.mem_cons_self
      unfold ab_fk
      rw [e]
      exact ⟨g1, g2, x, g3, ab_up_g h3 g4⟩
    · exact ih h2 (fun g hg => h g (List.mem_cons_of_mem _ hg)) f' hf'
theorem ab_ff_mem {fa : List ab_F} {n i : Nat} {v : ab_V} (h : ab_ff fa n i = some v) : (n, i, v) ∈ fa := by
  induction fa with
  | nil => cases h
  | cons f l ih =>
    unfold ab_ff at h
    cases e : (Nat.beq f.1 n && Nat.beq f.2.1 i) with
    | true =>
      rw [e] at h
      obtain ⟨h1, h2⟩ := ab_a2 e
      obtain ⟨f1, f2, f3⟩ := f
      have h1 : f1 = n := ab_beq h1
      have h2 : f2 = i := ab_beq h2
      have h3 : f3 = v := Option.some.inj h
      subst h1 h2 h3
      exact List.mem_cons_self
    | false =>
      rw [e] at h
      exact List.mem_cons_of_mem _ (ih h)
theorem ab_nrm_ok {v : ab_V} {x : Value} (hU : ab_U uq τ u) (ha : ab_ad uq u ρ) (h : ab_gc τ tv v x) : ab_g τ tv ρ (ab_nrm uq v) x := by
  unfold ab_nrm
  cases e : (Nat.beq v.1 2 && uq v.2.1) with
  | false => exact ab_g_c h
  | true =>
    obtain ⟨h1, h2⟩ := ab_a2 e
    obtain ⟨t, k, b⟩ := v
    have : t = 2 := ab_beq h1
    subst this
    obtain ⟨y, rfl, h3, h4⟩ := h
    have h3 : τ y = k := h3
    have h2 : uq k = true := h2
    have e1 : ρ (16 * k) = u k := ha k h2
    have e2 : y = u k := by
      have := hU y (by rw [h3]; exact h2)
      rw [h3] at this
      exact this
    have e3 : 16 * k / 16 = k := by omega
    show Value.ref y = Value.ref (ρ (16 * k)) ∧ τ (ρ (16 * k)) = 16 * k / 16 ∧ 16 * k / 16 ≠ 0
    rw [e1, e3, ← e2]
    exact ⟨rfl, h3, h4⟩
/-- a slot of a cell that has a kind -/
theorem ab_I_sl {h : am_H} (hI : ab_I kd un Gm τ tv h) {a i : Nat} (ha : τ a ≠ 0) (hi : i < (kd (τ a)).2) : ∃ vs x, h[a]? = some ((kd (τ a)).1, vs) ∧ vs.length = (kd (τ a)).2 ∧ vs[i]? = some x ∧ ab_sl h a i = some x ∧ ∃ v ∈ Gm (τ a) (ab_gi un (τ a) i), ab_gc τ tv v x := by
  obtain ⟨vs, h1, h2, h3⟩ := hI a ha
  have hx : vs[i]? = some vs[i] := List.getElem?_eq_getElem (by omega)
  refine ⟨vs, vs[i], h1, h2, hx, ?_, h3 i _ hx⟩
  unfold ab_sl
  rw [h1]
  exact hx
/-- what comes of a slot -/
theorem ab_ld_ok {tk N : Nat} {lo st : List ab_V} {fa : List ab_F} {r : ab_V} {i a : Nat} {x : Value} {h : am_H} {lo' : List (Option Value)} {st' : List Value} (hU : ab_U uq τ u) (had : ab_ad uq u ρ) (hr : ab_iR r = true) (ha : τ a = ab_kn r) (ha0 : ab_kn r ≠ 0) (har : r.1 = 1 → a = ρ r.2.1) (hx : r.1 = 1 → ab_sl h a i = some x) (hg : ∃ v ∈ Gm (τ a) (ab_gi un (τ a) i), ab_gc τ tv v x) (hlo : ab_gO τ tv ρ lo lo') (hst : ab_gL τ tv ρ st st') (hfa : ab_fs τ tv ρ h fa) : ∃ p ∈ ab_ld kd un uq Gm tk N lo st fa r i, ∃ ρ', ab_ad uq u ρ' ∧ ab_gO τ tv ρ' lo lo' ∧ ab_gL τ tv ρ' st st' ∧ ab_fs τ tv ρ' h p.2 ∧ ab_g τ tv ρ' p.1 x := by
  unfold ab_ld
  split
  · rename_i v hv
    cases e1 : Nat.beq r.1 1 with
    | false => rw [e1] at hv; cases hv
    | true =>
      rw [e1] at hv
      obtain ⟨g1, g2, y, g3, g4⟩ := hfa _ (ab_ff_mem hv)
      refine ⟨_, List.mem_cons_self, ρ, had, hlo, hst, hfa, ?_⟩
      have this : a = ρ r.2.1 := har (ab_beq e1)
      have hx := hx (ab_beq e1)
      rw [this] at hx
      have e : some x = some y := hx.symm.trans g3
      cases e
      exact g4
  · obtain ⟨v, hv, hvx⟩ := hg
    rw [ha] at hv
    refine ⟨_, List.mem_map.mpr ⟨v, hv, rfl⟩, ?_⟩
    cases e : (Nat.beq v.1 2 && !(Nat.beq N 0) && Nat.beq (Nat.div N 16) v.2.1 && !(Nat.beq (Nat.mod N 16) 0) && ab_nL N lo && ab_nL N st && ab_nF N fa) with
    | true =>
      obtain ⟨e, e7⟩ := ab_a2 e
      obtain ⟨e, e6⟩ := ab_a2 e
      obtain ⟨e, e5⟩ := ab_a2 e
      obtain ⟨e, e4⟩ := ab_a2 e
      obtain ⟨e, e3⟩ := ab_a2 e
      obtain ⟨e1, e2⟩ := ab_a2 e
      obtain ⟨t, k, b⟩ := v
      have h1 : t = 2 := ab_beq e1
      subst h1
      obtain ⟨y, rfl, g1, g2⟩ := hvx
      have g1 : τ y = k := g1
      have g2 : k ≠ 0 := g2
      have e3 : N / 16 = k := ab_beq e3
      have e4 : N % 16 ≠ 0 := ab_bne e4
      have hN : ab_up ρ N y N = y := if_pos rfl
      have hgN : ab_g τ tv (ab_up ρ N y) (1, N, 0) (.ref y) := by
        rw [ab_g_1, hN, e3]
        exact ⟨rfl, g1, g2⟩
      refine ⟨ab_up ρ N y, ?_, ab_up_O e5 hlo, ab_up_L e6 hst, ?_, hgN⟩
      · intro k' hk'
        have : 16 * k' ≠ N := by omega
        have e : ab_up ρ N y (16 * k') = ρ (16 * k') := if_neg this
        rw [e]
        exact had k' hk'
      · have hF := ab_up_F (a := y) e7 hfa
        show ab_fs τ tv (ab_up ρ N y) h (bif Nat.beq r.1 1 && !(Nat.beq r.2.1 N) then (r.2.1, i, (1, N, 0)) :: fa else fa)
        cases er : (Nat.beq r.1 1 && !(Nat.beq r.2.1 N)) with
        | false => exact hF
        | true =>
          obtain ⟨r1, r2⟩ := ab_a2 er
          have r1' := har (ab_beq r1)
          have en : ab_up ρ N y r.2.1 = ρ r.2.1 := if_neg (ab_bne r2)
          have ek : ab_kn r = r.2.1 / 16 := by
            unfold ab_kn
            rw [r1]
            rfl
          intro f hf
          rcases List.mem_cons.mp hf with rfl | hf
          · refine ⟨?_, ?_, .ref y, ?_, hgN⟩
            · show τ (ab_up ρ N y r.2.1) = r.2.1 / 16
              rw [en, ← r1', ha, ek]
            · show r.2.1 / 16 ≠ 0
              rw [← ek]
              exact ha0
            · show ab_sl h (ab_up ρ N y r.2.1) i = _
              rw [en, ← r1']
              exact hx (ab_beq r1)
          · exact hF f hf
    | false =>
      have hgN := ab_nrm_ok hU had hvx
      refine ⟨ρ, had, hlo, hst, ?_, hgN⟩
      show ab_fs τ tv ρ h (bif Nat.beq r.1 1 && ab_tb tk (ab_bt kd (ab_kn r) i) then (r.2.1, i, ab_nrm uq v) :: fa else fa)
      cases er : (Nat.beq r.1 1 && ab_tb tk (ab_bt kd (ab_kn r) i)) with
      | false => exact hfa
      | true =>
        obtain ⟨r1, r2⟩ := ab_a2 er
        have r1' := har (ab_beq r1)
        have ek : ab_kn r = r.2.1 / 16 := by
          unfold ab_kn
          rw [r1]
          rfl
        intro f hf
        rcases List.mem_cons.mp hf with rfl | hf
        · refine ⟨?_, ?_, x, ?_, hgN⟩
          · show τ (ρ r.2.1) = r.2.1 / 16
            rw [← r1', ha, ek]
          · show r.2.1 / 16 ≠ 0
            rw [← ek]
            exact ha0
          · show ab_sl h (ρ r.2.1) i = _
            rw [← r1']
            exact hx (ab_beq r1)
        · exact hfa f hf
end ABM
