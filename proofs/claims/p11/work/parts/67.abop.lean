/-! ===== steps of abstract states: stores, and each instruction ===== -/
section ABO
variable {kd : Nat → Nat × Nat} {un uq : Nat → Bool} {Gm : Nat → Nat → List ab_V}
variable {τ u : Nat → Nat} {tv : Nat} {K : am_H → Prop} {P0 P1 : am_H → Nat} {ρ : Nat → Nat}
theorem ab_sl_set {h : am_H} {a t : Nat} {vs vs' : List Value} (hc : h[a]? = some (t, vs)) (a' i : Nat) : ab_sl (h.set a (t, vs')) a' i = if a' = a then vs'[i]? else ab_sl h a' i := by
  unfold ab_sl
  by_cases e : a' = a
  · subst e
    rw [if_pos rfl]
    have hl : a' < h.length := (List.getElem?_eq_some_iff.mp hc).1
    rw [List.getElem?_set_self hl]
  · rw [if_neg e, List.getElem?_set_ne (Ne.symm e)]
theorem ab_sl_at {h : am_H} {a t : Nat} {vs : List Value} (hc : h[a]? = some (t, vs)) (i : Nat) : ab_sl h a i = vs[i]? := by
  unfold ab_sl
  rw [hc]
theorem ab_Hp_up {wr pm k q : Nat} {h0 h : am_H} {g : ab_G} (hpm : ab_pm kd τ K P0 P1 pm) (hP : ab_Hp kd un Gm τ tv K P0 P1 wr h0 h k q g) {a t : Nat} {vs vs' : List Value} (ha : τ a ≠ 0) (hc : h[a]? = some (t, vs)) (hlen : vs'.length = vs.length) (hs : ∀ i x, vs'[i]? = some x → vs[i]? = some x ∨ (ab_tb wr (ab_bt kd (τ a) i) = true ∧ ab_tb pm (ab_bt kd (τ a) i) = false ∧ ∃ w ∈ Gm (τ a) (ab_gi un (τ a) i), ab_gc τ tv w x)) : ab_Hp kd un Gm τ tv K P0 P1 wr h0 (h.set a (t, vs')) k q g := by
  obtain ⟨hI, hK, hF, hl, hp0, hp1, hk, hq⟩ := hP
  have hal : a < h.length := (List.getElem?_eq_some_iff.mp hc).1
  have hn : ∀ i, vs'[i]? = none → vs[i]? = none := fun i hi => by
    rw [List.getElem?_eq_none_iff] at hi ⊢
    omega
  have hsame : ∀ a' i, (a' = a → ab_tb wr (ab_bt kd (τ a) i) = false ∨ ab_tb pm (ab_bt kd (τ a) i) = true) → ab_sl (h.set a (t, vs')) a' i = ab_sl h a' i := fun a' i hb => by
    rw [ab_sl_set hc]
    by_cases e : a' = a
    · rw [if_pos e, e, ab_sl_at hc]
      cases hv : vs'[i]? with
      | none => exact (hn i hv).symm
      | some x =>
        rcases hs i x hv with h1 | ⟨h1, h2, -⟩
        · exact h1.symm
        · rcases hb e with b | b
          · rw [h1] at b; cases b
          · rw [h2] at b; cases b
    · rw [if_neg e]
  obtain ⟨k1, k2, k3⟩ := hpm h (h.set a (t, vs')) (fun a' ha' i hb => hsame a' i (fun e => Or.inr (by rw [← e]; exact hb)))
  refine ⟨?_, k1 hK, ?_, ?_, ?_, ?_, hk, hq⟩
  · intro a' ha'
    obtain ⟨ws, w1, w2, w3⟩ := hI a' ha'
    by_cases e : a' = a
    · subst e
      have e1 : some ((kd (τ a')).1, ws) = some (t, vs) := w1.symm.trans hc
      cases e1
      refine ⟨vs', List.getElem?_set_self hal, by omega, fun i x hx => ?_⟩
      rcases hs i x hx with h1 | ⟨-, -, h1⟩
      · exact w3 i x h1
      · exact h1
    · exact ⟨ws, by rw [List.getElem?_set_ne (Ne.symm e)]; exact w1, w2, w3⟩
  · intro a' ha'
    obtain ⟨f1, f2⟩ := hF a' ha'
    refine ⟨fun h0' => ?_, fun h0' i hb => ?_⟩
    · rw [← f1 h0', List.getElem?_set_ne (fun e => ha (by rw [e]; exact h0'))]
    · rw [hsame a' i (fun e => Or.inl (by rw [← e]; exact hb))]
      exact f2 h0' i hb
  · rw [List.length_set]
    exact hl
  · rw [k2]
    exact hp0
  · rw [k3]
    exact hp1
theorem ab_fs_up {h : am_H} {a t : Nat} {vs vs' : List Value} (hc : h[a]? = some (t, vs)) {fa : List ab_F} (hfa : ab_fs τ tv ρ h fa) (hd : ∀ f ∈ fa, ρ f.1 = a → vs'[f.2.1]? = vs[f.2.1]?) : ab_fs τ tv ρ (h.set a (t, vs')) fa := by
  intro f hf
  obtain ⟨g1, g2, x, g3, g4⟩ := hfa f hf
  refine ⟨g1, g2, x, ?_, g4⟩
  rw [ab_sl_set hc]
  by_cases e : ρ f.1 = a
  · rw [if_pos e, hd f hf e, ← ab_sl_at hc, ← e]
    exact g3
  · rw [if_neg e]
    exact g3
theorem ab_rm1_mem {k i : Nat} {fa : List ab_F} {f : ab_F} (h : f ∈ ab_rm1 k i fa) : f ∈ fa ∧ ¬ (f.1 / 16 = k ∧ f.2.1 = i) := by
  induction fa with
  | nil => cases h
  | cons g l ih =>
    unfold ab_rm1 at h
    cases e : (Nat.beq (Nat.div g.1 16) k && Nat.beq g.2.1 i) with
    | true =>
      rw [e] at h
      obtain ⟨h1, h2⟩ := ih h
      exact ⟨List.mem_cons_of_mem _ h1, h2⟩
    | false =>
      rw [e] at h
      rcases List.mem_cons.mp h with rfl | h
      · refine ⟨List.mem_cons_self, fun ⟨e1, e2⟩ => ?_⟩
        have e1 : Nat.div f.1 16 = k := e1
        rw [e1, e2, Nat.beq_refl, Nat.beq_refl] at e
        cases e
      · obtain ⟨h1, h2⟩ := ih h
        exact ⟨List.mem_cons_of_mem _ h1, h2⟩
theorem ab_rmk_mem {k : Nat} {fa : List ab_F} {f : ab_F} (h : f ∈ ab_rmk k fa) : f ∈ fa ∧ f.1 / 16 ≠ k := by
  induction fa with
  | nil => cases h
  | cons g l ih =>
    unfold ab_rmk at h
    cases e : (Nat.beq (Nat.div g.1 16) k) with
    | true =>
      rw [e] at h
      obtain ⟨h1, h2⟩ := ih h
      exact ⟨List.mem_cons_of_mem _ h1, h2⟩
    | false =>
      rw [e] at h
      rcases List.mem_cons.mp h with rfl | h
      · exact ⟨List.mem_cons_self, Nat.ne_of_beq_eq_false e⟩
      · obtain ⟨h1, h2⟩ := ih h
        exact ⟨List.mem_cons_of_mem _ h1, h2⟩
theorem ab_rmw_mem {w : Nat} {fa : List ab_F} {f : ab_F} (h : f ∈ ab_rmw kd w fa) : f ∈ fa ∧ ab_tb w (ab_bt kd (f.1 / 16) f.2.1) = false := by
  induction fa with
  | nil => cases h
  | cons g l ih =>
    unfold ab_rmw at h
    cases e : ab_tb w (ab_bt kd (Nat.div g.1 16) g.2.1) with
    | true =>
      rw [e] at h
      obtain ⟨h1, h2⟩ := ih h
      exact ⟨List.mem_cons_of_mem _ h1, h2⟩
    | false =>
      rw [e] at h
      rcases List.mem_cons.mp h with rfl | h
      · exact ⟨List.mem_cons_self, e⟩
      · obtain ⟨h1, h2⟩ := ih h
        exact ⟨List.mem_cons_of_mem _ h1, h2⟩
theorem ab_any_ok {v : ab_V} {x : Value} {l : List ab_V} (htv : 2147483648 ≤ tv ∧ tv ≤ 2147523647) (ha : ab_any v l = true) (h : ab_g τ tv ρ v x) : ∃ w ∈ l, ab_gc τ tv w x := by
  induction l with
  | nil => cases ha
  | cons w l ih =>
    unfold ab_any at ha
    rcases Bool.or_eq_true_iff.mp ha with e | e
    · obtain ⟨e, e3⟩ := ab_a2 e
      obtain ⟨e1, e2⟩ := ab_a2 e
      have hg := ab_le_ok htv e1 (ab_bne e2) h
      refine ⟨w, List.mem_cons_self, ?_⟩
      unfold ab_g at hg
      split at hg
      · rename_i h1
        exact absurd h1 (ab_bne e3)
      · exact hg
    · obtain ⟨w', h1, h2⟩ := ih e
      exact ⟨w', List.mem_cons_of_mem _ h1, h2⟩
theorem ab_kn1 {r : ab_V} (h : r.1 = 1) : ab_kn r = r.2.1 / 16 := by
  unfold ab_kn
  rw [h]
  rfl
/-- a store into a place that is known -/
theorem ab_sv_ok {wr pm tk k q : Nat} {h0 h : am_H} {g : ab_G} {fa fa' : List ab_F} {r v : ab_V} {i a : Nat} {x : Value} (htv : 2147483648 ≤ tv ∧ tv ≤ 2147523647) (hpm : ab_pm kd τ K P0 P1 pm) (hP : ab_Hp kd un Gm τ tv K P0 P1 wr h0 h k q g) (hfa : ab_fs τ tv ρ h fa) (ha : τ a = ab_kn r) (ha0 : ab_kn r ≠ 0) (har : r.1 = 1 → a = ρ r.2.1) (hi : i < (kd (ab_kn r)).2) (hv : ab_g τ tv ρ v x) (hs : ab_sv kd un Gm wr pm tk fa r i v = some fa') : ∃ vs, h[a]? = some ((kd (ab_kn r)).1, vs) ∧ i < vs.length ∧ ab_Hp kd un Gm τ tv K P0 P1 wr h0 (h.set a ((kd (ab_kn r)).1, vs.set i x)) k q g ∧ ab_fs τ tv ρ (h.set a ((kd (ab_kn r)).1, vs.set i x)) fa' := by
  unfold ab_sv at hs
  obtain ⟨hb, hs⟩ := ab_bt_ hs
  obtain ⟨hb, b3⟩ := ab_a2 hb
  obtain ⟨b1, b2⟩ := ab_a2 hb
  have ha1 : τ a ≠ 0 := by rw [ha]; exact ha0
  obtain ⟨vs, c1, c2, c3⟩ := hP.1 a ha1
  rw [ha] at c1 c2
  have hil : i < vs.length := by omega
  have hset : ∀ j, (vs.set i x)[j]? = if j = i then some x else vs[j]? := fun j => by
    rw [List.getElem?_set]
    by_cases e : i = j
    · subst e
      rw [if_pos rfl, if_pos hil, if_pos rfl]
    · rw [if_neg e, if_neg (Ne.symm e)]
  refine ⟨vs, c1, hil, ab_Hp_up hpm hP ha1 c1 (List.length_set ..) (fun j y hy => ?_), ?_⟩
  · rw [hset] at hy
    by_cases e : j = i
    · rw [if_pos e] at hy
      cases hy
      subst e
      right
      rw [ha]
      exact ⟨b2, by simpa using b3, ab_any_ok htv b1 hv⟩
    · rw [if_neg e] at hy
      exact Or.inl hy
  · have hold : ab_fs τ tv ρ (h.set a ((kd (ab_kn r)).1, vs.set i x)) (ab_rm1 (ab_kn r) i fa) := by
      refine ab_fs_up c1 (fun f hf => hfa f (ab_rm1_mem hf).1) (fun f hf e => ?_)
      obtain ⟨m1, m2⟩ := ab_rm1_mem hf
      obtain ⟨g1, -⟩ := hfa f m1
      rw [e, ha] at g1
      rw [hset, if_neg (fun e2 => m2 ⟨g1.symm, e2⟩)]
    cases e : (Nat.beq r.1 1 && ab_tb tk (ab_bt kd (ab_kn r) i)) with
    | false =>
      rw [e] at hs
      have hs : ab_rm1 (ab_kn r) i fa = fa' := Option.some.inj hs
      rw [← hs]
      exact hold
    | true =>
      rw [e] at hs
      have hs : (r.2.1, i, v) :: ab_rm1 (ab_kn r) i fa = fa' := Option.some.inj hs
      rw [← hs]
      obtain ⟨e1, -⟩ := ab_a2 e
      have e1 := ab_beq e1
      have har := har e1
      have ek := ab_kn1 e1
      intro f hf
      rcases List.mem_cons.mp hf with rfl | hf
      · refine ⟨?_, ?_, x, ?_, hv⟩
        · show τ (ρ r.2.1) = r.2.1 / 16
          rw [← har, ha, ek]
        · show r.2.1 / 16 ≠ 0
          rw [← ek]
          exact ha0
        · show ab_sl _ (ρ r.2.1) i = _
          rw [ab_sl_set c1, ← har, if_pos rfl, hset, if_pos rfl]
      · exact hold f hf
/-- a store at an index -/
theorem ab_as_ok {wr pm tk k q : Nat} {h0 h : am_H} {g : ab_G} {fa fa' : List ab_F} {r v xi : ab_V} {a : Nat} {z : Int32} {x : Value} (htv : 2147483648 ≤ tv ∧ tv ≤ 2147523647) (hpm : ab_pm kd τ K P0 P1 pm) (hP : ab_Hp kd un Gm τ tv K P0 P1 wr h0 h k q g) (hfa : ab_fs τ tv ρ h fa) (ha : τ a = ab_kn r) (ha0 : ab_kn r ≠ 0) (har : r.1 = 1 → a = ρ r.2.1) (hz1 : xi.2.1 ≤ ab_b z) (hz2 : ab_b z ≤ xi.2.2) (hv : ab_g τ tv ρ v x) (hs : ab_as kd un Gm wr pm tk fa r xi v = some fa') : ∃ vs, h[a]? = some ((kd (ab_kn r)).1, vs) ∧ am_wr h a (kd (ab_kn r)).1 vs z x = some (h.set a ((kd (ab_kn r)).1, vs.set z.toNatClampNeg x)) ∧ ab_Hp kd un Gm τ tv K P0 P1 wr h0 (h.set a ((kd (ab_kn r)).1, vs.set z.toNatClampNeg x)) k q g ∧ ab_fs τ tv ρ (h.set a ((kd (ab_kn r)).1, vs.set z.toNatClampNeg x)) fa' := by
  unfold ab_as at hs
  obtain ⟨hb, hs⟩ := ab_bt_ hs
  obtain ⟨hb, b3⟩ := ab_a2 hb
  obtain ⟨b1, b2⟩ := ab_a2 hb
  have b1 := ab_ble b1
  have b3 : xi.2.2 < 2147483648 + (kd (ab_kn r)).2 := ab_blt b3
  obtain ⟨n1, n2⟩ := ab_ix (z := z) (by omega)
  have hin : z.toNatClampNeg < (kd (ab_kn r)).2 := by omega
  have hw : ∀ vs : List Value, vs.length = (kd (ab_kn r)).2 → am_wr h a (kd (ab_kn r)).1 vs z x = some (h.set a ((kd (ab_kn r)).1, vs.set z.toNatClampNeg x)) := fun vs hl => by
    unfold am_wr
    rw [if_neg n1, if_pos (by omega)]
  cases he : ab_exq xi with
  | true =>
    rw [he] at hs
    have he : xi.2.1 = xi.2.2 := ab_beq he
    have e : Nat.sub xi.2.1 2147483648 = z.toNatClampNeg := by
      show xi.2.1 - 2147483648 = _
      omega
    rw [e] at hs
    obtain ⟨vs, c1, c2, c3, c4⟩ := ab_sv_ok htv hpm hP hfa ha ha0 har hin hv hs
    obtain ⟨vs2, d1, d2, -⟩ := hP.1 a (by rw [ha]; exact ha0)
    rw [ha] at d1 d2
    have e1 : some ((kd (ab_kn r)).1, vs2) = some ((kd (ab_kn r)).1, vs) := d1.symm.trans c1
    cases e1
    exact ⟨_, c1, hw _ d2, c3, c4⟩
  | false =>
    rw [he] at hs
    obtain ⟨hb, hs⟩ := ab_bt_ hs
    obtain ⟨hb, d5⟩ := ab_a2 hb
    obtain ⟨hb, d4⟩ := ab_a2 hb
    obtain ⟨hb, d3⟩ := ab_a2 hb
    obtain ⟨d1, d2⟩ := ab_a2 hb
    have d5 : 100 ≤ (kd (ab_kn r)).1 := ab_ble d5
    have hs : ab_rmk (ab_kn r) fa = fa' := Option.some.inj hs
    have ha1 : τ a ≠ 0 := by rw [ha]; exact ha0
    obtain ⟨vs, c1, c2, c3⟩ := hP.1 a ha1
    rw [ha] at c1 c2
    have hbit : ∀ j, ab_bt kd (ab_kn r) j = ab_bt kd (ab_kn r) 0 := fun j => by
      unfold ab_bt
      have : Nat.blt (kd (ab_kn r)).1 100 = false := by
        cases hb : Nat.blt (kd (ab_kn r)).1 100 with
        | false => rfl
        | true => have := ab_blt hb; omega
      rw [this]
      rfl
    have hgi : ∀ j, ab_gi un (ab_kn r) j = 0 := fun j => by
      unfold ab_gi
      rw [d1]
      rfl
    refine ⟨vs, c1, hw vs c2, ab_Hp_up hpm hP ha1 c1 (List.length_set ..) (fun j y hy => ?_), ?_⟩
    · rw [List.getElem?_set] at hy
      split at hy
      · right
        rw [ha, hbit, hgi]
        split at hy
        · cases hy
          exact ⟨d3, by simpa using d4, ab_any_ok htv d2 hv⟩
        · cases hy
      · exact Or.inl hy
    · rw [← hs]
      refine ab_fs_up c1 (fun f hf => hfa f (ab_rmk_mem hf).1) (fun f hf e => ?_)
      obtain ⟨m1, m2⟩ := ab_rmk_mem hf
      obtain ⟨g1, -⟩ := hfa f m1
      rw [e, ha] at g1
      exact absurd g1.symm m2
end ABO
