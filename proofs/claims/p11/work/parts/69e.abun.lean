/-! ===== the checker is right ===== -/
section ABN
variable (fty : Nat → Nat → Option FieldType) (dfl : Nat → Option (List Value)) (cmp : Nat → Option (Option Nat)) (lk : Nat → Nat → Option am_K) (ms : Nat → Option am_M) (cx : Nat → Option Nat)
variable (kd : Nat → Nat × Nat) (un uq : Nat → Bool) (Gm : Nat → Nat → List ab_V)
variable (τ u : Nat → Nat) (tv : Nat) (K : am_H → Prop) (P0 P1 : am_H → Nat)
def ab_gA (ρ : Nat → Nat) : List ab_V → List Value → Prop
  | [], [] => True
  | v :: l, x :: m => (v.1 = 5 ∨ ab_g τ tv ρ v x) ∧ ab_gA ρ l m
  | _, _ => False
def ab_fb (h : am_H) (f : ab_F) : Prop := τ (u (f.1 / 16)) = f.1 / 16 ∧ f.1 / 16 ≠ 0 ∧ ∃ x, ab_sl h (u (f.1 / 16)) f.2.1 = some x ∧ ab_gc τ tv f.2.2 x
/-- how a call ends -/
def ab_Po (C : ab_C) (h0 : am_H) (r : am_R) : Prop := ∃ e ∈ C.2.2.1, ((e.1 = 0 ∧ r.1 = .inl none) ∨ (e.1 = 1 ∧ ∃ x, r.1 = .inl (some x) ∧ ab_gc τ tv e.2.1 x) ∨ (e.1 = 2 ∧ ∃ y c, r.1 = .inr y ∧ r.2.1[y]? = some c ∧ c.1 = e.2.1.1)) ∧ ab_Hp kd un Gm τ tv K P0 P1 C.2.2.2.1 h0 r.2.1 r.2.2.1 r.2.2.2 C.2.2.2.2 ∧ ∀ f ∈ e.2.2, ab_fb τ u tv r.2.1 f
/-- a method keeps a contract -/
def ab_Vd (j : Nat) (C : ab_C) : Prop := ∀ mj, ms j = some mj → ∀ ρ h as, ab_ad uq u ρ → ab_I kd un Gm τ tv h → K h → ab_gA τ tv ρ C.1 as → ab_fs τ tv ρ h C.2.1 → ∃ f r, am_run fty dfl cmp lk ms cx am_o0 f mj (0, as.map some ++ List.replicate (am_L mj - as.length) none, [], h, 0, 0) = some r ∧ ab_Po kd un Gm τ u tv K P0 P1 C h r
variable {fty dfl cmp lk ms cx kd un uq Gm τ u tv K P0 P1}
variable {ρ : Nat → Nat} {h0 h : am_H}
theorem ab_leL_ok (htv : 2147483648 ≤ tv ∧ tv ≤ 2147523647) : ∀ {l m : List ab_V} {x : List (Option Value)}, ab_leL l m = true → ab_gO τ tv ρ l x → ab_gO τ tv ρ m x
  | [], [], _, _, h => h
  | [], _ :: _, _, h, _ => by cases h
  | _ :: _, [], _, h, _ => by cases h
  | v :: l, w :: m, [], _, h => h.elim
  | v :: l, w :: m, o :: x, hl, h => by
    obtain ⟨h1, h2⟩ := ab_a2 hl
    refine ⟨?_, ab_leL_ok htv h2 h.2⟩
    by_cases e : w.1 = 5
    · exact Or.inl e
    · rcases h.1 with h5 | ⟨y, hy, hg⟩
      · exfalso
        obtain ⟨t, a, b⟩ := v
        have h5 : t = 5 := h5
        subst h5
        unfold ab_le at h1
        obtain ⟨t, a', b'⟩ := w
        cases e5 : Nat.beq t 5 with
        | true => exact e (ab_beq e5)
        | false =>
          dsimp only at h1
          rw [e5] at h1
          cases e0 : Nat.beq t 0 with
          | true => rw [e0] at h1; cases h1
          | false =>
            rw [e0] at h1
            cases e2 : Nat.beq t 2 with
            | true => rw [e2] at h1; cases h1
            | false =>
              rw [e2] at h1
              cases e6 : Nat.beq t 6 with
              | true => rw [e6] at h1; cases h1
              | false =>
                rw [e6] at h1
                obtain ⟨g1, -⟩ := ab_a2 h1
                exact e (ab_beq g1).symm
      · exact Or.inr ⟨y, hy, ab_le_ok htv h1 e hg⟩
theorem ab_leK_ok (htv : 2147483648 ≤ tv ∧ tv ≤ 2147523647) : ∀ {l m : List ab_V} {x : List Value}, ab_leK l m = true → ab_gL τ tv ρ l x → ab_gL τ tv ρ m x
  | [], [], _, _, h => h
  | [], _ :: _, _, h, _ => by cases h
  | _ :: _, [], _, h, _ => by cases h
  | v :: l, w :: m, [], _, h => h.elim
  | v :: l, w :: m, o :: x, hl, h => by
    obtain ⟨h1, h2⟩ := ab_a2 hl
    obtain ⟨h1, h3⟩ := ab_a2 h1
    exact ⟨ab_le_ok htv h1 (ab_bne h3) h.1, ab_leK_ok htv h2 h.2⟩
theorem ab_leF_ok (htv : 2147483648 ≤ tv ∧ tv ≤ 2147523647) {s t : List ab_F} (hl : ab_leF s t = true) (hs : ab_fs τ tv ρ h s) : ab_fs τ tv ρ h t := by
  induction t with
  | nil => intro f hf; cases hf
  | cons f t ih =>
    obtain ⟨h1, h2⟩ := ab_a2 hl
    intro f' hf'
    rcases List.mem_cons.mp hf' with rfl | hf'
    · split at h1
      · rename_i v hv
        obtain ⟨h1, h3⟩ := ab_a2 h1
        obtain ⟨g1, g2, x, g3, g4⟩ := hs _ (ab_ff_mem hv)
        exact ⟨g1, g2, x, g3, ab_le_ok htv h1 (ab_bne h3) g4⟩
      · cases h1
    · exact ih h2 f' hf'
theorem ab_leG_ok {wr k q : Nat} {g g' : ab_G} (hg : ab_leG g g' = true) (hP : ab_Hp kd un Gm τ tv K P0 P1 wr h0 h k q g) : ab_Hp kd un Gm τ tv K P0 P1 wr h0 h k q g' := by
  obtain ⟨h1, h4⟩ := ab_a2 hg
  obtain ⟨h1, h3⟩ := ab_a2 h1
  obtain ⟨h1, h2⟩ := ab_a2 h1
  have h1 := ab_ble h1
  have h2 := ab_ble h2
  have h3 := ab_ble h3
  have h4 := ab_ble h4
  obtain ⟨p1, p2, p3, p4, p5, p6, p7, p8⟩ := hP
  exact ⟨p1, p2, p3, p4, by omega, by omega, by omega, by omega⟩
theorem ab_leS_ok (htv : 2147483648 ≤ tv ∧ tv ≤ 2147523647) {wr : Nat} {A B : ab_S} {S : am_S} (hl : ab_leS A B = true) (hm : ab_m kd un Gm τ tv K P0 P1 wr h0 ρ A S) : ab_m kd un Gm τ tv K P0 P1 wr h0 ρ B S := by
  obtain ⟨hl, l5⟩ := ab_a2 hl
  obtain ⟨hl, l4⟩ := ab_a2 hl
  obtain ⟨hl, l3⟩ := ab_a2 hl
  obtain ⟨l1, l2⟩ := ab_a2 hl
  obtain ⟨m1, m2, m3, m4, m5⟩ := hm
  exact ⟨m1.trans (ab_beq l1), ab_leL_ok htv l2 m2, ab_leK_ok htv l3 m3, ab_leF_ok htv l4 m4, ab_leG_ok l5 m5⟩
theorem ab_ms_ok {A : ab_S} {es : List ab_E} (h : ab_ms A es = true) : ∃ e ∈ es, ab_leS A e.2.2.2 = true := by
  induction es with
  | nil => cases h
  | cons e l ih =>
    rcases Bool.or_eq_true_iff.mp h with g | g
    · exact ⟨e, List.mem_cons_self, g⟩
    · obtain ⟨e', h1, h2⟩ := ih g
      exact ⟨e', List.mem_cons_of_mem _ h1, h2⟩
/-- the cells of the arguments' names -/
def ab_rho (ρ : Nat → Nat) : List ab_V → List Value → Nat → Nat
  | p :: ps, .ref a :: xs => if p.1 = 1 then ab_up (ab_rho ρ ps xs) p.2.1 a else ab_rho ρ ps xs
  | _ :: ps, _ :: xs => ab_rho ρ ps xs
  | _, _ => ρ
theorem ab_rho_1 {p : ab_V} {ps : List ab_V} {a : Nat} {xs : List Value} (h : p.1 = 1) : ab_rho ρ (p :: ps) (.ref a :: xs) = ab_up (ab_rho ρ ps xs) p.2.1 a := if_pos h
theorem ab_rho_n {p : ab_V} {ps : List ab_V} {x : Value} {xs : List Value} (h : p.1 ≠ 1) : ab_rho ρ (p :: ps) (x :: xs) = ab_rho ρ ps xs := by
  cases x
  case ref a => exact if_neg h
  all_goals rfl
theorem ab_upA {ρ' : Nat → Nat} {N a : Nat} : ∀ {l : List ab_V} {m : List Value}, ab_nL N l = true → ab_gA τ tv ρ' l m → ab_gA τ tv (ab_up ρ' N a) l m
  | [], [], _, _ => trivial
  | [], _ :: _, _, h => h.elim
  | _ :: _, [], _, h => h.elim
  | v :: l, x :: m, hn, h => by
    obtain ⟨h1, h2⟩ := ab_a2 hn
    refine ⟨?_, ab_upA h2 h.2⟩
    rcases h.1 with e | e
    · exact Or.inl e
    · exact Or.inr (ab_up_g h1 e)
theorem ab_rho_ok (htv : 2147483648 ≤ tv ∧ tv ≤ 2147523647) (hU : ab_U uq τ u) (had : ab_ad uq u ρ) : ∀ {as pre : List ab_V} {vs : List Value}, ab_lepL as pre = true → ab_nd pre = true → ab_gL τ tv ρ as vs → ab_gA τ tv (ab_rho ρ pre vs) pre vs ∧ ab_ad uq u (ab_rho ρ pre vs)
  | [], [], [], _, _, _ => ⟨trivial, had⟩
  | [], [], _ :: _, _, _, h => h.elim
  | [], _ :: _, _, h, _, _ => by cases h
  | _ :: _, [], _, h, _, _ => by cases h
  | _ :: _, _ :: _, [], _, _, h => h.elim
  | x :: as, p :: pre, v :: vs, hl, hn, hg => by
    obtain ⟨l1, l2⟩ := ab_a2 hl
    obtain ⟨n1, n2⟩ := ab_a2 hn
    obtain ⟨ih1, ih2⟩ := ab_rho_ok htv hU had l2 n2 hg.2
    unfold ab_lep at l1
    cases e1 : Nat.beq p.1 1 with
    | true =>
      rw [e1] at l1 n1
      obtain ⟨k1, k2⟩ := ab_a2 l1
      obtain ⟨a, rfl, r1, r2, -⟩ := ab_ref k1 hg.1
      have k2 : ab_kn x = p.2.1 / 16 := ab_beq k2
      have e1 := ab_beq e1
      have n1 : ab_nL p.2.1 pre = true := n1
      rw [ab_rho_1 e1]
      have hN : ab_up (ab_rho ρ pre vs) p.2.1 a p.2.1 = a := if_pos rfl
      refine ⟨⟨Or.inr ?_, ab_upA n1 ih1⟩, ?_⟩
      · obtain ⟨t, n, b⟩ := p
        have e1 : t = 1 := e1
        subst e1
        rw [ab_g_1]
        have hN : ab_up (ab_rho ρ pre vs) n a n = a := hN
        have k2 : ab_kn x = n / 16 := k2
        rw [hN, ← k2]
        exact ⟨rfl, r1, r2⟩
      · intro κ hκ
        by_cases e : 16 * κ = p.2.1
        · rw [e, hN]
          have ek : ab_kn x = κ := by rw [k2, ← e]; omega
          have := hU a (by rw [r1, ek]; exact hκ)
          rw [this, r1, ek]
        · have : ab_up (ab_rho ρ pre vs) p.2.1 a (16 * κ) = ab_rho ρ pre vs (16 * κ) := if_neg e
          rw [this]
          exact ih2 κ hκ
    | false =>
      rw [e1] at l1
      have e1 := Nat.ne_of_beq_eq_false e1
      rw [ab_rho_n e1]
      refine ⟨⟨?_, ih1⟩, ih2⟩
      by_cases e5 : p.1 = 5
      · exact Or.inl e5
      · right
        have := ab_le_ok htv l1 e5 hg.1
        unfold ab_g at this
        split at this
        · rename_i h1
          exact absurd h1 e1
        · exact ab_g_c this
theorem ab_tr_ok : ∀ {as pre : List ab_V} {vs : List Value} {N n : Nat}, ab_lepL as pre = true → ab_gL τ tv ρ as vs → ab_tr uq pre as N = some n → ab_rho ρ pre vs N = ρ n ∧ n / 16 = N / 16
  | [], [], [], N, n, _, _, h => by
    unfold ab_tr at h
    obtain ⟨-, h⟩ := ab_bt_ h
    cases h
    exact ⟨rfl, rfl⟩
  | [], [], _ :: _, _, _, _, h, _ => h.elim
  | [], _ :: _, _, _, _, h, _, _ => by cases h
  | _ :: _, [], _, _, _, h, _, _ => by cases h
  | _ :: _, _ :: _, [], _, _, _, h, _ => h.elim
  | x :: as, p :: pre, v :: vs, N, n, hl, hg, ht => by
    obtain ⟨l1, l2⟩ := ab_a2 hl
    unfold ab_tr at ht
    unfold ab_lep at l1
    cases e1 : Nat.beq p.1 1 with
    | true =>
      rw [e1] at l1 ht
      obtain ⟨k1, k2⟩ := ab_a2 l1
      obtain ⟨a, rfl, r1, r2, r3⟩ := ab_ref k1 hg.1
      have k2 : ab_kn x = p.2.1 / 16 := ab_beq k2
      rw [ab_rho_1 (ab_beq e1)]
      cases e2 : Nat.beq p.2.1 N with
      | true =>
        rw [e2] at ht
        have e2 := ab_beq e2
        have ht : (bif Nat.beq x.1 1 then some x.2.1 else none) = some n := ht
        obtain ⟨x1, ht⟩ := ab_bt_ ht
        have x1 := ab_beq x1
        have ht : x.2.1 = n := Option.some.inj ht
        have : ab_up (ab_rho ρ pre vs) p.2.1 a N = a := if_pos e2.symm
        rw [this, r3 x1, ht]
        refine ⟨rfl, ?_⟩
        rw [ab_kn1 x1, ht, e2] at k2
        exact k2
      | false =>
        rw [e2] at ht
        have : ab_up (ab_rho ρ pre vs) p.2.1 a N = ab_rho ρ pre vs N := if_neg (fun e => Nat.ne_of_beq_eq_false e2 e.symm)
        rw [this]
        exact ab_tr_ok l2 hg.2 ht
    | false =>
      rw [e1] at ht
      rw [ab_rho_n (Nat.ne_of_beq_eq_false e1)]
      exact ab_tr_ok l2 hg.2 ht
theorem ab_clo_ok {v : ab_V} {x : Value} (hc : ab_clo v = true) (h : ab_g τ tv ρ v x) : ab_gc τ tv v x := by
  obtain ⟨c1, -⟩ := ab_a2 hc
  unfold ab_g at h
  split at h
  · rename_i h1
    exact absurd h1 (ab_bne c1)
  · exact h
theorem ab_pfk_ok (htv : 2147483648 ≤ tv ∧ tv ≤ 2147523647) {as pre : List ab_V} {vs : List Value} {fa pf : List ab_F} (hl : ab_lepL as pre = true) (hg : ab_gL τ tv ρ as vs) (hfa : ab_fs τ tv ρ h fa) (hp : ab_pfk uq fa pre as pf = true) : ab_fs τ tv (ab_rho ρ pre vs) h pf := by
  induction pf with
  | nil => intro f hf; cases hf
  | cons f l ih =>
    obtain ⟨h1, h2⟩ := ab_a2 hp
    intro f' hf'
    rcases List.mem_cons.mp hf' with rfl | hf'
    · split at h1
      · rename_i n hn
        split at h1
        · rename_i v hv
          obtain ⟨h1, h3⟩ := ab_a2 h1
          obtain ⟨e1, e2⟩ := ab_tr_ok hl hg hn
          obtain ⟨g1, g2, x, g3, g4⟩ := hfa _ (ab_ff_mem hv)
          have g1 : τ (ρ n) = n / 16 := g1
          have g2 : n / 16 ≠ 0 := g2
          have g3 : ab_sl h (ρ n) f'.2.1 = some x := g3
          obtain ⟨-, c5⟩ := ab_a2 h3
          refine ⟨?_, ?_, x, ?_, ab_g_c (ab_clo_ok h3 (ab_le_ok htv h1 (ab_bne c5) g4))⟩
          · rw [e1, g1, e2]
          · rw [← e2]
            exact g2
          · rw [e1]
            exact g3
        · cases h1
      · cases h1
    · exact ih h2 f' hf'
theorem ab_tb_eq (m b : Nat) : ab_tb m b = m.testBit b := by
  unfold ab_tb
  show Nat.beq ((m >>> b) % 2) 1 = _
  rw [Nat.testBit, Nat.and_comm, Nat.and_one_is_mod]
  have : (m >>> b) % 2 < 2 := Nat.mod_lt _ (by decide)
  generalize (m >>> b) % 2 = x at this ⊢
  have : x = 0 ∨ x = 1 := by omega
  rcases this with rfl | rfl <;> rfl
theorem ab_tb_land {w c b : Nat} (h : Nat.beq (Nat.land c w) c = true) (hb : ab_tb w b = false) : ab_tb c b = false := by
  have h : c &&& w = c := ab_beq h
  rw [ab_tb_eq] at hb ⊢
  rw [← h, Nat.testBit_and, hb, Bool.and_false]
theorem ab_typed {a : Nat} (hI : ab_I kd un Gm τ tv h) (ha : τ a ≠ 0) : a < h.length := by
  obtain ⟨vs, h1, -⟩ := hI a ha
  exact (List.getElem?_eq_some_iff.mp h1).1
/-- what is known behind a call -/
theorem ab_Hp_tr {wr c k q k' q' : Nat} {h' : am_H} {g gc : ab_G} (hw : Nat.beq (Nat.land c wr) c = true) (hP : ab_Hp kd un Gm τ tv K P0 P1 wr h0 h k q g) (hC : ab_Hp kd un Gm τ tv K P0 P1 c h h' k' q' gc) : ab_Hp kd un Gm τ tv K P0 P1 wr h0 h' (k + k') (q + q') (ab_gg g gc) := by
  obtain ⟨p1, p2, p3, p4, p5, p6, p7, p8⟩ := hP
  obtain ⟨c1, c2, c3, c4, c5, c6, c7, c8⟩ := hC
  refine ⟨c1, c2, ?_, by omega, ?_, ?_, ?_, ?_⟩
  · intro a ha
    obtain ⟨f1, f2⟩ := p3 a ha
    obtain ⟨g1, g2⟩ := c3 a (by omega)
    exact ⟨fun e => (g1 e).trans (f1 e), fun e i hb => (g2 e i (ab_tb_land hw hb)).trans (f2 e i hb)⟩
  · show P0 h' + 1000 ≤ P0 h0 + (g.1 + gc.1 - 1000)
    omega
  · show P1 h' + 1000 ≤ P1 h0 + (g.2.1 + gc.2.1 - 1000)
    omega
  · show k + k' ≤ g.2.2.1 + gc.2.2.1
    omega
  · show q + q' ≤ g.2.2.2 + gc.2.2.2
    omega
theorem ab_bfs_ok (had : ab_ad uq u ρ) {l : List ab_F} (hb : ab_bfs uq l = true) (hf : ∀ f ∈ l, ab_fb τ u tv h f) : ab_fs τ tv ρ h l := by
  induction l with
  | nil => intro f hf; cases hf
  | cons f l ih =>
    obtain ⟨h1, h4⟩ := ab_a2 hb
    obtain ⟨h1, h3⟩ := ab_a2 h1
    obtain ⟨h1, h2⟩ := ab_a2 h1
    intro f' hf'
    rcases List.mem_cons.mp hf' with rfl | hf'
    · obtain ⟨g1, g2, x, g3, g4⟩ := hf f' List.mem_cons_self
      have h1 : f'.1 % 16 = 0 := ab_beq h1
      have e : ρ f'.1 = u (f'.1 / 16) := by
        have := had (f'.1 / 16) h2
        have e2 : 16 * (f'.1 / 16) = f'.1 := by omega
        rw [e2] at this
        exact this
      refine ⟨?_, g2, x, ?_, ab_g_c g4⟩
      · rw [e]
        exact g1
      · rw [e]
        exact g3
    · exact ih h4 (fun f hf' => hf f (List.mem_cons_of_mem _ hf')) f' hf'
theorem ab_fs_app {l m : List ab_F} (h1 : ab_fs τ tv ρ h l) (h2 : ab_fs τ tv ρ h m) : ab_fs τ tv ρ h (l ++ m) := fun f hf => by
  rcases List.mem_append.mp hf with e | e
  · exact h1 f e
  · exact h2 f e
theorem ab_rmw_ok {c : Nat} {fa : List ab_F} {h' : am_H} (hI : ab_I kd un Gm τ tv h) (hF : ab_Fr kd τ c h h') (hfa : ab_fs τ tv ρ h fa) : ab_fs τ tv ρ h' (ab_rmw kd c fa) := fun f hf => by
  obtain ⟨m1, m2⟩ := ab_rmw_mem hf
  obtain ⟨g1, g2, x, g3, g4⟩ := hfa f m1
  have ht : τ (ρ f.1) ≠ 0 := by rw [g1]; exact g2
  refine ⟨g1, g2, x, ?_, g4⟩
  rw [(hF _ (ab_typed hI ht)).2 ht f.2.1 (by rw [g1]; exact m2)]
  exact g3
end ABN
