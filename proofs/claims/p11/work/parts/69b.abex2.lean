/-! ===== the others, and all instructions ===== -/
section ABT
variable {kd : Nat → Nat × Nat} {un uq : Nat → Bool} {Gm : Nat → Nat → List ab_V}
variable {τ u : Nat → Nat} {tv : Nat} {K : am_H → Prop} {P0 P1 : am_H → Nat}
variable {ρ : Nat → Nat} {wr pm tk N k q pc a b c d : Nat} {h0 h : am_H} {g : ab_G} {lo st : List ab_V} {fa : List ab_F} {lo' : List (Option Value)} {st' : List Value} {Y : ab_X}
variable {cmp : Nat → Option (Option Nat)} {tls : Nat → List Nat}
theorem ab_gL_take : ∀ (n : Nat) {l : List ab_V} {m : List Value}, ab_gL τ tv ρ l m → ab_gL τ tv ρ (l.take n) (m.take n)
  | 0, _, _, _ => by rw [List.take_zero, List.take_zero]; trivial
  | n + 1, [], [], _ => trivial
  | n + 1, [], _ :: _, h => h.elim
  | n + 1, _ :: _, [], h => h.elim
  | n + 1, v :: l, x :: m, h => ⟨h.1, ab_gL_take n h.2⟩
theorem ab_gL_drop : ∀ (n : Nat) {l : List ab_V} {m : List Value}, ab_gL τ tv ρ l m → ab_gL τ tv ρ (l.drop n) (m.drop n)
  | 0, _, _, h => h
  | n + 1, [], [], _ => trivial
  | n + 1, [], _ :: _, h => h.elim
  | n + 1, _ :: _, [], h => h.elim
  | n + 1, v :: l, x :: m, h => ab_gL_drop n h.2
theorem ab_gL_app : ∀ {l l' : List ab_V} {m m' : List Value}, ab_gL τ tv ρ l m → ab_gL τ tv ρ l' m' → ab_gL τ tv ρ (l ++ l') (m ++ m')
  | [], _, [], _, _, h => h
  | [], _, _ :: _, _, h, _ => h.elim
  | _ :: _, _, [], _, h, _ => h.elim
  | v :: l, _, x :: m, _, h, h' => ⟨h.1, ab_gL_app h.2 h'⟩
theorem ab_gL_rev {l : List ab_V} {m : List Value} (h : ab_gL τ tv ρ l m) : ab_gL τ tv ρ l.reverse m.reverse := by
  induction l generalizing m with
  | nil => cases m with
    | nil => trivial
    | cons => exact h.elim
  | cons v l ih => cases m with
    | nil => exact h.elim
    | cons x m =>
      rw [List.reverse_cons, List.reverse_cons]
      exact ab_gL_app (ih h.2) ⟨h.1, trivial⟩
theorem ab_one_rev {m : List Value} (h : am_one m = true) : am_one m.reverse = true := by
  unfold am_one at h ⊢
  rw [List.all_reverse]
  exact h
theorem ab_ask2 {kk : am_K} {rc y : Nat} {r : List Value} {c1 : am_C} {st : List Value} (hrc : rc ≠ 0) (hl : (st.take kk.2.2.1).reverse.length = kk.2.2.1) (hd : st.drop kk.2.2.1 = .ref y :: r) (hr : am_cat r ≤ 8) (ho : am_one (st.take kk.2.2.1).reverse = true) (hy : h[y]? = some c1) (hc : rc = 1 ∨ (c1.1 : Int) = kk.2.2.2) : am_ask kk rc pc lo' st h k q = some (.inr (.inr (kk.2.1, .ref y :: (st.take kk.2.2.1).reverse, (pc, lo', r, h, k, q)))) := by
  unfold am_ask
  dsimp only
  rw [if_pos hl]
  split
  · exact absurd rfl hrc
  · rw [hd]
    dsimp only
    rw [if_pos ⟨hr, ho⟩, hy]
    dsimp only
    rw [if_pos hc]
theorem ax_ask_ok (hlo : ab_gO τ tv ρ lo lo') (hst : ab_gL τ tv ρ st st') (hfa : ab_fs τ tv ρ h fa) (hP : ab_Hp kd un Gm τ tv K P0 P1 wr h0 h k q g) (hc : c = 0 ∨ c = 1 ∨ c = 2) (hY : ax_ask kd a b c d pc lo st fa g = some Y) : ab_q kd un uq Gm τ u tv K P0 P1 wr h0 ρ h k q Y (am_ask (0, a, b, (d : Int)) c pc lo' st' h k q) := by
  have g1 := ab_gL_take b hst
  have g2 := ab_gL_drop b hst
  have g3 := ab_gL_rev g1
  have e1 := ab_gL_len g1
  have hcase : (c = 0 ∧ ∃ hb : (ab_small 8 (st.drop b) && ab_cat1 (st.take b) && Nat.beq (st.take b).length b) = true, Y = .inr (.inr (a, (st.take b).reverse, (pc, lo, st.drop b, fa, g)))) ∨ (c ≠ 0 ∧ ∃ x r, st.drop b = x :: r ∧ (ab_small 8 r && ab_cat1 (st.take b) && Nat.beq (st.take b).length b && ab_iR x && (Nat.beq c 1 || Nat.beq (kd (ab_kn x)).1 d)) = true ∧ Y = .inr (.inr (a, x :: (st.take b).reverse, (pc, lo, r, fa, g)))) := by
    unfold ax_ask at hY
    split at hY
    · obtain ⟨hb, hY1⟩ := ab_bt_ hY
      exact Or.inl ⟨rfl, hb, (Option.some.inj hY1).symm⟩
    · rename_i hc0
      split at hY
      · rename_i x r hd
        obtain ⟨hb, hY1⟩ := ab_bt_ hY
        exact Or.inr ⟨hc0, x, r, hd, hb, (Option.some.inj hY1).symm⟩
      · cases hY
  rcases hcase with ⟨rfl, hb, rfl⟩ | ⟨hc0, x, r, hd, hb, rfl⟩
  · obtain ⟨hb1, b3⟩ := ab_a2 hb
    obtain ⟨b1, b2⟩ := ab_a2 hb1
    have b3 : (st.take b).length = b := ab_beq b3
    have hl : (st'.take b).reverse.length = b := by rw [List.length_reverse, ← e1, b3]
    unfold am_ask
    dsimp only
    rw [if_pos hl, if_pos ⟨ab_small_ok b1 g2, ab_one_rev (ab_cast b2 g1).1⟩]
    exact ⟨_, _, rfl, g3, rfl, hlo, g2, hfa, hP⟩
  · obtain ⟨hb1, b5⟩ := ab_a2 hb
    obtain ⟨hb2, b4⟩ := ab_a2 hb1
    obtain ⟨hb3, b3⟩ := ab_a2 hb2
    obtain ⟨b1, b2⟩ := ab_a2 hb3
    have b3 : (st.take b).length = b := ab_beq b3
    have hl : (st'.take b).reverse.length = b := by rw [List.length_reverse, ← e1, b3]
    rw [hd] at g2
    cases hd' : st'.drop b with
    | nil => rw [hd'] at g2; exact g2.elim
    | cons x' r' =>
      rw [hd'] at g2
      obtain ⟨y, rfl, r1, r2, r3⟩ := ab_ref b4 g2.1
      obtain ⟨vs, v1, v2, -⟩ := hP.1 y (by rw [r1]; exact r2)
      rw [r1] at v1
      rw [ab_ask2 hc0 hl hd' (ab_small_ok b1 g2.2) (ab_one_rev (ab_cast b2 g1).1) v1 ?_]
      · exact ⟨_, _, rfl, ⟨g2.1, g3⟩, rfl, hlo, g2.2, hfa, hP⟩
      · rcases Bool.or_eq_true_iff.mp b5 with e | e
        · exact Or.inl (ab_beq e)
        · right
          rw [ab_beq e]
theorem ab_bt_arr {kk : Nat} (ht : 100 ≤ (kd kk).1) (j : Nat) : ab_bt kd kk j = ab_bt kd kk 0 := by
  unfold ab_bt
  have : Nat.blt (kd kk).1 100 = false := by
    cases hb : Nat.blt (kd kk).1 100 with
    | false => rfl
    | true => have := ab_blt hb; omega
  rw [this]
  rfl
theorem ab_gi_un {kk : Nat} (hu : un kk = true) (j : Nat) : ab_gi un kk j = 0 := by
  unfold ab_gi
  rw [hu]
  rfl
theorem ax_cpy_ok (htv : 2147483648 ≤ tv ∧ tv ≤ 2147523647) (hpm : ab_pm kd τ K P0 P1 pm) (hadm : ab_ad uq u ρ) (hlo : ab_gO τ tv ρ lo lo') (hst : ab_gL τ tv ρ st st') (hfa : ab_fs τ tv ρ h fa) (hP : ab_Hp kd un Gm τ tv K P0 P1 wr h0 h k q g) (hY : ax_cpy kd un wr pm pc lo st fa g = some Y) : ab_q kd un uq Gm τ u tv K P0 P1 wr h0 ρ h k q Y (wk_ex tls cmp 49 a b c d pc lo' st' h k q) := by
  unfold ax_cpy at hY
  split at hY
  · rename_i n dp y sp x
    obtain ⟨hb, hY1⟩ := ab_bt_ hY
    obtain ⟨hb, b15⟩ := ab_a2 hb
    obtain ⟨hb, b14⟩ := ab_a2 hb
    obtain ⟨hb, b13⟩ := ab_a2 hb
    obtain ⟨hb, b12⟩ := ab_a2 hb
    obtain ⟨hb, b11⟩ := ab_a2 hb
    obtain ⟨hb, b10⟩ := ab_a2 hb
    obtain ⟨hb, b9⟩ := ab_a2 hb
    obtain ⟨hb, b8⟩ := ab_a2 hb
    obtain ⟨hb, b7⟩ := ab_a2 hb
    obtain ⟨hb, b6⟩ := ab_a2 hb
    obtain ⟨hb, b5⟩ := ab_a2 hb
    obtain ⟨hb, b4⟩ := ab_a2 hb
    obtain ⟨hb, b3⟩ := ab_a2 hb
    obtain ⟨b1, b2⟩ := ab_a2 hb
    have b6 : ab_kn x = ab_kn y := ab_beq b6
    have b7 : (kd (ab_kn y)).1 = 100 := ab_beq b7
    have b11 := ab_ble b11
    have b12 := ab_ble b12
    have b13 := ab_ble b13
    have b14 : (ab_i sp).2.2 + (ab_i n).2.2 ≤ 4294967296 + (kd (ab_kn y)).2 := ab_ble b14
    have b15 : (ab_i dp).2.2 + (ab_i n).2.2 ≤ 4294967296 + (kd (ab_kn y)).2 := ab_ble b15
    match st', hst with
    | n' :: dp' :: y' :: sp' :: x' :: [], ⟨hn, hdp, hy, hsp, hx, _⟩ =>
      obtain ⟨zn, rfl, n1, n2⟩ := ab_int htv b1 hn
      obtain ⟨zd, rfl, d1, d2⟩ := ab_int htv b2 hdp
      obtain ⟨zs, rfl, s1, s2⟩ := ab_int htv b3 hsp
      obtain ⟨xa, rfl, x1, x2, -⟩ := ab_ref b4 hx
      obtain ⟨ya, rfl, y1, y2, -⟩ := ab_ref b5 hy
      obtain ⟨us, u1, u2, u3⟩ := hP.1 xa (by rw [x1]; exact x2)
      obtain ⟨vs, v1, v2, v3⟩ := hP.1 ya (by rw [y1]; exact y2)
      rw [x1, b6] at u1 u2 u3
      rw [y1] at v1 v2 v3
      rw [b7] at u1 v1
      obtain ⟨m1, m2⟩ := ab_ix (z := zn) (by omega)
      obtain ⟨m3, m4⟩ := ab_ix (z := zd) (by omega)
      obtain ⟨m5, m6⟩ := ab_ix (z := zs) (by omega)
      simp only [wk_ex]
      rw [if_pos (show am_cat [] ≤ 0 from Nat.le_refl 0), ab_arr u1, ab_arr v1]
      dsimp only
      have hcond : ¬ zs < 0 ∧ ¬ zd < 0 ∧ ¬ zn < 0 ∧ zs.toNatClampNeg + zn.toNatClampNeg ≤ us.length ∧ zd.toNatClampNeg + zn.toNatClampNeg ≤ vs.length := ⟨m5, m3, m1, by omega, by omega⟩
      rw [if_pos hcond]
      have hlen : (am_cpy us vs zs.toNatClampNeg zd.toNatClampNeg zn.toNatClampNeg).length = vs.length := by
        unfold am_cpy
        rw [List.length_map, List.length_range]
      have hH := ab_Hp_up (a := ya) hpm hP (by rw [y1]; exact y2) v1 hlen (fun i w hw => by
        unfold am_cpy at hw
        rw [List.getElem?_map] at hw
        obtain ⟨j, hj, hw⟩ := Option.map_eq_some_iff.mp hw
        obtain ⟨hil, hj⟩ := List.getElem?_eq_some_iff.mp hj
        rw [List.getElem_range] at hj
        subst hj
        rw [List.length_range] at hil
        split at hw
        · rename_i hc
          right
          have hlt : zs.toNatClampNeg + (i - zd.toNatClampNeg) < us.length := by omega
          have hg : us[zs.toNatClampNeg + (i - zd.toNatClampNeg)]? = some w := by
            rw [← hw, List.getD_eq_getElem?_getD, List.getElem?_eq_getElem hlt]
            rfl
          have := u3 _ _ hg
          rw [ab_gi_un b8] at this
          rw [y1, ab_bt_arr (by omega), ab_gi_un b8]
          exact ⟨b9, by simpa using b10, this⟩
        · left
          rw [← hw, List.getD_eq_getElem?_getD, List.getElem?_eq_getElem hil]
          rfl)
      have hF : ab_fs τ tv ρ (h.set ya (100, am_cpy us vs zs.toNatClampNeg zd.toNatClampNeg zn.toNatClampNeg)) (ab_rmk (ab_kn y) fa) := by
        refine ab_fs_up v1 (fun f hf => hfa f (ab_rmk_mem hf).1) (fun f hf e => ?_)
        obtain ⟨m1, m2⟩ := ab_rmk_mem hf
        obtain ⟨g1, -⟩ := hfa f m1
        rw [e, y1] at g1
        exact absurd g1.symm m2
      have hY2 : ax_1 (Nat.add pc 3) lo [] (ab_rmk (ab_kn y) fa) g = some Y := hY1
      have := ax_1_ok (uq := uq) (u := u) (st1 := []) (st2 := []) hadm hlo trivial hF hH hY2
      cases hY1
      exact this
    | [], h => exact h.elim
    | [_], h => exact h.2.elim
    | [_, _], h => exact h.2.2.elim
    | [_, _, _], h => exact h.2.2.2.elim
    | [_, _, _, _], h => exact h.2.2.2.2.elim
    | _ :: _ :: _ :: _ :: _ :: _ :: _, h => exact h.2.2.2.2.2.elim
  · cases hY
theorem ax_sw_ok {tl : List Nat} {x : ab_V} {z : Int32} (hadm : ab_ad uq u ρ) (z1 : x.2.1 ≤ ab_b z) (z2 : ab_b z ≤ x.2.2) (hlo : ab_gO τ tv ρ lo lo') (hst : ab_gL τ tv ρ st st') (hfa : ab_fs τ tv ρ h fa) (hP : ab_Hp kd un Gm τ tv K P0 P1 wr h0 h k q g) (hY : ax_sw tl a lo x st fa g = some Y) : ab_q kd un uq Gm τ u tv K P0 P1 wr h0 ρ h k q Y (if z < 0 then am_go (a, lo', st', h, k, q) else am_go ((tl[z.toNatClampNeg]?).getD a, lo', st', h, k, q)) := by
  unfold ax_sw at hY
  cases e : (ab_exq x && Nat.ble 2147483648 x.2.1) with
  | true =>
    rw [e] at hY
    obtain ⟨e1, e2⟩ := ab_a2 e
    have e2 : 2147483648 ≤ x.2.1 := ab_ble e2
    have hx := ab_exq_ok e1 z1 z2
    obtain ⟨n1, n2⟩ := ab_ix (z := z) (by omega)
    rw [if_neg n1, n2, ← hx]
    cases hY
    exact ⟨_, rfl, _, List.mem_singleton_self _, ρ, hadm, rfl, hlo, hst, hfa, hP⟩
  | false =>
    rw [e] at hY
    cases hY
    have hmem : ∀ t, t ∈ a :: tl → ab_q kd un uq Gm τ u tv K P0 P1 wr h0 ρ h k q (.inl ((a :: tl).map fun t => (t, lo, st, fa, g))) (am_go (t, lo', st', h, k, q)) := fun t ht => ⟨_, rfl, (t, lo, st, fa, g), List.mem_map.mpr ⟨t, ht, rfl⟩, ρ, hadm, rfl, hlo, hst, hfa, hP⟩
    split
    · exact hmem a List.mem_cons_self
    · cases ht : tl[z.toNatClampNeg]? with
      | none => exact hmem a List.mem_cons_self
      | some t => exact hmem t (List.mem_cons_of_mem _ (List.mem_of_getElem? ht))
theorem ab_mnx_ok {v w : ab_V} {x y : Int32} (a1 : v.2.1 ≤ ab_b x) (a2 : ab_b x ≤ v.2.2) (b1 : w.2.1 ≤ ab_b y) (b2 : ab_b y ≤ w.2.2) : ab_g τ tv ρ (ab_mnx ab_min v w) (.int (if y < x then y else x)) ∧ ab_g τ tv ρ (ab_mnx ab_max v w) (.int (if x < y then y else x)) := by
  have hmin : ∀ p q : Nat, ab_min p q ≤ p ∧ ab_min p q ≤ q ∧ (ab_min p q = p ∨ ab_min p q = q) := fun p q => by
    unfold ab_min
    cases e : Nat.ble p q with
    | true => have := ab_ble e; exact ⟨Nat.le_refl _, this, Or.inl rfl⟩
    | false =>
      have : ¬ p ≤ q := fun h => by rw [Nat.ble_eq_true_of_le h] at e; cases e
      exact ⟨by show q ≤ p; omega, Nat.le_refl _, Or.inr rfl⟩
  have hmax : ∀ p q : Nat, p ≤ ab_max p q ∧ q ≤ ab_max p q ∧ (ab_max p q = p ∨ ab_max p q = q) := fun p q => by
    unfold ab_max
    cases e : Nat.ble p q with
    | true => have := ab_ble e; exact ⟨this, Nat.le_refl _, Or.inr rfl⟩
    | false =>
      have : ¬ p ≤ q := fun h => by rw [Nat.ble_eq_true_of_le h] at e; cases e
      exact ⟨Nat.le_refl _, by show q ≤ p; omega, Or.inl rfl⟩
  obtain ⟨p1, p2, p3⟩ := hmin v.2.1 w.2.1
  obtain ⟨q1, q2, q3⟩ := hmin v.2.2 w.2.2
  obtain ⟨r1, r2, r3⟩ := hmax v.2.1 w.2.1
  obtain ⟨s1, s2, s3⟩ := hmax v.2.2 w.2.2
  constructor
  · refine ⟨_, rfl, ?_, ?_⟩
    · show ab_min v.2.1 w.2.1 ≤ _
      split <;> omega
    · show _ ≤ ab_min v.2.2 w.2.2
      split
      · rename_i hlt; rw [ab_b_lti] at hlt; omega
      · rename_i hlt; rw [ab_b_lti] at hlt; omega
  · refine ⟨_, rfl, ?_, ?_⟩
    · show ab_max v.2.1 w.2.1 ≤ _
      split
      · rename_i hlt; rw [ab_b_lti] at hlt; omega
      · rename_i hlt; rw [ab_b_lti] at hlt; omega
    · show _ ≤ ab_max v.2.2 w.2.2
      split <;> omega
end ABT
