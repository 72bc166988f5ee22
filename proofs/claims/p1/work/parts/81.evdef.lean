/-! ===== facts of the fast machine, by the kernel ===== -/
def fm_eqV : Option Nat ⊕ Nat → Option Nat ⊕ Nat → Bool
  | .inl none, .inl none => true
  | .inl (some a), .inl (some b) => Nat.beq a b
  | .inr a, .inr b => Nat.beq a b
  | _, _ => false
theorem fm_eqV_d : ∀ {a b : Option Nat ⊕ Nat}, fm_eqV a b = true → a = b
  | .inl none, .inl none, _ => rfl
  | .inl (some a), .inl (some b), h => by rw [Nat.eq_of_beq_eq_true (show Nat.beq a b = true from h)]
  | .inr a, .inr b, h => by rw [Nat.eq_of_beq_eq_true (show Nat.beq a b = true from h)]
  | .inl none, .inl (some _), h => by cases h
  | .inl (some _), .inl none, h => by cases h
  | .inl none, .inr _, h => by cases h
  | .inl (some _), .inr _, h => by cases h
  | .inr _, .inl none, h => by cases h
  | .inr _, .inl (some _), h => by cases h
def fm_chk (o : Option fm_R) (r : fm_R) : Bool := match o with
  | some x => fm_eqV x.1 r.1 && (fm_eqH x.2.1 r.2.1 && (Nat.beq x.2.2.1 r.2.2.1 && Nat.beq x.2.2.2 r.2.2.2))
  | none => false
theorem fm_chk_d {o : Option fm_R} {r : fm_R} (h : fm_chk o r = true) : o = some r := by
  cases o with
  | none => cases h
  | some x =>
    obtain ⟨x1, x2, x3, x4⟩ := x
    obtain ⟨r1, r2, r3, r4⟩ := r
    obtain ⟨h1, h⟩ := fm_a2 h
    obtain ⟨h2, h⟩ := fm_a2 h
    obtain ⟨h3, h4⟩ := fm_a2 h
    have h1 : x1 = r1 := fm_eqV_d h1
    have h2 : x2 = r2 := fm_eqH_d h2
    have h3 : x3 = r3 := Nat.eq_of_beq_eq_true h3
    have h4 : x4 = r4 := Nat.eq_of_beq_eq_true h4
    rw [h1, h2, h3, h4]
/-- the fast machine with the claim's tables -/
abbrev ev_run (f : Nat) (mf : fm_M) (S : fm_S) : Option fm_R := fm_run am_cmp fm_tl fm_bl am_cx fm_ms f am_o0 mf S
abbrev ev_runT (tb : fm_Tb) (f : Nat) (xs : am_O) (mf : fm_M) (S : fm_S) : Option fm_R := fm_runT am_cmp fm_tl fm_bl am_cx fm_ms tb f xs mf S
abbrev ev_tbe (hp : am_H) (e : Nat × List Nat × fm_H × fm_R) : Prop := fm_tbe am_fty am_dfl am_cmp am_lk am_ms am_cx hp e
theorem ev_ent {hp : am_H} (f : Nat) {j : Nat} {mf : fm_M} {as : List Nat} {H : fm_H} {r : fm_R} (hj : fm_ms j = some mf) (hok : fm_ok H) (h : fm_chk (ev_run f mf (0, fm_p as, [], H, 0, 0)) r = true) : ev_tbe hp (j, as, H, r) ∧ fm_ok r.2.1 := by
  obtain ⟨mi', h1, h2⟩ := fm_ms_ok j mf hj
  have e := fm_run_ok (hp := hp) fm_cmp_ok (fm_bl_ok hp.length) fm_ms_ok f am_o0 mi' mf (0, fm_p as, [], H, 0, 0) r h2 hok (fm_chk_d h)
  refine ⟨fun mi hmi => ?_, e.2⟩
  have hmi : am_ms j = some mi := hmi
  cases hmi.symm.trans h1
  exact ⟨f, e.1, e.2⟩
theorem ev_entT {hp : am_H} {tb : fm_Tb} (f : Nat) {j : Nat} {mf : fm_M} {as : List Nat} {H : fm_H} {r : fm_R} (htb : ∀ e ∈ tb, ev_tbe hp e) (hj : fm_ms j = some mf) (hok : fm_ok H) (h : fm_chk (ev_runT tb f am_o0 mf (0, fm_p as, [], H, 0, 0)) r = true) : ev_tbe hp (j, as, H, r) ∧ fm_ok r.2.1 := by
  obtain ⟨mi', h1, h2⟩ := fm_ms_ok j mf hj
  obtain ⟨⟨g, e1⟩, e2⟩ := fm_runT_ok (hp := hp) fm_cmp_ok (fm_bl_ok hp.length) fm_ms_ok htb f am_o0 mi' mf (0, fm_p as, [], H, 0, 0) r h2 hok (fm_chk_d h)
  refine ⟨fun mi hmi => ?_, e2⟩
  have hmi : am_ms j = some mi := hmi
  cases hmi.symm.trans h1
  exact ⟨g, e1, e2⟩
theorem fm_ok_nil : fm_ok (0, 0, 0, 0) := fun k hk => absurd hk (Nat.not_lt_zero k)
/-- the law ends with true, and there is room -/
def ev_fin (o : Option fm_R) : Bool := match o with
  | some (.inl (some v), _, k, q) => Nat.beq v 9 && (Nat.ble k 600002 && Nat.ble q 7302232)
  | _ => false
def ev_lo : List (Option Value) := [some (.retAddr 0), none, none, none, none, none, none]
def ev_Good (xs : am_O) : Prop := ∃ (g : Nat) (r : am_R), am_run am_fty am_dfl am_cmp am_lk am_ms am_cx xs g am_law (0, ev_lo, [], [], 0, 0) = some r ∧ r.1 = .inl (some (.int 1)) ∧ r.2.2.1 ≤ 600002 ∧ r.2.2.2 ≤ 7302232
abbrev ev_S0 : fm_S := (0, 6, [], (0, 0, 0, 0), 0, 0)
theorem ev_S0_as : fm_as [] (am_L am_law) ev_S0 = (0, ev_lo, [], [], 0, 0) := by
  have h : fm_lo 0 7 (fm_p [6]) = ([6].map (fm_d 0)).map some ++ List.replicate (7 - 1) none := fm_lo_p (by decide) (by decide)
  show (0, fm_lo 0 7 (fm_p [6]), _, _, _, _) = _
  rw [h]
  rfl
theorem ev_good {tb : fm_Tb} {f : Nat} {xs : am_O} (htb : ∀ e ∈ tb, ev_tbe [] e) (h : ev_fin (ev_runT tb f xs fm_m99 ev_S0) = true) : ev_Good xs := by
  unfold ev_fin at h
  split at h
  · rename_i v H k q hr
    obtain ⟨h1, h⟩ := fm_a2 h
    obtain ⟨h2, h3⟩ := fm_a2 h
    obtain ⟨⟨g, e⟩, -⟩ := fm_runT_ok (hp := []) fm_cmp_ok (fm_bl_ok 0) fm_ms_ok htb f xs am_law fm_m99 ev_S0 _ fm_klaw fm_ok_nil hr
    rw [ev_S0_as] at e
    refine ⟨g, _, e, ?_, Nat.le_of_ble_eq_true h2, Nat.le_of_ble_eq_true h3⟩
    have hv : v = 9 := Nat.eq_of_beq_eq_true h1
    subst hv
    rfl
  · cases h
/-! ===== what the script may be ===== -/
abbrev ev_D : Type := List (Nat × Int32) × List (ClassFile.Cond × Nat × Int32 × Bool)
def ev_P (sc : am_Sy) (d : ev_D) : Prop := (∀ x ∈ d.1, sc.2 x.1 = x.2) ∧ ∀ x ∈ d.2, am_cnd x.1 (sc.2 x.2.1) x.2.2.1 = x.2.2.2
/-- below lo; from hi on; or one of those between -/
def ev_lt (j : Nat) (lo : Int) : ev_D := ([], [(.lt, j, Int32.ofInt lo, true), (.ge, j, Int32.ofInt lo, false)])
def ev_ge (j : Nat) (lo hi : Int) : ev_D := ([], [(.lt, j, Int32.ofInt lo, false), (.ge, j, Int32.ofInt lo, true), (.lt, j, Int32.ofInt hi, false), (.ge, j, Int32.ofInt hi, true), (.gt, j, Int32.ofInt (hi - 1), true), (.le, j, Int32.ofInt (hi - 1), false)])
def ev_in (j : Nat) (lo : Int) (v : Nat) : ev_D := ([(j, Int32.ofInt (lo + v))], [])
def ev_rg (j : Nat) (lo hi : Int) : List ev_D := ev_lt j lo :: ev_ge j lo hi :: (List.range (hi - lo).toNat).map (ev_in j lo)
theorem ev_i {z : Int} (h1 : -2147483648 ≤ z) (h2 : z ≤ 2147483647) : (Int32.ofInt z).toInt = z := Int32.toInt_ofInt_of_le (by omega) (by omega)
theorem ev_rg_or (sc : am_Sy) (j : Nat) {lo hi : Int} (h1 : -2147483647 ≤ lo) (h2 : lo ≤ hi) (h3 : hi ≤ 2147483647) : ev_P sc (ev_lt j lo) ∨ ev_P sc (ev_ge j lo hi) ∨ ∃ v, v < (hi - lo).toNat ∧ ev_P sc (ev_in j lo v) := by
  have e1 := ev_i (z := lo) (by omega) (by omega)
  have e2 := ev_i (z := hi) (by omega) (by omega)
  have e3 := ev_i (z := hi - 1) (by omega) (by omega)
  by_cases hx : (sc.2 j).toInt < lo
  · refine .inl ⟨fun x hx => by simp [ev_lt] at hx, fun x hx' => ?_⟩
    simp only [ev_lt, List.mem_cons, List.not_mem_nil, or_false] at hx'
    rcases hx' with rfl | rfl <;> simp only [am_cnd, decide_eq_true_eq, decide_eq_false_iff_not, Int32.lt_iff_toInt_lt, Int32.le_iff_toInt_le, e1] <;> omega
  · by_cases hy : hi ≤ (sc.2 j).toInt
    · refine .inr (.inl ⟨fun x hx => by simp [ev_ge] at hx, fun x hx' => ?_⟩)
      simp only [ev_ge, List.mem_cons, List.not_mem_nil, or_false] at hx'
      rcases hx' with rfl | rfl | rfl | rfl | rfl | rfl <;> simp only [am_cnd, decide_eq_true_eq, decide_eq_false_iff_not, Int32.lt_iff_toInt_lt, Int32.le_iff_toInt_le, e1, e2, e3] <;> omega
    · refine .inr (.inr ⟨((sc.2 j).toInt - lo).toNat, by omega, fun x hx' => ?_, fun x hx' => by simp [ev_in] at hx'⟩)
      simp only [ev_in, List.mem_cons, List.not_mem_nil, or_false] at hx'
      subst hx'
      show sc.2 j = Int32.ofInt (lo + (((sc.2 j).toInt - lo).toNat : Int))
      rw [Int.toNat_of_nonneg (by omega), show lo + ((sc.2 j).toInt - lo) = (sc.2 j).toInt by omega, Int32.ofInt_toInt]
theorem ev_rg_ok (sc : am_Sy) (j : Nat) {lo hi : Int} (h1 : -2147483647 ≤ lo) (h2 : lo ≤ hi) (h3 : hi ≤ 2147483647) : ∃ d ∈ ev_rg j lo hi, ev_P sc d := by
  rcases ev_rg_or sc j h1 h2 h3 with h | h | ⟨v, hv, h⟩
  · exact ⟨_, List.mem_cons_self, h⟩
  · exact ⟨_, List.mem_cons_of_mem _ List.mem_cons_self, h⟩
  · exact ⟨_, List.mem_cons_of_mem _ (List.mem_cons_of_mem _ (List.mem_map.mpr ⟨v, List.mem_range.mpr hv, rfl⟩)), h⟩
def ev_bo (j : Nat) : List ev_D := [([(j, 0)], []), ([], [(.eq, j, 0, false), (.ne, j, 0, true)])]
theorem ev_bo_ok (sc : am_Sy) (j : Nat) : ∃ d ∈ ev_bo j, ev_P sc d := by
  by_cases h : sc.2 j = 0
  · refine ⟨_, List.mem_cons_self, fun x hx => ?_, fun x hx => by simp at hx⟩
    simp only [List.mem_cons, List.not_mem_nil, or_false] at hx
    subst hx
    exact h
  · refine ⟨_, List.mem_cons_of_mem _ List.mem_cons_self, fun x hx => by simp at hx, fun x hx => ?_⟩
    simp only [List.mem_cons, List.not_mem_nil, or_false] at hx
    rcases hx with rfl | rfl <;> simp [am_cnd, h]
/-- one of each list -/
def ev_all : List (List ev_D) → (List ev_D → Bool) → Bool
  | [], p => p []
  | o :: t, p => o.all fun d => ev_all t fun ds => p (d :: ds)
theorem ev_all_ok {sc : am_Sy} : ∀ (os : List (List ev_D)) (p : List ev_D → Bool), (∀ o ∈ os, ∃ d ∈ o, ev_P sc d) → ev_all os p = true → ∃ ds, (∀ d ∈ ds, ev_P sc d) ∧ p ds = true
  | [], p, _, h => ⟨[], fun d hd => by simp at hd, h⟩
  | o :: t, p, ho, h => by
    obtain ⟨d, hd, hP⟩ := ho o List.mem_cons_self
    have h1 := List.all_eq_true.mp (show (o.all fun d => ev_all t fun ds => p (d :: ds)) = true from h) d hd
    obtain ⟨ds, g1, g2⟩ := ev_all_ok t _ (fun o' ho' => ho o' (List.mem_cons_of_mem _ ho')) h1
    exact ⟨d :: ds, fun x hx => by
      rcases List.mem_cons.mp hx with rfl | hx
      · exact hP
      · exact g1 x hx, g2⟩
def ev_xs (op : Nat) (ds : List ev_D) : am_O := (some 4, (ds.map fun d => d.1).flatten, (ds.map fun d => d.2).flatten, [(0, 31, Int32.ofNat op)])
theorem ev_xs_Or {sc : am_Sy} {op : Nat} {ds : List ev_D} (h : ∀ d ∈ ds, ev_P sc d) (h0 : sc.2 0 &&& 31 = Int32.ofNat op) : am_Or sc (ev_xs op ds) := by
  refine ⟨fun x hx => ?_, fun x hx => ?_, fun x hx => ?_⟩
  · obtain ⟨l, hl, hxl⟩ := List.mem_flatten.mp hx
    obtain ⟨d, hd, rfl⟩ := List.mem_map.mp hl
    exact (h d hd).1 x hxl
  · obtain ⟨l, hl, hxl⟩ := List.mem_flatten.mp hx
    obtain ⟨d, hd, rfl⟩ := List.mem_map.mp hl
    exact (h d hd).2 x hxl
  · have hx : x = (0, 31, Int32.ofNat op) := List.mem_singleton.mp hx
    subst hx
    exact h0
theorem ev_mask (x : Int32) : ∃ v, v < 32 ∧ x &&& 31 = Int32.ofNat v := by
  refine ⟨x.toBitVec.toNat &&& 31, Nat.lt_of_le_of_lt Nat.and_le_right (by decide), ?_⟩
  apply Int32.toBitVec_inj.mp
  apply BitVec.eq_of_toNat_eq
  show (x.toBitVec &&& 31#32).toNat = _ % 4294967296
  rw [BitVec.toNat_and]
  show x.toBitVec.toNat &&& 31 = _
  exact (Nat.mod_eq_of_lt (Nat.lt_of_le_of_lt Nat.and_le_right (by decide))).symm
/-! ===== one heap behind another's cells ===== -/
def fm_rel (c v w : Nat) : Bool := bif Nat.beq (Nat.mod w 8) 2 then Nat.beq v (Nat.add w (Nat.mul 8 c)) else Nat.beq v w
def fm_hp (c : Nat) (A : fm_H) : am_H := (List.range c).map (fm_cell 0 A.2.2.1 A.2.2.2)
theorem fm_hp_len (c : Nat) (A : fm_H) : (fm_hp c A).length = c := by simp [fm_hp]
theorem fm_rel_d {c v w : Nat} (h : fm_rel c v w = true) : fm_d 0 v = fm_d c w := by
  unfold fm_rel at h
  cases hq : Nat.beq (Nat.mod w 8) 2 with
  | true =>
    rw [hq] at h
    have h1 : v = w + 8 * c := Nat.eq_of_beq_eq_true h
    have h2 : w % 8 = 2 := Nat.eq_of_beq_eq_true hq
    obtain ⟨a, rfl⟩ : ∃ a, w = 8 * a + 2 := ⟨w / 8, by omega⟩
    rw [h1, show 8 * a + 2 + 8 * c = 8 * (a + c) + 2 by omega, fm_d_ref, fm_d_ref, Nat.zero_add, Nat.add_comm a c]
  | false =>
    rw [hq] at h
    have h1 : v = w := Nat.eq_of_beq_eq_true h
    have h2 : w % 8 ≠ 2 := fun e => by
      have : Nat.beq (Nat.mod w 8) 2 = true := by
        show Nat.beq (w % 8) 2 = true
        rw [e]
        rfl
      rw [this] at hq
      cases hq
    subst h1
    unfold fm_d
    split <;> first | rfl | (rename_i e; exact absurd e h2)
/-- slot by slot the same, references apart by c cells -/
def fm_RL (c m X M : Nat) : Prop := ∀ p, p < m → fm_d 0 (fm_g X p) = fm_d c (fm_g M p)
def fm_RLb (c m X M : Nat) : Bool := (List.range m).all fun p => fm_rel c (fm_g X p) (fm_g M p)
theorem fm_RLb_d {c m X M : Nat} (h : fm_RLb c m X M = true) : fm_RL c m X M := fun p hp => fm_rel_d (List.all_eq_true.mp h p (List.mem_range.mpr hp))
theorem fm_RL.s {c m X M q v : Nat} (h : fm_RL c m X M) (hv : v < 68719476736) (hi : Nat.mod v 8 = 1) : fm_RL c m (fm_s X q v) (fm_s M q v) := fun p hp => by
  have hi : v % 8 = 1 := hi
  rw [fm_g_s hv, fm_g_s hv]
  split
  · rw [fm_d1 hi, fm_d1 hi]
  · exact h p hp
theorem fm_g_shr (M m p : Nat) : fm_g (M >>> (36 * m)) p = fm_g M (m + p) := by
  rw [fm_g_eq, fm_g_eq, Nat.shiftRight_eq_div_pow, Nat.div_div_eq_div_mul, ← Nat.pow_add, Nat.mul_add]
/-- cells of B are those of A behind the first c, slots behind the first mc -/
def fm_jt (c mc mB TA TB nB : Nat) : Bool := (List.range nB).all fun k => Nat.beq (fm_tg TA (Nat.add c k)) (fm_tg TB k) && (Nat.beq (fm_ln TA (Nat.add c k)) (fm_ln TB k) && (Nat.beq (fm_of TA (Nat.add c k)) (Nat.add mc (fm_of TB k)) && Nat.ble (Nat.add (fm_of TB k) (fm_ln TB k)) mB))
theorem fm_jn_t {c mc mA mB nB TA MA TB MB X nA : Nat} (ht : fm_jt c mc mB TA TB nB = true) (hP : ∀ p, p < mB → fm_g MA (mc + p) = fm_g X p) (hR : fm_RL c mB X MB) (hn : nA = c + nB := by rfl) : fm_ah [] (nA, mA, TA, MA) = fm_ah (fm_hp c (nA, mA, TA, MA)) (nB, mB, TB, MB) := by
  subst hn
  unfold fm_ah
  rw [fm_hp_len]
  show [] ++ (List.range (c + nB)).map (fm_cell 0 TA MA) = (List.range c).map (fm_cell 0 TA MA) ++ (List.range nB).map (fm_cell c TB MB)
  rw [List.range_add, List.map_append, List.nil_append]
  congr 1
  rw [List.map_map]
  apply List.map_congr_left
  intro k hk
  obtain ⟨g1, h3⟩ := fm_a2 (List.all_eq_true.mp ht k hk)
  obtain ⟨g2, h3⟩ := fm_a2 h3
  obtain ⟨g3, g4⟩ := fm_a2 h3
  have g1 : fm_tg TA (c + k) = fm_tg TB k := Nat.eq_of_beq_eq_true g1
  have g2 : fm_ln TA (c + k) = fm_ln TB k := Nat.eq_of_beq_eq_true g2
  have g3 : fm_of TA (c + k) = mc + fm_of TB k := Nat.eq_of_beq_eq_true g3
  have g4 : fm_of TB k + fm_ln TB k ≤ mB := Nat.le_of_ble_eq_true g4
  show fm_cell 0 TA MA (c + k) = fm_cell c TB MB k
  unfold fm_cell
  rw [g1, g2, g3]
  congr 1
  apply List.map_congr_left
  intro j hj
  have hj := List.mem_range.mp hj
  rw [Nat.add_assoc, hP _ (by omega)]
  exact hR _ (by omega)
def fm_hiq (M m X : Nat) : Bool := Nat.beq (Nat.shiftRight M (Nat.mul 36 m)) X
theorem fm_hiq_d {M m X : Nat} (h : fm_hiq M m X = true) (p : Nat) : fm_g M (m + p) = fm_g X p := by
  have h1 : M >>> (36 * m) = X := Nat.eq_of_beq_eq_true h
  rw [← h1, fm_g_shr]
theorem fm_g_b_hi (M m P p : Nat) : fm_g (fm_b M m P) (m + p) = fm_g P p := by
  rw [fm_g_b, if_neg (by omega), Nat.add_sub_cancel_left]
theorem fm_g_b_lo (M m P : Nat) {p : Nat} (h : p < m) : fm_g (fm_b M m P) p = fm_g M p := by
  rw [fm_g_b, if_pos h]
def fm_RLs (c m : Nat) : List Nat → List Nat → Prop
  | [], [] => True
  | x :: xs, y :: ys => fm_RL c m x y ∧ fm_RLs c m xs ys
  | _, _ => False
theorem fm_RLs_at {c m : Nat} : ∀ {xs ys : List Nat}, fm_RLs c m xs ys → ∀ {n : Nat}, n < xs.length → fm_RL c m (xs.getD n 0) (ys.getD n 0)
  | [], [], _, n, hn => absurd hn (Nat.not_lt_zero n)
  | [], _ :: _, h, _, _ => by cases h
  | _ :: _, [], h, _, _ => by cases h
  | x :: xs, y :: ys, h, 0, _ => h.1
  | x :: xs, y :: ys, h, n + 1, hn => fm_RLs_at (xs := xs) (ys := ys) h.2 (Nat.lt_of_succ_lt_succ hn)
/-- all slots of the first c cells lie below m -/
def fm_low (c m T : Nat) : Bool := (List.range c).all fun k => Nat.ble (Nat.add (fm_of T k) (fm_ln T k)) m
theorem fm_hp_eq {c m a b T M M' : Nat} (hl : fm_low c m T = true) (hM : ∀ p, p < m → fm_g M p = fm_g M' p) : fm_hp c (a, b, T, M) = fm_hp c (a, b, T, M') := by
  unfold fm_hp
  apply List.map_congr_left
  intro k hk
  have h1 : fm_of T k + fm_ln T k ≤ m := Nat.le_of_ble_eq_true (List.all_eq_true.mp hl k hk)
  show fm_cell 0 T M k = fm_cell 0 T M' k
  unfold fm_cell
  congr 1
  apply List.map_congr_left
  intro j hj
  have hj := List.mem_range.mp hj
  rw [hM _ (by omega)]
theorem fm_ok_M {a b T M M' : Nat} (h : fm_ok (a, b, T, M)) : fm_ok (a, b, T, M') := h
theorem ev_as_eq {hp hq : am_H} {n L M : Nat} {A B : fm_H} (h1 : fm_lo hp.length n L = fm_lo hq.length n M) (h2 : fm_ah hp A = fm_ah hq B) : fm_as hp n (0, L, [], A, 0, 0) = fm_as hq n (0, M, [], B, 0, 0) := by
  unfold fm_as
  dsimp only
  rw [h1, h2]
  rfl
theorem ev_ar_eq {hp hq : am_H} {A B : fm_H} {v : Nat} {z : Value} (h0 : fm_d hp.length v = z) (h1 : fm_d hq.length v = z) (h2 : fm_ah hp A = fm_ah hq B) : fm_ar hp (.inl (some v), A, 0, 0) = fm_ar hq (.inl (some v), B, 0, 0) := by
  unfold fm_ar
  dsimp only
  rw [h2, Option.map_some, Option.map_some, h0, h1]
/-- a call on the object behind hp, with an int -/
theorem ev_moveE {hp : am_H} {c w j : Nat} {A B A' B' : fm_H} (hc : hp.length = c) (hL : ∀ mi, am_ms j = some mi → 2 ≤ am_L mi) (hw : w < 2 ^ 36) (hw1 : w % 8 = 1) (hc36 : 8 * c + 2 < 2 ^ 36) (j1 : fm_ah [] A = fm_ah hp B) (j2 : fm_ah [] A' = fm_ah hp B') (ok : fm_ok A') (h : ev_tbe hp (j, [2, w], B, (.inl (some 1), B', 0, 0))) : ev_tbe [] (j, [8 * c + 2, w], A, (.inl (some 1), A', 0, 0)) := by
  intro mi hmi
  have hmi : am_ms j = some mi := hmi
  obtain ⟨f, h1, -⟩ := h mi hmi
  refine ⟨f, ?_, ok⟩
  have e0 : fm_lo 0 (am_L mi) (fm_p [8 * c + 2, w]) = fm_lo hp.length (am_L mi) (fm_p [2, w]) := by
    rw [hc, fm_lo_p (c := 0) (hL mi hmi) (fun v hv => by simp only [List.mem_cons, List.not_mem_nil, or_false] at hv; omega), fm_lo_p (c := c) (hL mi hmi) (fun v hv => by simp only [List.mem_cons, List.not_mem_nil, or_false] at hv; omega)]
    have e2 : fm_d 0 w = fm_d c w := by rw [fm_d1 hw1, fm_d1 hw1]
    have e3 : fm_d c 2 = .ref c := fm_d_ref c 0
    simp only [List.map_cons, List.map_nil, fm_d_ref, e2, e3, Nat.zero_add, List.length_cons, List.length_nil]
  have e1 : fm_as [] (am_L mi) (0, fm_p [8 * c + 2, w], [], A, 0, 0) = fm_as hp (am_L mi) (0, fm_p [2, w], [], B, 0, 0) := by
    exact ev_as_eq e0 j1
  have e4 : fm_ar [] (.inl (some 1), A', 0, 0) = fm_ar hp (.inl (some 1), B', 0, 0) := by
    exact ev_ar_eq (v := 1) (fm_d_int 0 0) (fm_d_int hp.length 0) j2
  show am_run am_fty am_dfl am_cmp am_lk am_ms am_cx am_o0 f mi (fm_as [] (am_L mi) (0, fm_p [8 * c + 2, w], [], A, 0, 0)) = some (fm_ar [] (.inl (some 1), A', 0, 0))
  rw [e1, e4]
  exact h1
