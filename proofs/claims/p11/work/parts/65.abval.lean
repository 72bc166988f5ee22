/-! ===== what abstract values mean: ints ===== -/
theorem ab_b_eq (z : Int32) : ((ab_b z : Nat) : Int) = z.toInt + 2147483648 := by
  unfold ab_b
  show (((z.toBitVec.toNat + 2147483648) % 4294967296 : Nat) : Int) = z.toBitVec.toInt + 2147483648
  have := z.toBitVec.isLt
  rw [BitVec.toInt_eq_toNat_cond]
  split <;> omega
theorem ab_b_lt (z : Int32) : ab_b z < 4294967296 := by
  unfold ab_b
  exact Nat.mod_lt _ (by decide)
theorem ab_u_b (z : Int32) : ab_u (ab_b z) = z := by
  apply Int32.toInt_inj.mp
  unfold ab_u
  rw [fm_i_int]
  have h1 := ab_b_eq z
  have h2 := ab_b_lt z
  show (((ab_b z + 2147483648 + 2147483648) % 4294967296 : Nat) : Int) - 2147483648 = z.toInt
  omega
theorem ab_b_u (b : Nat) (h : b < 4294967296) : ab_b (ab_u b) = b := by
  have h1 := ab_b_eq (ab_u b)
  unfold ab_u at h1
  rw [fm_i_int] at h1
  have e : ((ab_b (ab_u b) : Nat) : Int) = (((b + 2147483648 + 2147483648) % 4294967296 : Nat) : Int) - 2147483648 + 2147483648 := h1
  omega
theorem ab_b_inj {x y : Int32} (h : ab_b x = ab_b y) : x = y := by rw [← ab_u_b x, ← ab_u_b y, h]
theorem ab_b_lti {x y : Int32} : x < y ↔ ab_b x < ab_b y := by
  rw [Int32.lt_iff_toInt_lt]
  have h1 := ab_b_eq x
  have h2 := ab_b_eq y
  omega
theorem ab_b_lei {x y : Int32} : x ≤ y ↔ ab_b x ≤ ab_b y := by
  rw [Int32.le_iff_toInt_le]
  have h1 := ab_b_eq x
  have h2 := ab_b_eq y
  omega
theorem ab_b_0 : ab_b 0 = 2147483648 := by decide
theorem ab_b_of (n : Nat) : ab_b (Int32.ofNat n) = (n + 2147483648) % 4294967296 := by
  have h1 := ab_b_eq (Int32.ofNat n)
  rw [fm_i_int] at h1
  omega
theorem ab_ix {z : Int32} (h : 2147483648 ≤ ab_b z) : ¬ z < 0 ∧ z.toNatClampNeg = ab_b z - 2147483648 := by
  constructor
  · rw [ab_b_lti, ab_b_0]
    omega
  · show z.toInt.toNat = _
    have h1 := ab_b_eq z
    omega
theorem ab_bmod {x : Int} (h1 : -2147483648 ≤ x) (h2 : x < 2147483648) : Int.bmod x 4294967296 = x := by
  unfold Int.bmod
  dsimp only
  split <;> omega
theorem ab_b_add {x y : Int32} (h1 : 2147483648 ≤ ab_b x + ab_b y) (h2 : ab_b x + ab_b y ≤ 6442450943) : ab_b (x + y) = ab_b x + ab_b y - 2147483648 := by
  have e := ab_b_eq (x + y)
  have e1 := ab_b_eq x
  have e2 := ab_b_eq y
  rw [Int32.toInt_add] at e
  have e3 : (x.toInt + y.toInt).bmod (2 ^ 32) = x.toInt + y.toInt := ab_bmod (by omega) (by omega)
  rw [e3] at e
  omega
theorem ab_b_sub {x y : Int32} (h1 : ab_b y ≤ ab_b x + 2147483648) (h2 : ab_b x + 2147483648 ≤ ab_b y + 4294967295) : ab_b (x - y) = ab_b x + 2147483648 - ab_b y := by
  have e := ab_b_eq (x - y)
  have e1 := ab_b_eq x
  have e2 := ab_b_eq y
  rw [Int32.toInt_sub] at e
  have e3 : (x.toInt - y.toInt).bmod (2 ^ 32) = x.toInt - y.toInt := ab_bmod (by omega) (by omega)
  rw [e3] at e
  omega
theorem ab_b_mul {x y : Int32} (h1 : 2147483648 ≤ ab_b x) (h2 : 2147483648 ≤ ab_b y) (h3 : (ab_b x - 2147483648) * (ab_b y - 2147483648) ≤ 2147483647) : ab_b (x * y) = 2147483648 + (ab_b x - 2147483648) * (ab_b y - 2147483648) := by
  have e := ab_b_eq (x * y)
  have e1 := ab_b_eq x
  have e2 := ab_b_eq y
  rw [Int32.toInt_mul] at e
  have f1 : x.toInt = ((ab_b x - 2147483648 : Nat) : Int) := by omega
  have f2 : y.toInt = ((ab_b y - 2147483648 : Nat) : Int) := by omega
  rw [f1, f2, ← Int.natCast_mul] at e
  have e3 : (((ab_b x - 2147483648) * (ab_b y - 2147483648) : Nat) : Int).bmod (2 ^ 32) = (((ab_b x - 2147483648) * (ab_b y - 2147483648) : Nat) : Int) := ab_bmod (by omega) (by omega)
  rw [e3] at e
  omega
theorem ab_b_div {x y : Int32} (h1 : 2147483648 ≤ ab_b x) (h2 : 2147483648 < ab_b y) : ab_b (x / y) = 2147483648 + (ab_b x - 2147483648) / (ab_b y - 2147483648) := by
  have e := ab_b_eq (x / y)
  have e1 := ab_b_eq x
  have e2 := ab_b_eq y
  have l1 := ab_b_lt x
  rw [Int32.toInt_div] at e
  have f1 : x.toInt = ((ab_b x - 2147483648 : Nat) : Int) := by omega
  have f2 : y.toInt = ((ab_b y - 2147483648 : Nat) : Int) := by omega
  rw [f1, f2] at e
  have f3 : (((ab_b x - 2147483648 : Nat) : Int).tdiv ((ab_b y - 2147483648 : Nat) : Int)) = (((ab_b x - 2147483648) / (ab_b y - 2147483648) : Nat) : Int) := by
    rw [Int.tdiv_eq_ediv_of_nonneg (by omega)]
    rfl
  rw [f3] at e
  have f4 : (ab_b x - 2147483648) / (ab_b y - 2147483648) ≤ ab_b x - 2147483648 := Nat.div_le_self _ _
  clear f3
  generalize (ab_b x - 2147483648) / (ab_b y - 2147483648) = Q at e f4 ⊢
  have e3 : ((Q : Nat) : Int).bmod (2 ^ 32) = ((Q : Nat) : Int) := ab_bmod (by omega) (by omega)
  rw [e3] at e
  omega
theorem ab_b_rem {x y : Int32} (h1 : 2147483648 ≤ ab_b x) (h2 : 2147483648 < ab_b y) : ab_b (x - x / y * y) = 2147483648 + (ab_b x - 2147483648) % (ab_b y - 2147483648) := by
  have d := ab_b_div h1 h2
  have l1 := ab_b_lt x
  have hd := Nat.div_add_mod (ab_b x - 2147483648) (ab_b y - 2147483648)
  rw [Nat.mul_comm] at hd
  have hm : (ab_b x - 2147483648) % (ab_b y - 2147483648) < ab_b y - 2147483648 := Nat.mod_lt _ (by omega)
  generalize (ab_b x - 2147483648) / (ab_b y - 2147483648) = Q at d hd
  generalize (ab_b x - 2147483648) % (ab_b y - 2147483648) = M at hd hm ⊢
  have e : ab_b (x / y) - 2147483648 = Q := by omega
  have hq : Q * (ab_b y - 2147483648) ≤ 2147483647 := by
    generalize Q * (ab_b y - 2147483648) = P at hd
    omega
  have hx := ab_b_mul (x := x / y) (y := y) (by rw [d]; exact Nat.le_add_right _ _) (Nat.le_of_lt h2) (by rw [e]; exact hq)
  rw [e] at hx
  generalize Q * (ab_b y - 2147483648) = P at hd hx hq
  rw [ab_b_sub (by omega) (by omega), hx]
  omega
theorem ab_b_and {x y : Int32} (h : 2147483648 ≤ ab_b y) : 2147483648 ≤ ab_b (x &&& y) ∧ ab_b (x &&& y) ≤ ab_b y := by
  have hy : y.toBitVec.toNat < 2147483648 := by
    have e := ab_b_eq y
    have l := y.toBitVec.isLt
    have e2 : y.toInt = y.toBitVec.toInt := rfl
    rw [e2, BitVec.toInt_eq_toNat_cond] at e
    split at e <;> omega
  have hb : ∀ z : Int32, z.toBitVec.toNat < 2147483648 → ab_b z = z.toBitVec.toNat + 2147483648 := fun z hz => by
    show (z.toBitVec.toNat + 2147483648) % 4294967296 = _
    omega
  have hle : (x &&& y).toBitVec.toNat ≤ y.toBitVec.toNat := by
    rw [Int32.toBitVec_and, BitVec.toNat_and]
    exact Nat.and_le_right
  rw [hb _ hy, hb _ (by omega)]
  omega
theorem ab_bitq {z : Int32} (h1 : 2147483648 ≤ ab_b z) (h2 : ab_b z ≤ 2147483649) : am_bit z = true := by
  unfold am_bit
  have : ab_b z = 2147483648 ∨ ab_b z = 2147483649 := by omega
  rcases this with h | h
  · have : z = 0 := ab_b_inj (by rw [h]; decide)
    subst this
    rfl
  · have : z = 1 := ab_b_inj (by rw [h]; decide)
    subst this
    rfl
theorem ab_bt_ {α : Type} {b : Bool} {x : Option α} {y : α} (h : (bif b then x else none) = some y) : b = true ∧ x = some y := by
  cases b with
  | true => exact ⟨rfl, h⟩
  | false => cases h
theorem ab_a2 {a b : Bool} (h : (a && b) = true) : a = true ∧ b = true := by simpa using h
theorem ab_beq {a b : Nat} (h : Nat.beq a b = true) : a = b := Nat.eq_of_beq_eq_true h
theorem ab_bne {a b : Nat} (h : (!Nat.beq a b) = true) : a ≠ b := fun e => by
  subst e
  rw [Nat.beq_refl] at h
  cases h
theorem ab_ble {a b : Nat} (h : Nat.ble a b = true) : a ≤ b := Nat.le_of_ble_eq_true h
theorem ab_blt {a b : Nat} (h : Nat.blt a b = true) : a < b := Nat.le_of_ble_eq_true h
section ABV
variable (τ : Nat → Nat) (tv : Nat)
/-- without names -/
def ab_gc (v : ab_V) (x : Value) : Prop := match v.1 with
  | 0 => ∃ z : Int32, x = .int z ∧ v.2.1 ≤ ab_b z ∧ ab_b z ≤ v.2.2
  | 2 => ∃ a, x = .ref a ∧ τ a = v.2.1 ∧ v.2.1 ≠ 0
  | 3 => x = .null
  | 4 => ∃ z : Int64, x = .long z
  | 6 => ∃ a, x = .ref a
  | 7 => ∃ z : Int32, x = .int z ∧ ab_b z = tv + v.2.1
  | _ => False
def ab_g (ρ : Nat → Nat) (v : ab_V) (x : Value) : Prop := match v.1 with
  | 1 => x = .ref (ρ v.2.1) ∧ τ (ρ v.2.1) = v.2.1 / 16 ∧ v.2.1 / 16 ≠ 0
  | _ => ab_gc τ tv v x
variable {τ tv} {ρ : Nat → Nat}
theorem ab_g_0 {a b : Nat} {x : Value} : ab_g τ tv ρ (0, a, b) x ↔ ∃ z : Int32, x = .int z ∧ a ≤ ab_b z ∧ ab_b z ≤ b := Iff.rfl
theorem ab_g_1 {a b : Nat} {x : Value} : ab_g τ tv ρ (1, a, b) x ↔ x = .ref (ρ a) ∧ τ (ρ a) = a / 16 ∧ a / 16 ≠ 0 := Iff.rfl
theorem ab_g_2 {a b : Nat} {x : Value} : ab_g τ tv ρ (2, a, b) x ↔ ∃ y, x = .ref y ∧ τ y = a ∧ a ≠ 0 := Iff.rfl
theorem ab_g_7 {a b : Nat} {x : Value} : ab_g τ tv ρ (7, a, b) x ↔ ∃ z : Int32, x = .int z ∧ ab_b z = tv + a := Iff.rfl
theorem ab_g_5 {v : ab_V} {x : Value} (h : ab_g τ tv ρ v x) : v.1 ≠ 5 := by
  obtain ⟨t, a, b⟩ := v
  intro e
  have e : t = 5 := e
  subst e
  exact h
/-- an int -/
theorem ab_int {v : ab_V} {x : Value} (htv : 2147483648 ≤ tv ∧ tv ≤ 2147523647) (hi : ab_iI v = true) (h : ab_g τ tv ρ v x) : ∃ z : Int32, x = .int z ∧ (ab_i v).2.1 ≤ ab_b z ∧ ab_b z ≤ (ab_i v).2.2 := by
  obtain ⟨t, a, b⟩ := v
  rcases Bool.or_eq_true_iff.mp hi with e | e
  · have e : t = 0 := ab_beq e
    subst e
    exact h
  · have e : t = 7 := ab_beq e
    subst e
    obtain ⟨z, rfl, hz⟩ := h
    refine ⟨z, rfl, ?_, ?_⟩
    · show 2147483648 + a ≤ _
      have hz : ab_b z = tv + a := hz
      omega
    · show _ ≤ 2147523647 + a
      have hz : ab_b z = tv + a := hz
      omega
/-- a reference to a cell of a kind -/
theorem ab_ref {v : ab_V} {x : Value} (hi : ab_iR v = true) (h : ab_g τ tv ρ v x) : ∃ a, x = .ref a ∧ τ a = ab_kn v ∧ ab_kn v ≠ 0 ∧ (v.1 = 1 → a = ρ v.2.1) := by
  obtain ⟨t, a, b⟩ := v
  rcases Bool.or_eq_true_iff.mp hi with e | e
  · have e : t = 1 := ab_beq e
    subst e
    obtain ⟨rfl, h1, h2⟩ := h
    exact ⟨_, rfl, h1, h2, fun _ => rfl⟩
  · have e : t = 2 := ab_beq e
    subst e
    obtain ⟨y, rfl, h1, h2⟩ := h
    exact ⟨y, rfl, h1, h2, fun e => by cases e⟩
theorem ab_g_cat {v : ab_V} {x : Value} (h4 : v.1 ≠ 4) (h : ab_g τ tv ρ v x) : x.category = 1 := by
  obtain ⟨t, a, b⟩ := v
  unfold ab_g at h
  dsimp only at h
  split at h
  · obtain ⟨rfl, -⟩ := h; rfl
  · unfold ab_gc at h
    dsimp only at h
    split at h
    · obtain ⟨z, rfl, -⟩ := h; rfl
    · obtain ⟨z, rfl, -⟩ := h; rfl
    · subst h; rfl
    · exact absurd rfl h4
    · obtain ⟨z, rfl⟩ := h; rfl
    · obtain ⟨z, rfl, -⟩ := h; rfl
    · exact h.elim
theorem ab_le_ok {v w : ab_V} {x : Value} (htv : 2147483648 ≤ tv ∧ tv ≤ 2147523647) (hle : ab_le v w = true) (h5 : w.1 ≠ 5) (h : ab_g τ tv ρ v x) : ab_g τ tv ρ w x := by
  obtain ⟨t, a, b⟩ := w
  unfold ab_le at hle
  cases e5 : Nat.beq t 5 with
  | true => exact absurd (ab_beq e5) h5
  | false =>
    dsimp only at hle
    rw [e5] at hle
    cases e0 : Nat.beq t 0 with
    | true =>
      rw [e0] at hle
      have := ab_beq e0
      subst this
      cases hi : ab_iI v with
      | false => rw [hi] at hle; cases hle
      | true =>
        rw [hi] at hle
        obtain ⟨h1, h2⟩ := ab_a2 hle
        obtain ⟨z, rfl, g1, g2⟩ := ab_int htv hi h
        exact ⟨z, rfl, Nat.le_trans (ab_ble h1) g1, Nat.le_trans g2 (ab_ble h2)⟩
    | false =>
      rw [e0] at hle
      cases e2 : Nat.beq t 2 with
      | true =>
        rw [e2] at hle
        have := ab_beq e2
        subst this
        have hi : ab_iR v = true ∧ ab_kn v = a := by
          rcases Bool.or_eq_true_iff.mp hle with e | e
          · obtain ⟨e1, e2⟩ := ab_a2 e
            unfold ab_iR ab_kn
            rw [e1, ab_beq e1]
            exact ⟨by simp, ab_beq e2⟩
          · obtain ⟨e1, e2⟩ := ab_a2 e
            unfold ab_iR ab_kn
            rw [e1, ab_beq e1]
            exact ⟨by simp, ab_beq e2⟩
        obtain ⟨y, rfl, h1, h2, -⟩ := ab_ref hi.1 h
        rw [hi.2] at h1 h2
        exact ⟨y, rfl, h1, h2⟩
      | false =>
        rw [e2] at hle
        cases e6 : Nat.beq t 6 with
        | true =>
          rw [e6] at hle
          have := ab_beq e6
          subst this
          rcases Bool.or_eq_true_iff.mp hle with e | e
          · obtain ⟨y, rfl, -⟩ := ab_ref e h
            exact ⟨y, rfl⟩
          · obtain ⟨t', a', b'⟩ := v
            have : t' = 6 := ab_beq e
            subst this
            exact h
        | false =>
          rw [e6] at hle
          obtain ⟨e1, e3⟩ := ab_a2 hle
          obtain ⟨t', a', b'⟩ := v
          have h1 : t' = t := ab_beq e1
          have h2 : a' = a := ab_beq e3
          subst h1 h2
          have n0 : t' ≠ 0 := Nat.ne_of_beq_eq_false e0
          have n2 : t' ≠ 2 := Nat.ne_of_beq_eq_false e2
          have n6 : t' ≠ 6 := Nat.ne_of_beq_eq_false e6
          by_cases n1 : t' = 1
          · subst n1; exact h
          by_cases n3 : t' = 3
          · subst n3; exact h
          by_cases n4 : t' = 4
          · subst n4; exact h
          by_cases n7 : t' = 7
          · subst n7; exact h
          exfalso
          unfold ab_g at h
          dsimp only at h
          split at h
          · exact n1 rfl
          · unfold ab_gc at h
            dsimp only at h
            split at h
            · exact n0 rfl
            · exact n2 rfl
            · exact n3 rfl
            · exact n4 rfl
            · exact n6 rfl
            · exact n7 rfl
            · exact h
end ABV
