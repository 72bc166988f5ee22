/-! ===== the law's loop ===== -/
theorem ll_of4 : ∀ c, c < 5 → ab_b (Int32.ofInt ((c : Nat) : Int)) = 2147483648 + c := by decide +kernel
theorem ll_zi {zi : Int32} {n c : Nat} (hz : ab_b zi = 2147483648 + n) (hn : n ≤ 4096) (hc : c < 5) : ab_b (zi + Int32.ofInt (c : Int)) = 2147483648 + (n + c) := by
  have e := ll_of4 c hc
  rw [ab_b_add (by omega) (by omega)]
  omega
theorem ll_aa {l n : Nat} {kn : List (Nat × Int32)} {s : Nat → Int32} {zi : Int32} (hkn : ∀ j, j < l → am_kn kn j = some (s j)) (hz : ab_b zi = 2147483648 + n) (hl : l ≤ 2048) (hn : n + 4 ≤ l) : ll_a l kn zi (fun c => s (n + c)) := by
  intro c hc
  have e := ll_zi hz (by omega) (c := c) (by omega)
  obtain ⟨h1, h2⟩ := ab_ix (z := zi + Int32.ofInt (c : Int)) (by omega)
  have h2 : (zi + Int32.ofInt (c : Int)).toNatClampNeg = n + c := by omega
  refine ⟨fun h => ?_, ?_⟩
  · rcases h with h | h
    · exact h1 h
    · rw [h2] at h
      omega
  · rw [h2]
    exact hkn _ (by omega)
set_option maxRecDepth 100000 in
theorem ll_sw {xs : am_O} {lo : List (Option Value)} {h : am_H} {k q : Nat} {v : Int32} {Q : am_R → Prop} (hd : ll_R xs (811, lo, [], h, k, q) Q) (h0 : ll_R xs (124, lo, [], h, k, q) Q) (h1 : ll_R xs (176, lo, [], h, k, q) Q) (h2 : ll_R xs (213, lo, [], h, k, q) Q) (h3 : ll_R xs (262, lo, [], h, k, q) Q) (h4 : ll_R xs (315, lo, [], h, k, q) Q) (h5 : ll_R xs (356, lo, [], h, k, q) Q) (h6 : ll_R xs (384, lo, [], h, k, q) Q) (h7 : ll_R xs (412, lo, [], h, k, q) Q) (h8 : ll_R xs (425, lo, [], h, k, q) Q) (h9 : ll_R xs (465, lo, [], h, k, q) Q) (h10 : ll_R xs (545, lo, [], h, k, q) Q) (h11 : ll_R xs (558, lo, [], h, k, q) Q) (h12 : ll_R xs (571, lo, [], h, k, q) Q) (h13 : ll_R xs (611, lo, [], h, k, q) Q) (h14 : ll_R xs (663, lo, [], h, k, q) Q) (h15 : ll_R xs (703, lo, [], h, k, q) Q) (h16 : ll_R xs (731, lo, [], h, k, q) Q) (h17 : ll_R xs (771, lo, [], h, k, q) Q) : ll_R xs (39, lo, [.int v], h, k, q) Q := by
  by_cases hv : v.toInt < 0 ∨ 17 < v.toInt
  · refine ll_st ll_i39 (S' := (811, lo, [], h, k, q)) ?_ hd
    show (if v.toInt < 0 ∨ 17 < v.toInt then am_to 39 772 lo [] h k q else _) = _
    rw [if_pos hv]
    rfl
  · have hc : v.toInt = 0 ∨ v.toInt = 1 ∨ v.toInt = 2 ∨ v.toInt = 3 ∨ v.toInt = 4 ∨ v.toInt = 5 ∨ v.toInt = 6 ∨ v.toInt = 7 ∨ v.toInt = 8 ∨ v.toInt = 9 ∨ v.toInt = 10 ∨ v.toInt = 11 ∨ v.toInt = 12 ∨ v.toInt = 13 ∨ v.toInt = 14 ∨ v.toInt = 15 ∨ v.toInt = 16 ∨ v.toInt = 17 := by omega
    rcases hc with e | e | e | e | e | e | e | e | e | e | e | e | e | e | e | e | e | e
    · refine ll_st ll_i39 (S' := (124, lo, [], h, k, q)) ?_ h0
      show (if v.toInt < 0 ∨ 17 < v.toInt then am_to 39 772 lo [] h k q else (match (#[85, 137, 174, 223, 276, 317, 345, 373, 386, 426, 506, 519, 532, 572, 624, 664, 692, 732] : Array Int)[(v.toInt - 0).toNat]? with
        | some off => am_to 39 off lo [] h k q
        | none => none)) = _
      rw [if_neg hv, e]
      rfl
    · refine ll_st ll_i39 (S' := (176, lo, [], h, k, q)) ?_ h1
      show (if v.toInt < 0 ∨ 17 < v.toInt then am_to 39 772 lo [] h k q else (match (#[85, 137, 174, 223, 276, 317, 345, 373, 386, 426, 506, 519, 532, 572, 624, 664, 692, 732] : Array Int)[(v.toInt - 0).toNat]? with
        | some off => am_to 39 off lo [] h k q
        | none => none)) = _
      rw [if_neg hv, e]
      rfl
    · refine ll_st ll_i39 (S' := (213, lo, [], h, k, q)) ?_ h2
      show (if v.toInt < 0 ∨ 17 < v.toInt then am_to 39 772 lo [] h k q else (match (#[85, 137, 174, 223, 276, 317, 345, 373, 386, 426, 506, 519, 532, 572, 624, 664, 692, 732] : Array Int)[(v.toInt - 0).toNat]? with
        | some off => am_to 39 off lo [] h k q
        | none => none)) = _
      rw [if_neg hv, e]
      rfl
    · refine ll_st ll_i39 (S' := (262, lo, [], h, k, q)) ?_ h3
      show (if v.toInt < 0 ∨ 17 < v.toInt then am_to 39 772 lo [] h k q else (match (#[85, 137, 174, 223, 276, 317, 345, 373, 386, 426, 506, 519, 532, 572, 624, 664, 692, 732] : Array Int)[(v.toInt - 0).toNat]? with
        | some off => am_to 39 off lo [] h k q
        | none => none)) = _
      rw [if_neg hv, e]
      rfl
    · refine ll_st ll_i39 (S' := (315, lo, [], h, k, q)) ?_ h4
      show (if v.toInt < 0 ∨ 17 < v.toInt then am_to 39 772 lo [] h k q else (match (#[85, 137, 174, 223, 276, 317, 345, 373, 386, 426, 506, 519, 532, 572, 624, 664, 692, 732] : Array Int)[(v.toInt - 0).toNat]? with
        | some off => am_to 39 off lo [] h k q
        | none => none)) = _
      rw [if_neg hv, e]
      rfl
    · refine ll_st ll_i39 (S' := (356, lo, [], h, k, q)) ?_ h5
      show (if v.toInt < 0 ∨ 17 < v.toInt then am_to 39 772 lo [] h k q else (match (#[85, 137, 174, 223, 276, 317, 345, 373, 386, 426, 506, 519, 532, 572, 624, 664, 692, 732] : Array Int)[(v.toInt - 0).toNat]? with
        | some off => am_to 39 off lo [] h k q
        | none => none)) = _
      rw [if_neg hv, e]
      rfl
    · refine ll_st ll_i39 (S' := (384, lo, [], h, k, q)) ?_ h6
      show (if v.toInt < 0 ∨ 17 < v.toInt then am_to 39 772 lo [] h k q else (match (#[85, 137, 174, 223, 276, 317, 345, 373, 386, 426, 506, 519, 532, 572, 624, 664, 692, 732] : Array Int)[(v.toInt - 0).toNat]? with
        | some off => am_to 39 off lo [] h k q
        | none => none)) = _
      rw [if_neg hv, e]
      rfl
    · refine ll_st ll_i39 (S' := (412, lo, [], h, k, q)) ?_ h7
      show (if v.toInt < 0 ∨ 17 < v.toInt then am_to 39 772 lo [] h k q else (match (#[85, 137, 174, 223, 276, 317, 345, 373, 386, 426, 506, 519, 532, 572, 624, 664, 692, 732] : Array Int)[(v.toInt - 0).toNat]? with
        | some off => am_to 39 off lo [] h k q
        | none => none)) = _
      rw [if_neg hv, e]
      rfl
    · refine ll_st ll_i39 (S' := (425, lo, [], h, k, q)) ?_ h8
      show (if v.toInt < 0 ∨ 17 < v.toInt then am_to 39 772 lo [] h k q else (match (#[85, 137, 174, 223, 276, 317, 345, 373, 386, 426, 506, 519, 532, 572, 624, 664, 692, 732] : Array Int)[(v.toInt - 0).toNat]? with
        | some off => am_to 39 off lo [] h k q
        | none => none)) = _
      rw [if_neg hv, e]
      rfl
    · refine ll_st ll_i39 (S' := (465, lo, [], h, k, q)) ?_ h9
      show (if v.toInt < 0 ∨ 17 < v.toInt then am_to 39 772 lo [] h k q else (match (#[85, 137, 174, 223, 276, 317, 345, 373, 386, 426, 506, 519, 532, 572, 624, 664, 692, 732] : Array Int)[(v.toInt - 0).toNat]? with
        | some off => am_to 39 off lo [] h k q
        | none => none)) = _
      rw [if_neg hv, e]
      rfl
    · refine ll_st ll_i39 (S' := (545, lo, [], h, k, q)) ?_ h10
      show (if v.toInt < 0 ∨ 17 < v.toInt then am_to 39 772 lo [] h k q else (match (#[85, 137, 174, 223, 276, 317, 345, 373, 386, 426, 506, 519, 532, 572, 624, 664, 692, 732] : Array Int)[(v.toInt - 0).toNat]? with
        | some off => am_to 39 off lo [] h k q
        | none => none)) = _
      rw [if_neg hv, e]
      rfl
    · refine ll_st ll_i39 (S' := (558, lo, [], h, k, q)) ?_ h11
      show (if v.toInt < 0 ∨ 17 < v.toInt then am_to 39 772 lo [] h k q else (match (#[85, 137, 174, 223, 276, 317, 345, 373, 386, 426, 506, 519, 532, 572, 624, 664, 692, 732] : Array Int)[(v.toInt - 0).toNat]? with
        | some off => am_to 39 off lo [] h k q
        | none => none)) = _
      rw [if_neg hv, e]
      rfl
    · refine ll_st ll_i39 (S' := (571, lo, [], h, k, q)) ?_ h12
      show (if v.toInt < 0 ∨ 17 < v.toInt then am_to 39 772 lo [] h k q else (match (#[85, 137, 174, 223, 276, 317, 345, 373, 386, 426, 506, 519, 532, 572, 624, 664, 692, 732] : Array Int)[(v.toInt - 0).toNat]? with
        | some off => am_to 39 off lo [] h k q
        | none => none)) = _
      rw [if_neg hv, e]
      rfl
    · refine ll_st ll_i39 (S' := (611, lo, [], h, k, q)) ?_ h13
      show (if v.toInt < 0 ∨ 17 < v.toInt then am_to 39 772 lo [] h k q else (match (#[85, 137, 174, 223, 276, 317, 345, 373, 386, 426, 506, 519, 532, 572, 624, 664, 692, 732] : Array Int)[(v.toInt - 0).toNat]? with
        | some off => am_to 39 off lo [] h k q
        | none => none)) = _
      rw [if_neg hv, e]
      rfl
    · refine ll_st ll_i39 (S' := (663, lo, [], h, k, q)) ?_ h14
      show (if v.toInt < 0 ∨ 17 < v.toInt then am_to 39 772 lo [] h k q else (match (#[85, 137, 174, 223, 276, 317, 345, 373, 386, 426, 506, 519, 532, 572, 624, 664, 692, 732] : Array Int)[(v.toInt - 0).toNat]? with
        | some off => am_to 39 off lo [] h k q
        | none => none)) = _
      rw [if_neg hv, e]
      rfl
    · refine ll_st ll_i39 (S' := (703, lo, [], h, k, q)) ?_ h15
      show (if v.toInt < 0 ∨ 17 < v.toInt then am_to 39 772 lo [] h k q else (match (#[85, 137, 174, 223, 276, 317, 345, 373, 386, 426, 506, 519, 532, 572, 624, 664, 692, 732] : Array Int)[(v.toInt - 0).toNat]? with
        | some off => am_to 39 off lo [] h k q
        | none => none)) = _
      rw [if_neg hv, e]
      rfl
    · refine ll_st ll_i39 (S' := (731, lo, [], h, k, q)) ?_ h16
      show (if v.toInt < 0 ∨ 17 < v.toInt then am_to 39 772 lo [] h k q else (match (#[85, 137, 174, 223, 276, 317, 345, 373, 386, 426, 506, 519, 532, 572, 624, 664, 692, 732] : Array Int)[(v.toInt - 0).toNat]? with
        | some off => am_to 39 off lo [] h k q
        | none => none)) = _
      rw [if_neg hv, e]
      rfl
    · refine ll_st ll_i39 (S' := (771, lo, [], h, k, q)) ?_ h17
      show (if v.toInt < 0 ∨ 17 < v.toInt then am_to 39 772 lo [] h k q else (match (#[85, 137, 174, 223, 276, 317, 345, 373, 386, 426, 506, 519, 532, 572, 624, 664, 692, 732] : Array Int)[(v.toInt - 0).toNat]? with
        | some off => am_to 39 off lo [] h k q
        | none => none)) = _
      rw [if_neg hv, e]
      rfl

/-- how the law ends -/
def ll_Q (r : am_R) : Prop := ∃ h' k' q', r = (.inl (some (.int 1)), h', k', q') ∧ k' ≤ 6000 ∧ q' ≤ 40000
theorem ll_I_up {u : Nat → Nat} {N : Nat} {h : am_H} {k q : Nat} (hI : ll_I u N h k q) : ll_I u (N + 1) h k q := by
  obtain ⟨hii, τ, mc, T, hmc, hU, hut, hT, hJ, hk, hq⟩ := hI
  exact ⟨hii, τ, mc, T, hmc, hU, hut, ⟨hT.1, by omega⟩, hJ, by omega, by omega⟩
set_option maxRecDepth 100000 in
theorem ll_out {xs : am_O} {u : Nat → Nat} {N : Nat} {lo : List (Option Value)} {h : am_H} {k q : Nat} {y z : Int32} (hlt : y < z) (hI : ll_I u N h k q) (hN : N ≤ 512) : ll_R xs (29, lo, [.int y, .int z], h, k, q) ll_Q := by
  obtain ⟨-, τ, mc, T, -, -, -, -, -, hk, hq⟩ := hI
  refine ll_st ll_i29 (S' := (817, lo, [], h, k, q)) ?_ ?_
  · show am_br (decide (y < z)) 29 788 lo [] h k q = _
    rw [decide_eq_true hlt]
    rfl
  refine ll_st ll_i817 (S' := (818, lo, [.int 1], h, k, q)) rfl ?_
  refine ll_en ll_i818 (r := (.inl (some (.int 1)), h, k, q)) ?_ ⟨h, k, q, rfl, by omega, by omega⟩
  show (if (1 : Nat) = 1 then (if am_r am_law = some .int ∨ (am_r am_law = some .boolean ∧ am_bit 1 = true) then (some (.inr (.inl (.inl (some (.int 1)), h, k, q))) : Option am_X) else none) else none) = _
  rw [if_pos rfl, if_pos (Or.inr ⟨rfl, rfl⟩)]
set_option maxRecDepth 100000 in
theorem ll_loop {u : Nat → Nat} {l : Nat} {kn : List (Nat × Int32)} {s : Nat → Int32} (hl : l ≤ 2048) (hkn : ∀ j, j < l → am_kn kn j = some (s j)) : ∀ (d N : Nat) (zi : Int32) (o5 o6 : Option Value) (h : am_H) (k q : Nat), l < 4 * (N + d) → N ≤ 512 → ab_b zi = 2147483648 + 4 * N → ll_I u N h k q → ll_R (ll_x l kn) (23, ll_lo u zi o5 o6, [], h, k, q) ll_Q := by
  intro d
  induction d with
  | zero =>
    intro N zi o5 o6 h k q hd hN hz hI
    have hy : ab_b (Int32.ofNat l - Int32.ofInt 4) = l + 2147483644 := by
      have e := ll_of4 4 (by decide)
      have e : ab_b (Int32.ofInt 4) = 2147483652 := e
      have e2 := ab_b_of l
      have e2 : ab_b (Int32.ofNat l) = l + 2147483648 := by omega
      rw [ab_b_sub (by omega) (by omega)]
      omega
    refine ll_st ll_i23 (S' := (25, ll_lo u zi o5 o6, [.int zi], h, k, q)) rfl ?_
    refine ll_st ll_i25 (S' := (26, ll_lo u zi o5 o6, [.retAddr 0, .int zi], h, k, q)) rfl ?_
    refine ll_st ll_i26 (S' := (27, ll_lo u zi o5 o6, [.int (Int32.ofNat l), .int zi], h, k, q)) rfl ?_
    refine ll_st ll_i27 (S' := (28, ll_lo u zi o5 o6, [.int (Int32.ofInt 4), .int (Int32.ofNat l), .int zi], h, k, q)) rfl ?_
    refine ll_st ll_i28 (S' := (29, ll_lo u zi o5 o6, [.int (Int32.ofNat l - Int32.ofInt 4), .int zi], h, k, q)) rfl ?_
    have hlt : Int32.ofNat l - Int32.ofInt 4 < zi := ab_b_lti.mpr (by omega)
    exact ll_out hlt hI hN
  | succ d ih =>
    intro N zi o5 o6 h k q hd hN hz hI
    have hy : ab_b (Int32.ofNat l - Int32.ofInt 4) = l + 2147483644 := by
      have e := ll_of4 4 (by decide)
      have e : ab_b (Int32.ofInt 4) = 2147483652 := e
      have e2 := ab_b_of l
      have e2 : ab_b (Int32.ofNat l) = l + 2147483648 := by omega
      rw [ab_b_sub (by omega) (by omega)]
      omega
    refine ll_st ll_i23 (S' := (25, ll_lo u zi o5 o6, [.int zi], h, k, q)) rfl ?_
    refine ll_st ll_i25 (S' := (26, ll_lo u zi o5 o6, [.retAddr 0, .int zi], h, k, q)) rfl ?_
    refine ll_st ll_i26 (S' := (27, ll_lo u zi o5 o6, [.int (Int32.ofNat l), .int zi], h, k, q)) rfl ?_
    refine ll_st ll_i27 (S' := (28, ll_lo u zi o5 o6, [.int (Int32.ofInt 4), .int (Int32.ofNat l), .int zi], h, k, q)) rfl ?_
    refine ll_st ll_i28 (S' := (29, ll_lo u zi o5 o6, [.int (Int32.ofNat l - Int32.ofInt 4), .int zi], h, k, q)) rfl ?_
    by_cases hlt : Int32.ofNat l - Int32.ofInt 4 < zi
    · exact ll_out hlt hI hN
    · have hle : 4 * N + 4 ≤ l := by
        have : ¬ ab_b (Int32.ofNat l - Int32.ofInt 4) < ab_b zi := fun e => hlt (ab_b_lti.mpr e)
        omega
      have ha := ll_aa hkn hz hl hle
      have hN' : N < 512 := by omega
      refine ll_st ll_i29 (S' := (32, ll_lo u zi o5 o6, [], h, k, q)) ?_ ?_
      · show am_br (decide (Int32.ofNat l - Int32.ofInt 4 < zi)) 29 788 (ll_lo u zi o5 o6) [] h k q = _
        rw [decide_eq_false hlt]
        rfl
      refine ll_st ll_i32 (S' := (33, ll_lo u zi o5 o6, [.retAddr 0], h, k, q)) rfl ?_
      refine ll_st ll_i33 (S' := (35, ll_lo u zi o5 o6, [.int zi, .retAddr 0], h, k, q)) rfl ?_
      refine ll_st ll_i35 (S' := (36, ll_lo u zi o5 o6, [.int (s (4 * N))], h, k, q)) ?_ ?_
      · obtain ⟨h1, h2⟩ := ab_ix (z := zi) (by omega)
        have h2 : zi.toNatClampNeg = 4 * N := by omega
        show (if (1 : Nat) = 1 then (if zi < 0 ∨ l ≤ zi.toNatClampNeg then none else (match am_kn kn zi.toNatClampNeg with
          | some x => am_go (35 + 1, ll_lo u zi o5 o6, [.int x], h, k, q)
          | none => am_go (35 + 1, ll_lo u zi o5 o6, [.retAddr (zi.toNatClampNeg + 1)], h, k, q))) else none) = _
        rw [if_pos rfl, if_neg (fun e => e.elim h1 (fun e => by omega)), h2, hkn _ (by omega)]
        rfl
      refine ll_st ll_i36 (S' := (38, ll_lo u zi o5 o6, [.int (Int8.ofInt 31).toInt32, .int (s (4 * N))], h, k, q)) rfl ?_
      refine ll_st ll_i38 (S' := (39, ll_lo u zi o5 o6, [.int (s (4 * N) &&& (Int8.ofInt 31).toInt32)], h, k, q)) rfl ?_
      have hn : ∀ o5 o6 h k q, ll_I u (N + 1) h k q → ll_R (ll_x l kn) (811, ll_lo u zi o5 o6, [], h, k, q) ll_Q := by
        intro o5 o6 h k q hI'
        refine ll_st ll_i811 (S' := (814, ll_lo u (zi + Int32.ofInt 4) o5 o6, [], h, k, q)) rfl ?_
        refine ll_st ll_i814 (S' := (23, ll_lo u (zi + Int32.ofInt 4) o5 o6, [], h, k, q)) rfl ?_
        have e := ll_zi hz (by omega) (c := 4) (by decide)
        have e : ab_b (zi + Int32.ofInt 4) = 2147483648 + (4 * N + 4) := e
        exact ih (N + 1) _ _ _ _ _ _ (by omega) (by omega) (by omega) hI'
      exact ll_sw (hn _ _ _ _ _ (ll_I_up hI)) (ll_k0 hN' ha hI hn) (ll_k1 hN' ha hI hn) (ll_k2 hN' ha hI hn) (ll_k3 hN' ha hI hn) (ll_k4 hN' ha hI hn) (ll_k5 hN' ha hI hn) (ll_k6 hN' ha hI hn) (ll_k7 hN' ha hI hn) (ll_k8 hN' ha hI hn) (ll_k9 hN' ha hI hn) (ll_k10 hN' ha hI hn) (ll_k11 hN' ha hI hn) (ll_k12 hN' ha hI hn) (ll_k13 hN' ha hI hn) (ll_k14 hN' ha hI hn) (ll_k15 hN' ha hI hn) (ll_k16 hN' ha hI hn) (ll_k17 hN' ha hI hn)
