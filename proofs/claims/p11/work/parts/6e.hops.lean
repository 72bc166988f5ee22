/-! ===== hops, where the bits are known ===== -/
def wh_es (C : ab_C) (n : Nat) : List ab_E := [(0, 0, [], (0, C.1 ++ ab_5s n, [], C.2.1, w_g0))]
/-- hopAt: the number of the hop is cut -/
def wh_ks (n t b : Nat) : Nat → List ab_E
  | 0 => []
  | k + 1 => (0, 0, [], (0, [(1, 112, 0), w_e n, w_e t, w_e k, w_5, w_5], [], wh_f n t b, w_g0)) :: wh_ks n t b k
def wh_cs : Nat → List Nat → List Nat
  | 0, l => l
  | k + 1, l => wh_cs k (Nat.add 2147483649 k :: l)
def wh_ea (n t b : Nat) : List ab_E := (1, 3, wh_cs (Nat.sub (wh_p b) 1) [], (0, [(1, 112, 0), w_e n, w_e t, w_r 0 (Nat.sub (wh_p b) 1), w_5, w_5], [], wh_f n t b, w_g0)) :: wh_ks n t b (wh_p b)
def wh_u (mc j : Nat) (C : ab_C) (cut : Nat) (es : List ab_E) : Bool := ab_unit w_kd w_un w_uq (w_G mc) am_cmp wk_tls am_cx wk_ms (w_Ct mc) (w_cr mc) j C 0x190000000000000000000000000000000000000000000000000000000000000000000000000000000000000000000000000000000000000000000000000000000000000000000000000000000000000000000000000000000000000000000000000000000000000000000000000000000000000000000000000000000000000000000000000000000400000000000000000000000000000000000000000000000000000000000000000000000000000000 0 [] cut es
def wh_n (mc n t : Nat) : Bool := (wh_c n).all fun b => wh_u mc 69 (wh_ct n t b) 0 (wh_es (wh_ct n t b) 0) && ([0, 1, 2, 3, 4, 5].all fun k => wh_u mc 70 (wh_is n t b k) 0 (wh_es (wh_is n t b k) 0)) && (Nat.beq b 0 || wh_u mc 68 (wh_at n t b) 1 (wh_ea n t b))
