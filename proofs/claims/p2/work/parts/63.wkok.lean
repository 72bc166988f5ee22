/-! ===== what the word says is what the instruction does ===== -/
section WKO
variable {fty : Nat → Nat → Option FieldType} {dfl : Nat → Option (List Value)} {cmp : Nat → Option (Option Nat)} {lk : Nat → Nat → Option am_K} {mi : am_M} {xs : am_O} {tls : Nat → List Nat} {a b c d pc k q : Nat} {lo : List (Option Value)} {st : List Value} {h : am_H} {X : am_X}
theorem wk_ask {kk : am_K} (ha : a = kk.2.1) (hb : b = kk.2.2.1) (hd : c = 2 → kk.2.2.2 = (d : Int)) (hc : c = 0 ∨ c = 1 ∨ c = 2) (h0 : am_ask (0, a, b, (d : Int)) c pc lo st h k q = some X) : am_ask kk c pc lo st h k q = some X := by
  subst ha hb
  unfold am_ask at h0 ⊢
  dsimp only at h0 ⊢
  split at h0
  · rename_i hl
    rw [if_pos hl]
    rcases hc with rfl | rfl | rfl
    · exact h0
    · exact h0
    · rw [hd rfl]
      exact h0
  · cases h0
set_option maxHeartbeats 4000000 in
theorem wk_ok {i : Instr} {n op : Nat} (hck : wk_ck fty lk tls mi pc i n op a b c d = true) (h0 : wk_ex tls cmp op a b c d pc lo st h k q = some X) : am_exec fty dfl cmp lk xs mi i n pc lo st h k q = some X := by
  cases i
  case iconst z =>
    obtain ⟨rfl, rfl, rfl, e⟩ := of_decide_eq_true hck
    simp only [wk_ex] at h0
    rw [e] at h0
    simp only [am_exec]
    rw [if_pos trivial]
    exact h0
  case bipush z =>
    obtain ⟨rfl, rfl, rfl, e⟩ := of_decide_eq_true hck
    simp only [wk_ex] at h0
    rw [e] at h0
    simp only [am_exec]
    rw [if_pos trivial]
    exact h0
  case sipush z =>
    obtain ⟨rfl, rfl, rfl, e⟩ := of_decide_eq_true hck
    simp only [wk_ex] at h0
    rw [e] at h0
    simp only [am_exec]
    rw [if_pos trivial]
    exact h0
  case ldc ix =>
    simp only [wk_ck] at hck
    split at hck
    · rename_i kk hl
      obtain ⟨rfl, rfl, rfl, h12, e⟩ := of_decide_eq_true hck
      simp only [wk_ex] at h0
      rw [e] at h0
      simp only [am_exec]
      rw [if_pos trivial, hl]
      try dsimp only
      rw [if_pos h12]
      exact h0
    · cases hck
  case ldc_w ix =>
    simp only [wk_ck] at hck
    split at hck
    · rename_i kk hl
      obtain ⟨rfl, rfl, rfl, h12, e⟩ := of_decide_eq_true hck
      simp only [wk_ex] at h0
      rw [e] at h0
      simp only [am_exec]
      rw [if_pos trivial, hl]
      try dsimp only
      rw [if_pos h12]
      exact h0
    · cases hck
  case iload j => obtain ⟨rfl, rfl, rfl, rfl⟩ := of_decide_eq_true hck; exact wk_lod h0
  case iload_n j => obtain ⟨rfl, rfl, rfl, rfl⟩ := of_decide_eq_true hck; exact wk_lod h0
  case aload j => obtain ⟨rfl, rfl, rfl, rfl⟩ := of_decide_eq_true hck; exact wk_lodr h0
  case aload_n j => obtain ⟨rfl, rfl, rfl, rfl⟩ := of_decide_eq_true hck; exact wk_lodr h0
  case istore j => obtain ⟨rfl, rfl, rfl, rfl⟩ := of_decide_eq_true hck; exact wk_sto h0
  case istore_n j => obtain ⟨rfl, rfl, rfl, rfl⟩ := of_decide_eq_true hck; exact wk_sto h0
  case astore j => obtain ⟨rfl, rfl, rfl, rfl⟩ := of_decide_eq_true hck; exact wk_stor h0
  case astore_n j => obtain ⟨rfl, rfl, rfl, rfl⟩ := of_decide_eq_true hck; exact wk_stor h0
  case iinc j z =>
    obtain ⟨rfl, rfl, rfl, e⟩ := of_decide_eq_true hck
    simp only [wk_ex] at h0
    simp only [am_exec]
    rw [if_pos trivial]
    split at h0
    · rename_i x hx
      first | rw [hx, e] | rw [e]
      exact h0
    · cases h0
  case iadd => obtain ⟨rfl, rfl⟩ := of_decide_eq_true hck; exact h0
  case isub => obtain ⟨rfl, rfl⟩ := of_decide_eq_true hck; exact h0
  case imul => obtain ⟨rfl, rfl⟩ := of_decide_eq_true hck; exact h0
  case ior => obtain ⟨rfl, rfl⟩ := of_decide_eq_true hck; exact h0
  case idiv => obtain ⟨rfl, rfl⟩ := of_decide_eq_true hck; exact h0
  case irem => obtain ⟨rfl, rfl⟩ := of_decide_eq_true hck; exact h0
  case ishl => obtain ⟨rfl, rfl⟩ := of_decide_eq_true hck; exact h0
  case ishr => obtain ⟨rfl, rfl⟩ := of_decide_eq_true hck; exact h0
  case iushr => obtain ⟨rfl, rfl⟩ := of_decide_eq_true hck; exact h0
  case iand => obtain ⟨rfl, rfl⟩ := of_decide_eq_true hck; exact wk_and h0
  case i2l =>
    obtain ⟨rfl, rfl⟩ := of_decide_eq_true hck
    simp only [am_exec]
    rw [if_pos trivial]
    simp only [wk_ex] at h0
    split at h0
    · exact h0
    · cases h0
  case dup =>
    obtain ⟨rfl, rfl⟩ := of_decide_eq_true hck
    simp only [am_exec]
    rw [if_pos trivial]
    exact h0
  case dup2 =>
    obtain ⟨rfl, rfl⟩ := of_decide_eq_true hck
    simp only [am_exec]
    rw [if_pos trivial]
    exact h0
  case pop =>
    obtain ⟨rfl, rfl⟩ := of_decide_eq_true hck
    simp only [am_exec]
    rw [if_pos trivial]
    exact h0
  case goto off =>
    obtain ⟨rfl, rfl, ht⟩ := of_decide_eq_true hck
    simp only [am_exec]
    rw [if_pos trivial]
    unfold am_to
    rw [ht]
    exact h0
  case ifCond cd off =>
    obtain ⟨rfl, rfl, rfl, ht⟩ := of_decide_eq_true hck
    simp only [am_exec]
    rw [if_pos trivial]
    simp only [wk_ex] at h0
    split at h0
    · rename_i x r
      show am_br (am_cnd cd x 0) pc off lo r h k q = some X
      rw [wk_br ht, ← wk_c_eq]
      exact h0
    · cases h0
  case if_icmp cd off =>
    obtain ⟨rfl, rfl, rfl, ht⟩ := of_decide_eq_true hck
    simp only [am_exec]
    rw [if_pos trivial]
    simp only [wk_ex] at h0
    split at h0
    · rename_i y x r
      show am_br (am_cnd cd x y) pc off lo r h k q = some X
      rw [wk_br ht, ← wk_c_eq]
      exact h0
    · cases h0
  case tableswitch dd l hi offs =>
    obtain ⟨rfl, rfl, hhi, hd, hts⟩ := of_decide_eq_true hck
    simp only [wk_ex] at h0
    split at h0
    · rename_i x r
      rw [wk_tsw hhi hd hts]
      exact h0
    · cases h0
  case lookupswitch dd ps =>
    obtain ⟨rfl, hd, hps⟩ := of_decide_eq_true hck
    simp only [wk_ex] at h0
    split at h0
    · rename_i x r
      rw [wk_lsw hd hps]
      exact h0
    · cases h0
  case getfield ix =>
    simp only [wk_ck] at hck
    split at hck
    · rename_i kk hl
      obtain ⟨rfl, rfl, h4, rfl, rfl⟩ := of_decide_eq_true hck
      simp only [am_exec]
      rw [if_pos trivial, hl]
      try dsimp only
      unfold am_getf
      rw [if_pos h4]
      exact h0
    · cases hck
  case putfield ix =>
    simp only [wk_ck] at hck
    split at hck
    · rename_i kk hl
      obtain ⟨hc1, hc2⟩ := Bool.and_eq_true_iff.mp hck
      obtain ⟨rfl, rfl, h4, rfl, rfl⟩ := of_decide_eq_true hc1
      simp only [am_exec]
      rw [if_pos trivial, hl]
      try dsimp only
      unfold am_putf
      rw [if_pos h4]
      simp only [wk_ex] at h0
      split at h0
      · rename_i v x r
        split at h0
        · rename_i vs hvs
          split at h0
          · rename_i hf
            try dsimp only
            cases hty : fty kk.2.1 kk.2.2.1 with
            | none => rw [hty] at hc2; cases hc2
            | some ty =>
              rw [hty] at hc2
              rw [hvs]
              try dsimp only
              rw [if_pos ⟨hf.1, wk_fit_ok hc2 hf.2⟩]
              exact h0
          · cases h0
        · cases h0
      · cases h0
    · cases hck
  case iaload =>
    obtain ⟨rfl, rfl⟩ := of_decide_eq_true hck
    simp only [am_exec]
    rw [if_pos trivial]
    simp only [wk_ex] at h0
    split at h0
    · exact h0
    · cases h0
  case baload =>
    obtain ⟨rfl, rfl⟩ := of_decide_eq_true hck
    simp only [am_exec]
    rw [if_pos trivial]
    exact h0
  case aaload =>
    obtain ⟨rfl, rfl⟩ := of_decide_eq_true hck
    simp only [am_exec]
    rw [if_pos trivial]
    simp only [wk_ex] at h0
    split at h0
    · rename_i i x r
      split at h0
      · rename_i e he
        try dsimp only
        try rw [he]
        try dsimp only
        split at h0
        · rename_i hc
          rw [if_pos hc]
          split at h0
          · rename_i y hy
            rw [hy]
            exact h0
          · cases h0
        · cases h0
      · cases h0
    · cases h0
  case iastore =>
    obtain ⟨rfl, rfl⟩ := of_decide_eq_true hck
    simp only [am_exec]
    rw [if_pos trivial]
    exact h0
  case bastore =>
    obtain ⟨rfl, rfl⟩ := of_decide_eq_true hck
    simp only [am_exec]
    rw [if_pos trivial]
    exact h0
  case lastore =>
    obtain ⟨rfl, rfl⟩ := of_decide_eq_true hck
    simp only [am_exec]
    rw [if_pos trivial]
    exact h0
  case aastore =>
    obtain ⟨rfl, rfl⟩ := of_decide_eq_true hck
    simp only [am_exec]
    rw [if_pos trivial]
    exact h0
  case arraylength =>
    obtain ⟨rfl, rfl⟩ := of_decide_eq_true hck
    simp only [am_exec]
    rw [if_pos trivial]
    simp only [wk_ex] at h0
    split at h0
    · exact h0
    · cases h0
  case new ix =>
    simp only [wk_ck] at hck
    split at hck
    · rename_i kk hl
      obtain ⟨rfl, rfl, h13, hh, rfl, hT⟩ := of_decide_eq_true hck
      simp only [wk_ex] at h0
      split at h0
      · rename_i hs
        rw [wk_thr hl h13 (List.eq_nil_of_length_eq_zero hh) hT hs]
        exact h0
      · cases h0
    · cases hck
  case invokevirtual ix =>
    simp only [wk_ck] at hck
    split at hck
    · rename_i kk hl
      obtain ⟨rfl, rfl, hk, ha, hb, rfl, hd⟩ := of_decide_eq_true hck
      simp only [am_exec]
      rw [if_pos trivial, hl]
      try dsimp only
      rw [if_pos hk]
      exact wk_ask ha hb (fun _ => hd) (Or.inr (Or.inr rfl)) h0
    · cases hck
  case invokestatic ix =>
    simp only [wk_ck] at hck
    split at hck
    · rename_i kk hl
      simp only [am_exec]
      rw [hl]
      cases h40 : Nat.beq op 40 with
      | true =>
        rw [h40] at hck
        have h40 := Nat.eq_of_beq_eq_true h40
        subst h40
        obtain ⟨rfl, hk, ha, hb, rfl⟩ := of_decide_eq_true hck
        rw [if_pos rfl]
        try dsimp only
        rw [if_pos hk]
        exact wk_ask ha hb (fun h => nomatch h) (Or.inl rfl) h0
      | false =>
        rw [h40] at hck
        cases h41 : Nat.beq op 41 with
        | true =>
          rw [h41] at hck
          have h41 := Nat.eq_of_beq_eq_true h41
          subst h41
          obtain ⟨rfl, hk, h1, h2⟩ := of_decide_eq_true hck
          rw [if_pos rfl]
          try dsimp only
          rw [if_neg (by omega), if_pos (Or.inl hk)]
          simp only [wk_ex] at h0
          split at h0
          · rename_i y x r
            split at h0
            · rename_i hr
              try dsimp only
              rw [if_pos ⟨h1, by omega⟩, if_pos hk]
              exact h0
            · cases h0
          · cases h0
        | false =>
          rw [h41] at hck
          cases h42 : Nat.beq op 42 with
          | true =>
            rw [h42] at hck
            have h42 := Nat.eq_of_beq_eq_true h42
            subst h42
            obtain ⟨rfl, hk, h1, h2⟩ := of_decide_eq_true hck
            rw [if_pos rfl]
            try dsimp only
            rw [if_neg (by omega), if_pos (Or.inr hk)]
            simp only [wk_ex] at h0
            split at h0
            · rename_i y x r
              split at h0
              · rename_i hr
                try dsimp only
                rw [if_pos ⟨h1, by omega⟩, if_neg (by omega)]
                exact h0
              · cases h0
            · cases h0
          | false =>
            rw [h42] at hck
            obtain ⟨rfl, rfl, hk, h1, h2⟩ := of_decide_eq_true hck
            rw [if_pos rfl]
            try dsimp only
            rw [if_neg (by omega), if_neg (by omega), if_pos hk]
            simp only [wk_ex] at h0
            unfold am_cpyi
            split at h0
            · rename_i n dp y sp x r
              split at h0
              · rename_i hr
                try dsimp only
                rw [if_pos ⟨h1, by omega⟩]
                exact h0
              · cases h0
            · cases h0
    · cases hck
  case invokespecial ix =>
    simp only [wk_ck] at hck
    split at hck
    · rename_i kk hl
      obtain ⟨rfl, rfl, hk, ha, hb, rfl⟩ := of_decide_eq_true hck
      simp only [am_exec]
      rw [if_pos trivial, hl]
      try dsimp only
      rw [if_pos hk]
      exact wk_ask ha hb (fun h => nomatch h) (Or.inr (Or.inl rfl)) h0
    · cases hck
  case ireturn =>
    obtain ⟨rfl, rfl, hr⟩ := of_decide_eq_true hck
    simp only [am_exec]
    rw [if_pos trivial]
    simp only [wk_ex] at h0
    split at h0
    · rename_i x
      split at h0
      · rename_i hx
        try dsimp only
        rw [if_pos ?_]
        · exact h0
        · rcases hr with ⟨rfl, hr⟩ | ⟨rfl, hr⟩
          · exact Or.inl hr
          · exact Or.inr ⟨hr, hx.resolve_left (by decide)⟩
      · cases h0
    · cases h0
  case areturn =>
    simp only [wk_ck] at hck
    split at hck
    · rename_i C hr
      obtain ⟨rfl, rfl⟩ := of_decide_eq_true hck
      simp only [am_exec]
      rw [if_pos trivial]
      simp only [wk_ex] at h0
      split at h0
      · rw [hr]
        exact h0
      · cases h0
    · cases hck
  case return_ =>
    obtain ⟨rfl, rfl, hr⟩ := of_decide_eq_true hck
    simp only [am_exec]
    rw [if_pos trivial]
    simp only [wk_ex] at h0
    split at h0
    · try dsimp only
      rw [if_pos hr]
      exact h0
    · cases h0
  all_goals (exact nomatch (show false = true from hck))
end WKO
