/-! ===== more fuel, and known ints ===== -/
section AMMO
variable {fty : Nat → Nat → Option FieldType} {dfl : Nat → Option (List Value)} {cmp : Nat → Option (Option Nat)} {lk : Nat → Nat → Option am_K} {ms : Nat → Option am_M} {cx : Nat → Option Nat}
theorem am_mono1 : ∀ (f : Nat) (xs : am_O) (mi : am_M) (S : am_S) (r : am_R), am_run fty dfl cmp lk ms cx xs f mi S = some r → am_run fty dfl cmp lk ms cx xs (f + 1) mi S = some r
  | 0, _, _, _, _, h => by cases h
  | f + 1, xs, mi, S, r, h => by
    unfold am_run at h ⊢
    split at h
    · cases h
    · rename_i S' hs
      try rw [hs]
      exact am_mono1 f xs mi S' r h
    · rename_i r' hs
      try rw [hs]
      exact h
    · rename_i j as pc lo st h0 k q hs
      try rw [hs]
      try dsimp only
      split at h
      · cases h
      · rename_i mj hmj
        try rw [hmj]
        try dsimp only
        split at h
        · rename_i hroom
          try rw [if_pos hroom]
          split at h
          · rename_i v h' k' q' hr
            rw [am_mono1 f _ _ _ _ hr]
            exact am_mono1 f _ _ _ _ h
          · rename_i x h' k' q' hr
            rw [am_mono1 f _ _ _ _ hr]
            try dsimp only
            split at h
            · rename_i ix n hin
              try rw [hin]
              try dsimp only
              split at h
              · rename_i kk c hl hx
                try rw [hl, hx]
                try dsimp only
                split at h
                · rename_i h20
                  try rw [if_pos h20]
                  split at h
                  · rename_i t ht
                    try rw [ht]
                    exact am_mono1 f _ _ _ _ h
                  · cases h
                · cases h
              · cases h
            · cases h
          · cases h
        · cases h
theorem am_mono {f g : Nat} {xs : am_O} {mi : am_M} {S : am_S} {r : am_R} (h : am_run fty dfl cmp lk ms cx xs f mi S = some r) (hg : f ≤ g) : am_run fty dfl cmp lk ms cx xs g mi S = some r := by
  obtain ⟨d, rfl⟩ := Nat.le.dest hg
  induction d with
  | zero => exact h
  | succ d ih => exact am_mono1 _ _ _ _ _ (ih (Nat.le_add_right _ _))
/-- nothing is known of the script -/
abbrev am_o0 : am_O := (none, [], [], [])
theorem am_cv_om {os : List (ClassFile.Cond × Nat × Int32 × Bool)} {c : ClassFile.Cond} {v : Value} {y : Int32} {t : Bool} (h : am_cv [] c v y = some t) : am_cv os c v y = some t := by
  unfold am_cv at h ⊢
  split at h
  · exact h
  · cases h
  · cases h
theorem am_exec_om {xs : am_O} {mi : am_M} {i : Instr} {n pc k q : Nat} {lo : List (Option Value)} {st : List Value} {hh : am_H} {X : am_X} (h : am_exec fty dfl cmp lk am_o0 mi i n pc lo st hh k q = some X) : am_exec fty dfl cmp lk xs mi i n pc lo st hh k q = some X := by
  cases i
  case iand =>
    simp only [am_exec, am_and] at h ⊢
    split at h
    · rename_i hn
      rw [if_pos hn]
      split at h
      · exact h
      · split at h
        · rename_i hz
          cases hz
        · cases h
      · cases h
    · cases h
  case ifCond c off =>
    simp only [am_exec] at h ⊢
    split at h
    · rename_i hn
      rw [if_pos hn]
      split at h
      · split at h
        · rename_i ht
          rw [am_cv_om ht]
          exact h
        · cases h
      · cases h
    · cases h
  case if_icmp c off =>
    simp only [am_exec] at h ⊢
    split at h
    · rename_i hn
      rw [if_pos hn]
      split at h
      · split at h
        · rename_i ht
          rw [am_cv_om ht]
          exact h
        · cases h
      · cases h
    · cases h
  case iaload =>
    simp only [am_exec] at h ⊢
    split at h
    · rename_i hn
      rw [if_pos hn]
      split at h
      · exact h
      · cases h
      · cases h
    · cases h
  case arraylength =>
    simp only [am_exec] at h ⊢
    split at h
    · rename_i hn
      rw [if_pos hn]
      split at h
      · exact h
      · cases h
      · cases h
    · cases h
  case newarray ty => cases ty <;> exact h
  all_goals exact h
theorem am_step_om {xs : am_O} {mi : am_M} {S : am_S} {X : am_X} (h : am_step fty dfl cmp lk am_o0 mi S = some X) : am_step fty dfl cmp lk xs mi S = some X := by
  unfold am_step at h ⊢
  split at h
  · exact am_exec_om h
  · cases h
theorem am_run_om : ∀ (f : Nat) (xs : am_O) (mi : am_M) (S : am_S) (r : am_R), am_run fty dfl cmp lk ms cx am_o0 f mi S = some r → am_run fty dfl cmp lk ms cx xs f mi S = some r
  | 0, _, _, _, _, h => by cases h
  | f + 1, xs, mi, S, r, h => by
    unfold am_run at h ⊢
    split at h
    · cases h
    · rename_i S' hs
      rw [am_step_om hs]
      exact am_run_om f xs mi S' r h
    · rename_i r' hs
      rw [am_step_om hs]
      exact h
    · rename_i j as pc lo st h0 k q hs
      rw [am_step_om hs]
      try dsimp only
      split at h
      · cases h
      · rename_i mj hmj
        try rw [hmj]
        try dsimp only
        split at h
        · rename_i hroom
          try rw [if_pos hroom]
          split at h
          · rename_i v h' k' q' hr
            rw [am_run_om f (none, xs.2) _ _ _ hr]
            exact am_run_om f _ _ _ _ h
          · rename_i x h' k' q' hr
            rw [am_run_om f (none, xs.2) _ _ _ hr]
            try dsimp only
            split at h
            · rename_i ix n hin
              try rw [hin]
              try dsimp only
              split at h
              · rename_i kk c hl hx
                try rw [hl, hx]
                try dsimp only
                split at h
                · rename_i h20
                  try rw [if_pos h20]
                  split at h
                  · rename_i t ht
                    try rw [ht]
                    exact am_run_om f _ _ _ _ h
                  · cases h
                · cases h
              · cases h
            · cases h
          · cases h
        · cases h
end AMMO
