/-! ===== the abstract machine makes no fewer cells as it goes on ===== -/
def am_le (k q : Nat) : am_X → Prop
  | .inl S => k ≤ S.2.2.2.2.1 ∧ q ≤ S.2.2.2.2.2
  | .inr (.inl r) => k ≤ r.2.2.1 ∧ q ≤ r.2.2.2
  | .inr (.inr c) => c.2.2.2.2.2.2.1 = k ∧ c.2.2.2.2.2.2.2 = q
theorem am_ask_le {kf : am_K} {rc pc k q : Nat} {lo : List (Option Value)} {st : List Value} {h : am_H} {X : am_X} (he : am_ask kf rc pc lo st h k q = some X) : am_le k q X := by
  unfold am_ask at he
  dsimp only at he
  repeat' (split at he)
  all_goals (first | (cases he; done) | (cases he; exact ⟨rfl, rfl⟩))
theorem am_thr_le {lk : Nat → Nat → Option am_K} {mi : am_M} {kf : am_K} {pc k q : Nat} {st : List Value} {h : am_H} {X : am_X} (he : am_thr lk mi kf pc st h k q = some X) : am_le k q X := by
  unfold am_thr at he
  repeat' (split at he)
  all_goals (first | (cases he; done) | (cases he; exact ⟨Nat.le_succ k, Nat.le_add_right q 6⟩))
set_option maxHeartbeats 4000000 in
set_option maxRecDepth 100000 in
theorem am_exec_le {fty : Nat → Nat → Option FieldType} {dfl : Nat → Option (List Value)} {cmp : Nat → Option (Option Nat)} {lk : Nat → Nat → Option am_K} {xs : am_O} {mi : am_M} {i : Instr} {n pc k q : Nat} {lo : List (Option Value)} {st : List Value} {h : am_H} {X : am_X} (he : am_exec fty dfl cmp lk xs mi i n pc lo st h k q = some X) : am_le k q X := by
  have go : ∀ (S : am_S), S.2.2.2.2.1 = k → S.2.2.2.2.2 = q → am_go S = some X → am_le k q X := by
    intro S h1 h2 h3
    cases h3
    exact ⟨by rw [h1]; exact Nat.le_refl _, by rw [h2]; exact Nat.le_refl _⟩
  have cpy : am_cpyi mi pc lo st h k q = some X → am_le k q X := by
    intro h1
    unfold am_cpyi at h1
    repeat' (split at h1)
    all_goals (first | (cases h1; done) | exact go _ rfl rfl h1)
  have bin : ∀ f, am_bin n f pc lo st h k q = some X → am_le k q X := by
    intro f h1
    obtain ⟨-, x, y, z, r, -, -, rfl⟩ := am_bin_inv h1
    exact ⟨Nat.le_refl _, Nat.le_refl _⟩
  have lod : ∀ j len re, am_lod n j len re pc lo st h k q = some X → am_le k q X := by
    intro j len re h1
    obtain ⟨-, v, -, rfl, -⟩ := am_lod_inv h1
    exact ⟨Nat.le_refl _, Nat.le_refl _⟩
  have sto : ∀ j len re, am_sto n j len re pc lo st h k q = some X → am_le k q X := by
    intro j len re h1
    obtain ⟨-, -, v, r, -, rfl, -⟩ := am_sto_inv h1
    exact ⟨Nat.le_refl _, Nat.le_refl _⟩
  have new : ∀ t dv len, am_new n t dv len pc lo st h k q = some X → am_le k q X := by
    intro t dv len h1
    obtain ⟨-, x, r, -, -, -, rfl⟩ := am_new_inv h1
    exact ⟨Nat.le_succ k, Nat.le_add_right q _⟩
  have to' : ∀ off st', am_to pc off lo st' h k q = some X → am_le k q X := by
    intro off st' h1
    obtain ⟨t, -, rfl⟩ := am_to_inv h1
    exact ⟨Nat.le_refl _, Nat.le_refl _⟩
  have br : ∀ t off st', am_br t pc off lo st' h k q = some X → am_le k q X := by
    intro t off st' h1
    obtain ⟨t, -, rfl⟩ := am_br_inv h1
    exact ⟨Nat.le_refl _, Nat.le_refl _⟩
  have getf : ∀ kf, am_getf kf pc lo st h k q = some X → am_le k q X := by
    intro kf h1
    unfold am_getf at h1
    repeat' (split at h1)
    all_goals (first | (cases h1; done) | (cases h1; exact ⟨Nat.le_refl _, Nat.le_refl _⟩))
  have putf : ∀ kf, am_putf fty (am_y mi).name kf pc lo st h k q = some X → am_le k q X := by
    intro kf h1
    unfold am_putf at h1
    repeat' (split at h1)
    all_goals (first | (cases h1; done) | (cases h1; exact ⟨Nat.le_refl _, Nat.le_refl _⟩))
  cases i
  case iload j => exact lod _ _ _ he
  case iload_n j => exact lod _ _ _ he
  case aload j => exact lod _ _ _ he
  case aload_n j => exact lod _ _ _ he
  case istore j => exact sto _ _ _ he
  case istore_n j => exact sto _ _ _ he
  case astore j => exact sto _ _ _ he
  case astore_n j => exact sto _ _ _ he
  case iadd => simp only [am_exec] at he; exact bin _ he
  case isub => simp only [am_exec] at he; exact bin _ he
  case imul => simp only [am_exec] at he; exact bin _ he
  case iand =>
    simp only [am_exec] at he
    obtain ⟨-, y, z, v, r, -, hS, -⟩ := am_and_inv he
    cases hS
    exact ⟨Nat.le_refl _, Nat.le_refl _⟩
  case ior => simp only [am_exec] at he; exact bin _ he
  case idiv => simp only [am_exec] at he; exact bin _ he
  case irem => simp only [am_exec] at he; exact bin _ he
  case ishl => simp only [am_exec] at he; exact bin _ he
  case ishr => simp only [am_exec] at he; exact bin _ he
  case iushr => simp only [am_exec] at he; exact bin _ he
  case newarray ty =>
    cases ty
    case int => exact new _ _ _ he
    case boolean => exact new _ _ _ he
    case long => exact new _ _ _ he
    all_goals exact nomatch (show (none : Option am_X) = some X from he)
  all_goals (first | exact nomatch (show (none : Option am_X) = some X from he) | simp only [am_exec] at he)
  all_goals (repeat' (split at he))
  all_goals (first | (cases he; done) | exact go _ rfl rfl he | exact to' _ _ he | exact br _ _ _ he | exact getf _ he | exact putf _ he | exact new _ _ _ he | exact am_ask_le he | exact cpy he | exact am_thr_le he | (cases he; exact ⟨Nat.le_refl _, Nat.le_refl _⟩) | (cases he; exact ⟨Nat.le_add_right _ _, Nat.le_add_right _ _⟩))
