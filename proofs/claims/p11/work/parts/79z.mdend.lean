/-! ===== the reference: what is wanted of its methods holds ===== -/
theorem md_all {τ u : Nat → Nat} {tv mc : Nat} (hmc0 : mc ≠ 0) (hmc : mc < 9) (htv : 2147483648 ≤ tv ∧ tv ≤ 2147523647) (hU : ab_U w_uq τ u) (hut : ∀ k, w_uq k = true → τ (u k) = k) : ∀ j as C, C ∈ wg_Ct mc j as → md_Vd mc τ u tv j C := by
  match mc, hmc0, hmc with
  | 0, h, _ => exact absurd rfl h
  | 1, _, _ => exact ab_ind2 (fun j as C hC => wk_lt (fun hj => by have e : wg_Ct 1 j as = [] := wk_b146 hj; rw [e] at hC; cases hC)) (fun n ih => md_v1 htv hU hut n ih)
  | 2, _, _ => exact ab_ind2 (fun j as C hC => wk_lt (fun hj => by have e : wg_Ct 2 j as = [] := wk_b146 hj; rw [e] at hC; cases hC)) (fun n ih => md_v2 htv hU hut n ih)
  | 3, _, _ => exact ab_ind2 (fun j as C hC => wk_lt (fun hj => by have e : wg_Ct 3 j as = [] := wk_b146 hj; rw [e] at hC; cases hC)) (fun n ih => md_v3 htv hU hut n ih)
  | 4, _, _ => exact ab_ind2 (fun j as C hC => wk_lt (fun hj => by have e : wg_Ct 4 j as = [] := wk_b146 hj; rw [e] at hC; cases hC)) (fun n ih => md_v4 htv hU hut n ih)
  | 5, _, _ => exact ab_ind2 (fun j as C hC => wk_lt (fun hj => by have e : wg_Ct 5 j as = [] := wk_b146 hj; rw [e] at hC; cases hC)) (fun n ih => md_v5 htv hU hut n ih)
  | 6, _, _ => exact ab_ind2 (fun j as C hC => wk_lt (fun hj => by have e : wg_Ct 6 j as = [] := wk_b146 hj; rw [e] at hC; cases hC)) (fun n ih => md_v6 htv hU hut n ih)
  | 7, _, _ => exact ab_ind2 (fun j as C hC => wk_lt (fun hj => by have e : wg_Ct 7 j as = [] := wk_b146 hj; rw [e] at hC; cases hC)) (fun n ih => md_v7 htv hU hut n ih)
  | 8, _, _ => exact ab_ind2 (fun j as C hC => wk_lt (fun hj => by have e : wg_Ct 8 j as = [] := wk_b146 hj; rw [e] at hC; cases hC)) (fun n ih => md_v8 htv hU hut n ih)
