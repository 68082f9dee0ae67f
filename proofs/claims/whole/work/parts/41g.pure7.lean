/-! ===== lawful pairs ===== -/
theorem cU2_succ {P : Nat → Nat → Bool} {n : Nat} : ∀ a, cU2 P (n + 1) a = cU2 P n a + cU (fun i => decide (i < n) && P i n) a
  | 0 => rfl
  | a + 1 => by
    rw [cU2, cU2, cU2_succ a, cU, cU]
    omega
theorem lp_pm {B S : Nat → Nat} {P : Nat → Nat → Bool} : ∀ n, (∀ a b, a < n → b < n → P a b = isL B S a b) → cU2 P n n = lpM B S n
  | 0, _ => rfl
  | n + 1, h => by
    have ih := lp_pm (B := B) (S := S) (P := P) n (fun a b ha hb => h a b (by omega) (by omega))
    have e0 : cU (fun b => decide (n < b) && P n b) (n + 1) = 0 := cU_none (fun j hj => by
      show (decide (n < j) && P n j) = false
      rw [decide_eq_false (by omega), Bool.false_and])
    have e1 : cU (fun i => decide (i < n) && P i n) n = cU (fun b => isL B S n b) n := cU_congr n (fun j hj => by
      show (decide (j < n) && P j n) = isL B S n j
      rw [decide_eq_true hj, Bool.true_and, h j n (by omega) (by omega), isL_comm])
    rw [cU2, e0, cU2_succ, ih, e1, lpM]
    rfl
