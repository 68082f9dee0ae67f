/-! ===== counting under an exclusive or ===== -/
theorem cU_add {P : Nat → Bool} {a : Nat} : ∀ n, cU P (a + n) = cU P a + cU (fun s => P (a + s)) n
  | 0 => rfl
  | n + 1 => by rw [← Nat.add_assoc, cU, cU, cU_add n]; omega
theorem add_xor {n t m : Nat} (ht : t < 2 ^ n) (hm : m < 2 ^ n) : (2 ^ n + t) ^^^ m = 2 ^ n + (t ^^^ m) := by
  have hx : t ^^^ m < 2 ^ n := Nat.xor_lt_two_pow ht hm
  have e1 : 2 ^ n + t = 2 ^ n * 1 + t := by rw [Nat.mul_one]
  have e2 : 2 ^ n + (t ^^^ m) = 2 ^ n * 1 + (t ^^^ m) := by rw [Nat.mul_one]
  apply Nat.eq_of_testBit_eq
  intro i
  rw [e1, e2, Nat.testBit_xor, Nat.testBit_two_pow_mul_add _ ht, Nat.testBit_two_pow_mul_add _ hx]
  by_cases h : i < n
  · rw [if_pos h, if_pos h, Nat.testBit_xor]
  · rw [if_neg h, if_neg h, Nat.testBit_lt_two_pow (Nat.lt_of_lt_of_le hm (Nat.pow_le_pow_right (by omega) (by omega))), Bool.xor_false]
theorem cU_xor : ∀ (n m : Nat) (P : Nat → Bool), m < 2 ^ n → cU (fun s => P (s ^^^ m)) (2 ^ n) = cU P (2 ^ n)
  | 0, m, P, h => by
    have h : m = 0 := by rw [Nat.pow_zero] at h; omega
    subst h
    exact cU_congr _ (fun j _ => by rw [Nat.xor_zero])
  | n + 1, m, P, h => by
    have e2 : 2 ^ (n + 1) = 2 ^ n + 2 ^ n := by rw [Nat.pow_succ]; omega
    rw [e2, cU_add, cU_add]
    by_cases hm : m < 2 ^ n
    · have l := cU_xor n m P hm
      have u := cU_xor n m (fun s => P (2 ^ n + s)) hm
      rw [l, ← u]
      congr 1
      exact cU_congr _ (fun j hj => by
        show P ((2 ^ n + j) ^^^ m) = P (2 ^ n + (j ^^^ m))
        rw [add_xor hj hm])
    · obtain ⟨q, hq⟩ : ∃ q, m = 2 ^ n + q := ⟨m - 2 ^ n, by omega⟩
      have hq2 : q < 2 ^ n := by omega
      have l := cU_xor n q P hq2
      have u := cU_xor n q (fun s => P (2 ^ n + s)) hq2
      have c1 : cU (fun s => P (s ^^^ m)) (2 ^ n) = cU (fun s => P (2 ^ n + s)) (2 ^ n) := by
        rw [← u]
        exact cU_congr _ (fun j hj => by
          show P (j ^^^ m) = P (2 ^ n + (j ^^^ q))
          rw [hq, Nat.xor_comm, add_xor hq2 hj, Nat.xor_comm q])
      have c2 : cU (fun s => P ((2 ^ n + s) ^^^ m)) (2 ^ n) = cU P (2 ^ n) := by
        rw [← l]
        exact cU_congr _ (fun j hj => by
          show P ((2 ^ n + j) ^^^ m) = P (j ^^^ q)
          have hjq : j ^^^ q < 2 ^ n := Nat.xor_lt_two_pow hj hq2
          rw [hq, Nat.xor_comm (2 ^ n + j), show (2 ^ n + q) ^^^ (2 ^ n + j) = q ^^^ j by
            apply Nat.eq_of_testBit_eq
            intro i
            rw [show 2 ^ n + q = 2 ^ n * 1 + q by rw [Nat.mul_one], show 2 ^ n + j = 2 ^ n * 1 + j by rw [Nat.mul_one], Nat.testBit_xor, Nat.testBit_two_pow_mul_add _ hq2, Nat.testBit_two_pow_mul_add _ hj, Nat.testBit_xor]
            by_cases hi : i < n
            · rw [if_pos hi, if_pos hi]
            · rw [if_neg hi, if_neg hi, Bool.xor_self, Nat.testBit_lt_two_pow (Nat.lt_of_lt_of_le hq2 (Nat.pow_le_pow_right (by omega) (by omega))), Nat.testBit_lt_two_pow (Nat.lt_of_lt_of_le hj (Nat.pow_le_pow_right (by omega) (by omega)))]
              rfl, Nat.xor_comm])
      rw [c1, c2]
      omega
