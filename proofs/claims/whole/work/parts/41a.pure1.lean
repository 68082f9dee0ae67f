/-! ===== what all think, in one number ===== -/
theorem bv6_and (a b : Nat) : BitVec.ofNat 64 (a &&& b) = BitVec.ofNat 64 a &&& BitVec.ofNat 64 b := by
  apply BitVec.eq_of_getLsbD_eq
  intro i hi
  simp [BitVec.getLsbD_ofNat, hi, Nat.testBit_and]
theorem bv6_or (a b : Nat) : BitVec.ofNat 64 (a ||| b) = BitVec.ofNat 64 a ||| BitVec.ofNat 64 b := by
  apply BitVec.eq_of_getLsbD_eq
  intro i hi
  simp [BitVec.getLsbD_ofNat, hi, Nat.testBit_or]
theorem bv6_xor (a b : Nat) : BitVec.ofNat 64 (a ^^^ b) = BitVec.ofNat 64 a ^^^ BitVec.ofNat 64 b := by
  apply BitVec.eq_of_getLsbD_eq
  intro i hi
  simp [BitVec.getLsbD_ofNat, hi, Nat.testBit_xor]
theorem nL_bv (n : Nat) : (nL n).toBitVec = BitVec.ofNat 64 n := rfl
theorem nL_and (a b : Nat) : nL a &&& nL b = nL (a &&& b) := by
  apply Int64.toBitVec_inj.mp
  rw [Int64.toBitVec_and, nL_bv, nL_bv, nL_bv, bv6_and]
theorem nL_or (a b : Nat) : nL a ||| nL b = nL (a ||| b) := by
  apply Int64.toBitVec_inj.mp
  rw [Int64.toBitVec_or, nL_bv, nL_bv, nL_bv, bv6_or]
theorem nL_xor (a b : Nat) : nL a ^^^ nL b = nL (a ^^^ b) := by
  apply Int64.toBitVec_inj.mp
  rw [Int64.toBitVec_xor, nL_bv, nL_bv, nL_bv, bv6_xor]
theorem nL_toInt {n : Nat} (h : n < 2 ^ 63) : (nL n).toInt = n := Int64.toInt_ofNat_of_lt h
theorem nL_shr {n : Nat} (h : n < 2 ^ 63) (s : Int64) (k : Nat) (hs : (s.toBitVec.smod 64).toNat = k) : nL n >>> s = nL (n / 2 ^ k) := by
  apply Int64.toInt_inj.mp
  have h2 : n / 2 ^ k ≤ n := Nat.div_le_self _ _
  have e : (nL n >>> s).toInt = (nL n).toInt >>> k := by
    show ((nL n).toBitVec.sshiftRight (s.toBitVec.smod 64).toNat).toInt = _
    rw [hs, BitVec.toInt_sshiftRight]
    rfl
  rw [e, nL_toInt h, nL_toInt (by omega), Int.shiftRight_eq_div_pow]
  rfl
theorem nL_shl {n : Nat} (s : Int64) (k : Nat) (hs : (s.toBitVec.smod 64).toNat = k) (h : n * 2 ^ k < 2 ^ 64) : nL n <<< s = nL (n * 2 ^ k) := by
  apply Int64.toBitVec_inj.mp
  show (nL n).toBitVec <<< (s.toBitVec.smod 64).toNat = _
  rw [hs]
  apply BitVec.eq_of_toNat_eq
  have hn : n < 2 ^ 64 := Nat.lt_of_le_of_lt (Nat.le_mul_of_pos_right n (Nat.two_pow_pos k)) h
  rw [BitVec.toNat_shiftLeft, Nat.shiftLeft_eq, nL_bv, nL_bv, BitVec.toNat_ofNat, BitVec.toNat_ofNat, Nat.mod_eq_of_lt hn]
theorem nI_L {n : Nat} (h : n < 2 ^ 31) : (nI n).toInt64 = nL n := by
  apply Int64.toInt_inj.mp
  rw [Int32.toInt_toInt64, nI_toInt h, nL_toInt (by omega)]
def pkR (S : Nat → Nat) : Nat → Nat
  | 0 => 0
  | k + 1 => 2 ^ (10 * k) * S k + pkR S k
theorem pkR_lt {S : Nat → Nat} (hS : SOK S) : ∀ k, k ≤ 6 → pkR S k < 2 ^ (10 * k)
  | 0, _ => by rw [pkR]; exact Nat.two_pow_pos _
  | k + 1, hk => by
    have ih := pkR_lt hS k (by omega)
    have h1 := hS k (by omega)
    have h2 : 2 ^ (10 * k) * S k ≤ 2 ^ (10 * k) * 1023 := Nat.mul_le_mul_left _ (by omega)
    have h3 : 2 ^ (10 * (k + 1)) = 2 ^ (10 * k) * 1024 := by rw [show 10 * (k + 1) = 10 * k + 10 by omega, Nat.pow_add]
    rw [pkR, h3]
    omega
theorem pkR_tb {S : Nat → Nat} (hS : SOK S) (j : Nat) : ∀ k, k ≤ 6 → (pkR S k).testBit j = (decide (j < 10 * k) && (S (j / 10)).testBit (j % 10))
  | 0, _ => by rw [pkR, Nat.zero_testBit, decide_eq_false (by omega), Bool.false_and]
  | k + 1, hk => by
    have ih := pkR_tb hS j k (by omega)
    have hl := pkR_lt hS k (by omega)
    rw [pkR, Nat.testBit_two_pow_mul_add _ hl]
    by_cases h : j < 10 * k
    · rw [if_pos h, ih, decide_eq_true h, decide_eq_true (show j < 10 * (k + 1) by omega)]
    · rw [if_neg h]
      by_cases h2 : j < 10 * (k + 1)
      · rw [decide_eq_true h2, Bool.true_and, show j / 10 = k by omega, show j - 10 * k = j % 10 by omega]
      · rw [decide_eq_false h2, Bool.false_and]
        exact tb_small (hS k (by omega)) (by omega)
def pm (S : Nat → Nat) : Int64 := nL (pkR S 6)
theorem sh10 : ∀ p, p < 6 → (((10 * nI p).toInt64 &&& 63).toBitVec.smod 64).toNat = 10 * p := by decide
theorem mo_pm {S : Nat → Nat} {p : Nat} (hS : SOK S) (hp : p < 6) : mo (pm S) (nI p) = nI (S p) := by
  have hl := pkR_lt hS 6 (Nat.le_refl _)
  unfold mo pm
  rw [nL_shr (by omega) _ _ (sh10 p hp)]
  have e : (nL (pkR S 6 / 2 ^ (10 * p))).toInt32 = nI (pkR S 6 / 2 ^ (10 * p)) := Int64.toInt32_ofNat'
  rw [e, show (1023 : Int32) = nI 1023 from rfl, nI_and]
  congr 1
  apply Nat.eq_of_testBit_eq
  intro i
  rw [Nat.testBit_and, Nat.testBit_div_two_pow, pkR_tb hS _ 6 (Nat.le_refl _), show (1023 : Nat) = 2 ^ 10 - 1 from rfl, Nat.testBit_two_pow_sub_one]
  by_cases h : i < 10
  · rw [decide_eq_true h, Bool.and_true, decide_eq_true (show i + 10 * p < 10 * 6 by omega), Bool.true_and, show (i + 10 * p) / 10 = p by omega, show (i + 10 * p) % 10 = i by omega]
  · rw [decide_eq_false h, Bool.and_false, tb_small (hS p hp) (by omega)]
theorem un_ok {S : Nat → Nat} {p x : Nat} (hS : SOK S) (hx : x < 1024) : SOK (un S p x) := by
  intro q hq
  unfold un
  split
  · exact hx
  · exact hS q hq
theorem mw_pm {S : Nat → Nat} {p x : Nat} (hS : SOK S) (hp : p < 6) (hx : x < 1024) : mw (pm S) (nI p) (nI x) = pm (un S p x) := by
  have hpw : 2 ^ (10 * p) ≤ 2 ^ 50 := Nat.pow_le_pow_right (n := 2) (by omega) (by omega)
  have h1 : 1023 * 2 ^ (10 * p) < 2 ^ 64 := by omega
  have h2 : x * 2 ^ (10 * p) < 2 ^ 64 := Nat.lt_of_le_of_lt (Nat.mul_le_mul_right _ (show x ≤ 1023 by omega)) h1
  unfold mw pm
  rw [show Int64.ofInt 1023 = nL 1023 from rfl, nL_shl _ _ (sh10 p hp) h1, nI_L (by omega), nL_shl _ _ (sh10 p hp) h2, show (-1 : Int64) = nL (2 ^ 64 - 1) by decide, nL_xor, nL_and, nL_or]
  congr 1
  apply Nat.eq_of_testBit_eq
  intro j
  rw [Nat.testBit_or, Nat.testBit_and, Nat.testBit_xor, pkR_tb hS _ 6 (Nat.le_refl _), pkR_tb (un_ok hS hx) _ 6 (Nat.le_refl _), Nat.mul_comm 1023, Nat.mul_comm x, Nat.testBit_two_pow_mul, Nat.testBit_two_pow_mul, Nat.testBit_two_pow_sub_one, show (1023 : Nat) = 2 ^ 10 - 1 from rfl, Nat.testBit_two_pow_sub_one]
  by_cases h60 : j < 10 * 6
  · rw [decide_eq_true h60, Bool.true_and, Bool.true_and, decide_eq_true (show j < 64 by omega)]
    by_cases hj : j / 10 = p
    · rw [hj, un_s, decide_eq_true (show j ≥ 10 * p by omega), decide_eq_true (show j - 10 * p < 10 by omega), show j - 10 * p = j % 10 by omega]
      simp
    · rw [un_n hj]
      by_cases hlo : j ≥ 10 * p
      · rw [decide_eq_false (show ¬ j - 10 * p < 10 by omega), tb_small hx (show 10 ≤ j - 10 * p by omega)]
        simp
      · rw [decide_eq_false hlo]
        simp
  · rw [decide_eq_false h60, Bool.false_and, Bool.false_and, tb_small hx (show 10 ≤ j - 10 * p by omega)]
    simp
theorem pkR_inj {S T : Nat → Nat} (hS : SOK S) (hT : SOK T) (h : pm S = pm T) : ∀ p, p < 6 → S p = T p := by
  intro p hp
  have h1 := mo_pm hS hp
  have h2 := mo_pm hT hp
  rw [h, h2] at h1
  have a := hS p hp
  have b := hT p hp
  exact ((nI_eq (by omega) (by omega)).mp h1).symm
theorem pm_congr {S T : Nat → Nat} (h : ∀ p, p < 6 → S p = T p) : pm S = pm T := by
  unfold pm pkR pkR pkR pkR pkR pkR pkR
  rw [h 0 (by omega), h 1 (by omega), h 2 (by omega), h 3 (by omega), h 4 (by omega), h 5 (by omega)]
