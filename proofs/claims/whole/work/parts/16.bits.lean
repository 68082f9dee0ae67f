/-! ===== bits of small numbers ===== -/
theorem bv_and (a b : Nat) : BitVec.ofNat 32 (a &&& b) = BitVec.ofNat 32 a &&& BitVec.ofNat 32 b := by
  apply BitVec.eq_of_getLsbD_eq
  intro i hi
  simp [BitVec.getLsbD_ofNat, hi, Nat.testBit_and]
theorem bv_or (a b : Nat) : BitVec.ofNat 32 (a ||| b) = BitVec.ofNat 32 a ||| BitVec.ofNat 32 b := by
  apply BitVec.eq_of_getLsbD_eq
  intro i hi
  simp [BitVec.getLsbD_ofNat, hi, Nat.testBit_or]
theorem bv_xor (a b : Nat) : BitVec.ofNat 32 (a ^^^ b) = BitVec.ofNat 32 a ^^^ BitVec.ofNat 32 b := by
  apply BitVec.eq_of_getLsbD_eq
  intro i hi
  simp [BitVec.getLsbD_ofNat, hi, Nat.testBit_xor]
theorem nI_bv (n : Nat) : (nI n).toBitVec = BitVec.ofNat 32 n := rfl
theorem nI_and (a b : Nat) : nI a &&& nI b = nI (a &&& b) := by
  apply Int32.toBitVec_inj.mp
  rw [Int32.toBitVec_and, nI_bv, nI_bv, nI_bv, bv_and]
theorem nI_or (a b : Nat) : nI a ||| nI b = nI (a ||| b) := by
  apply Int32.toBitVec_inj.mp
  rw [Int32.toBitVec_or, nI_bv, nI_bv, nI_bv, bv_or]
theorem nI_xor (a b : Nat) : nI a ^^^ nI b = nI (a ^^^ b) := by
  apply Int32.toBitVec_inj.mp
  rw [Int32.toBitVec_xor, nI_bv, nI_bv, nI_bv, bv_xor]
theorem m1_nI : (-1 : Int32) = nI 4294967295 := by decide
theorem tb_small {a i : Nat} (h : a < 1024) (hi : 10 ≤ i) : a.testBit i = false := Nat.testBit_lt_two_pow (Nat.lt_of_lt_of_le h (Nat.pow_le_pow_right (n := 2) (by omega) hi))
/-- the complement within ten bits -/
def c10 (m : Nat) : Nat := 1023 ^^^ m
theorem tb_c10 {m i : Nat} : (c10 m).testBit i = (decide (i < 10) ^^ m.testBit i) := by
  rw [c10, Nat.testBit_xor, show (1023 : Nat) = 2 ^ 10 - 1 from rfl, Nat.testBit_two_pow_sub_one]
theorem and_c10 {a : Nat} (h : a < 1024) (m : Nat) : nI a &&& (nI m ^^^ (-1)) = nI (a &&& c10 m) := by
  rw [m1_nI, nI_xor, nI_and]
  congr 1
  apply Nat.eq_of_testBit_eq
  intro i
  rw [Nat.testBit_and, Nat.testBit_and, Nat.testBit_xor, tb_c10, show (4294967295 : Nat) = 2 ^ 32 - 1 from rfl, Nat.testBit_two_pow_sub_one]
  by_cases hi : i < 10
  · rw [decide_eq_true hi, decide_eq_true (show i < 32 by omega), Bool.xor_comm]
  · rw [tb_small h (by omega), Bool.false_and, Bool.false_and]
theorem sh_ok : ∀ m, m < 32 → ((nI m &&& 31).toBitVec.smod 32).toNat = m := by decide
theorem shr_nI {o m : Nat} (h : o < 2 ^ 31) (hm : m < 32) : nI o >>> (nI m &&& 31) = nI (o / 2 ^ m) := pk_shrN h _ m (sh_ok m hm)
theorem bit_nI {o m : Nat} (h : o < 2 ^ 31) (hm : m < 32) : (nI o >>> (nI m &&& 31)) &&& 1 = nI (o / 2 ^ m % 2) := by
  rw [shr_nI h hm]
  have h1 : o / 2 ^ m < 2 ^ 32 := Nat.lt_of_le_of_lt (Nat.div_le_self _ _) (by omega)
  exact pk_andN h1 1 (by decide)
theorem bit_tb {o m : Nat} (h : o < 2 ^ 31) (hm : m < 32) : (nI o >>> (nI m &&& 31)) &&& 1 = if o.testBit m = true then 1 else 0 := by
  rw [bit_nI h hm, Nat.testBit_eq_decide_div_mod_eq]
  by_cases hb : o / 2 ^ m % 2 = 1
  · rw [hb]; simp; rfl
  · have : o / 2 ^ m % 2 = 0 := by omega
    rw [this]; simp; rfl
theorem bit0 {o m : Nat} (h : o < 2 ^ 31) (hm : m < 32) : ((nI o >>> (nI m &&& 31)) &&& 1 = 0) ↔ o.testBit m = false := by
  rw [bit_tb h hm]
  cases o.testBit m <;> simp
theorem bit1 {o m : Nat} (h : o < 2 ^ 31) (hm : m < 32) : ((nI o >>> (nI m &&& 31)) &&& 1 = 1) ↔ o.testBit m = true := by
  rw [bit_tb h hm]
  cases o.testBit m <;> simp
theorem shl_nI : ∀ m, m < 31 → (1 : Int32) <<< (nI m &&& 31) = nI (2 ^ m) := by decide
theorem xor_lt {a b : Nat} (ha : a < 1024) (hb : b < 1024) : a ^^^ b < 1024 := Nat.xor_lt_two_pow (n := 10) ha hb
theorem and_lt {a b : Nat} (ha : a < 1024) : a &&& b < 1024 := Nat.lt_of_le_of_lt Nat.and_le_left ha
theorem or_lt {a b : Nat} (ha : a < 1024) (hb : b < 1024) : a ||| b < 1024 := Nat.or_lt_two_pow (n := 10) ha hb
/-- how many bits of ten -/
def pcN (x : Nat) : Nat → Nat
  | 0 => 0
  | k + 1 => pcN x k + x / 2 ^ k % 2
def btr (x : Int32) : Nat → Int32
  | 0 => 0
  | k + 1 => btr x k + ((x >>> (nI k &&& 31)) &&& 1)
theorem btr_nI {x : Nat} (h : x < 2 ^ 31) : ∀ k, k < 32 → btr (nI x) k = nI (pcN x k)
  | 0, _ => rfl
  | k + 1, hk => by rw [btr, pcN, btr_nI h k (by omega), bit_nI h (by omega), nI_add]
theorem bcI_nI : ∀ x, x < 1024 → bcI (nI x) = nI (pcN x 10) := by decide +kernel
theorem pcN_le : ∀ x k, pcN x k ≤ k
  | x, 0 => Nat.le_refl _
  | x, k + 1 => by
    have := pcN_le x k
    have := Nat.mod_lt (x / 2 ^ k) (show 2 > 0 by omega)
    rw [pcN]; omega
/-- the least bit, of ten -/
def lsR (o : Nat) : Nat → Nat
  | 0 => 10
  | r + 1 => if o.testBit (9 - r) = true then 9 - r else lsR o r
def lsb (o : Nat) : Nat := lsR o 10
theorem lob_nI : ∀ x, x < 1024 → 0 < x → lob (nI x) = nI (2 ^ lsb x) := by decide +kernel
theorem lsb_lt : ∀ x, x < 1024 → 0 < x → lsb x < 10 ∧ x.testBit (lsb x) = true := by decide +kernel
