/-! ===== marriages: who may wed whom ===== -/
/-- lawful now and behind each of the next k evenings -/
def eeW (B : Nat → Nat) (k a o : Nat) : Bool := decide (∀ t, t < k + 1 → isL B (trN B t) a o = true)
theorem eeW_iff {B : Nat → Nat} {k a o : Nat} : eeW B k a o = true ↔ ∀ t, t < k + 1 → isL B (trN B t) a o = true := by unfold eeW; rw [decide_eq_true_eq]
theorem eeW_comm {B : Nat → Nat} {k a o : Nat} : eeW B k a o = eeW B k o a := by
  rw [Bool.eq_iff_iff, eeW_iff, eeW_iff]
  exact ⟨fun h t ht => by rw [isL_comm]; exact h t ht, fun h t ht => by rw [isL_comm]; exact h t ht⟩
theorem c10p2_tb {b i : Nat} (hi : i < 10) : (c10 (2 ^ b)).testBit i = !decide (b = i) := by
  rw [tb_c10, p2_tb, decide_eq_true hi, Bool.true_xor]
theorem maI_tb {B S : Nat → Nat} {a q o : Nat} {M : Nat → Nat} (hM : ∀ p, M p < 64) (ho : o < 6) : ∀ b, (maI B S a M b q).testBit o = ((M q).testBit o && (!(decide (q = a) && decide (o < b)) || isL B S a o))
  | 0 => by
    rw [maI, decide_eq_false (Nat.not_lt_zero o), Bool.and_false, Bool.not_false, Bool.true_or, Bool.and_true]
  | b + 1 => by
    rw [maI]
    by_cases hq : q = a
    · subst hq
      rw [un_s, Nat.testBit_and, maI_tb hM ho b, decide_eq_true rfl, Bool.true_and, Bool.true_and]
      by_cases hob : o = b
      · subst hob
        rw [decide_eq_false (Nat.lt_irrefl o), decide_eq_true (Nat.lt_succ_self o)]
        cases hl : isL B S q o with
        | true =>
          rw [if_pos rfl, show (63 : Nat) = 2 ^ 6 - 1 from rfl, Nat.testBit_two_pow_sub_one, decide_eq_true ho]
          simp
        | false =>
          rw [if_neg Bool.false_ne_true, c10p2_tb (by omega), decide_eq_true rfl]
          simp
      · have e : decide (o < b + 1) = decide (o < b) := by
          by_cases z : o < b
          · rw [decide_eq_true z, decide_eq_true (by omega)]
          · rw [decide_eq_false z, decide_eq_false (by omega)]
        rw [e]
        have e2 : (if isL B S q b = true then 63 else c10 (2 ^ b)).testBit o = true := by
          split
          · rw [show (63 : Nat) = 2 ^ 6 - 1 from rfl, Nat.testBit_two_pow_sub_one, decide_eq_true ho]
          · rw [c10p2_tb (by omega), decide_eq_false (fun z => hob z.symm)]; rfl
        rw [e2, Bool.and_true]
    · rw [un_n hq, maI_tb hM ho b, decide_eq_false hq, Bool.false_and, Bool.false_and]
theorem maO_tb {B S : Nat → Nat} {q o : Nat} {M : Nat → Nat} (hM : ∀ p, M p < 64) (ho : o < 6) : ∀ a, (maO B S M a q).testBit o = ((M q).testBit o && (!(decide (q < a) && decide (o < B 0)) || isL B S q o))
  | 0 => by
    rw [maO, decide_eq_false (Nat.not_lt_zero q), Bool.false_and, Bool.not_false, Bool.true_or, Bool.and_true]
  | a + 1 => by
    rw [maO, maI_tb (maO_ok hM a) ho, maO_tb hM ho a]
    by_cases hq : q = a
    · subst hq
      rw [decide_eq_true rfl, decide_eq_false (Nat.lt_irrefl q), decide_eq_true (Nat.lt_succ_self q)]
      simp
    · rw [decide_eq_false hq]
      have e : decide (q < a + 1) = decide (q < a) := by
        by_cases z : q < a
        · rw [decide_eq_true z, decide_eq_true (by omega)]
        · rw [decide_eq_false z, decide_eq_false (by omega)]
      rw [e]
      simp
theorem maK_tb {B : Nat → Nat} {q o : Nat} (hq : q < B 0) (ho : o < B 0) (h0 : B 0 ≤ 6) : ∀ k, (maK B k q).testBit o = true ↔ (q ≠ o ∧ ∀ t, t < k → isL B (trN B t) q o = true)
  | 0 => by
    rw [maK]
    unfold may0
    rw [if_pos (by omega), Nat.testBit_and, c10p2_tb (by omega), show (63 : Nat) = 2 ^ 6 - 1 from rfl, Nat.testBit_two_pow_sub_one, decide_eq_true (show o < 6 by omega), Bool.true_and, Bool.not_eq_true', decide_eq_false_iff_not]
    exact ⟨fun h => ⟨h, fun t ht => absurd ht (Nat.not_lt_zero t)⟩, fun h => h.1⟩
  | k + 1 => by
    rw [maK, maO_tb (maK_ok k) (by omega), Bool.and_eq_true, maK_tb hq ho h0 k, decide_eq_true hq, decide_eq_true ho]
    have e : (!(true && true) || isL B (trN B k) q o) = isL B (trN B k) q o := rfl
    rw [e]
    constructor
    · rintro ⟨⟨h1, h2⟩, h3⟩
      refine ⟨h1, fun t ht => ?_⟩
      by_cases z : t = k
      · subst z; exact h3
      · exact h2 t (by omega)
    · rintro ⟨h1, h2⟩
      exact ⟨⟨h1, fun t ht => h2 t (by omega)⟩, h2 k (by omega)⟩
theorem may_ee {B : Nat → Nat} {q o k : Nat} (hq : q < B 0) (ho : o < B 0) (h0 : B 0 ≤ 6) : (maK B (k + 1) q).testBit o = (decide (q ≠ o) && eeW B k q o) := by
  rw [Bool.eq_iff_iff, maK_tb hq ho h0, Bool.and_eq_true, decide_eq_true_eq, eeW_iff]
/-! the class's pairs, as bits of a long -/
theorem ffd_spec {P : Nat → Bool} {N : Nat} : ∀ r, r ≤ N → (∀ d, ffd P N r = some d → N - r ≤ d ∧ P d = true ∧ ∀ e, N - r ≤ e → e < d → P e = false) ∧ (ffd P N r = none → ∀ e, N - r ≤ e → e < N → P e = false)
  | 0, _ => ⟨fun d h => (nomatch h), fun _ e h1 h2 => (by omega)⟩
  | r + 1, hr => by
    obtain ⟨i1, i2⟩ := ffd_spec (P := P) (N := N) r (by omega)
    rw [ffd]
    cases hp : P (N - (r + 1)) with
    | true =>
      rw [if_pos rfl]
      refine ⟨fun d h => ?_, fun h => (nomatch h)⟩
      have h := Option.some.inj h
      subst h
      exact ⟨Nat.le_refl _, hp, fun e h1 h2 => by omega⟩
    | false =>
      rw [if_neg Bool.false_ne_true]
      refine ⟨fun d h => ?_, fun h e h1 h2 => ?_⟩
      · obtain ⟨a1, a2, a3⟩ := i1 d h
        refine ⟨by omega, a2, fun e h1 h2 => ?_⟩
        by_cases q : e = N - (r + 1)
        · rw [q]; exact hp
        · exact a3 e (by omega) h2
      · by_cases q : e = N - (r + 1)
        · rw [q]; exact hp
        · exact i2 h e (by omega) h2
theorem ltB_pm {B : Nat → Nat} {ki : Nat → Int32} {a b k : Nat} (h : CR B ki) (ha : a < 6) (hb : b < 6) (hk : k ≤ 40) : ltB (nI (B 5)) (nI (B 6)) (nI (B 7)) (csm (B 1) ki (nI (B 5)) (faB_ B) (fbB_ B) (B 2) (pm (nw B))) k a b = eeW B k a b := by
  have h6 := h.1.2.2.2.1
  have h7 := h.1.2.2.2.2.1
  have em : ∀ t, mwB (nI (B 5)) (nI (B 6)) (nI (B 7)) (csm (B 1) ki (nI (B 5)) (faB_ B) (fbB_ B) (B 2) (pm (nw B)) t) a b = isL B (trN B t) a b := fun t => by
    rw [csm_pm h t, mwB_pm h6 h7 (trN_ok h.1 t) ha hb]
  unfold ltB
  obtain ⟨f1, f2⟩ := ffd_spec (P := fun t => !mwB (nI (B 5)) (nI (B 6)) (nI (B 7)) (csm (B 1) ki (nI (B 5)) (faB_ B) (fbB_ B) (B 2) (pm (nw B)) t) a b) (N := 201) 201 (Nat.le_refl _)
  cases hf : ffd (fun t => !mwB (nI (B 5)) (nI (B 6)) (nI (B 7)) (csm (B 1) ki (nI (B 5)) (faB_ B) (fbB_ B) (B 2) (pm (nw B)) t) a b) 201 201 with
  | none =>
    dsimp only
    have f2 := f2 hf
    refine (eeW_iff.mpr (fun t ht => ?_)).symm
    have := f2 t (by omega) (by omega)
    rw [em] at this
    simpa using this
  | some e =>
    dsimp only
    obtain ⟨a1, a2, a3⟩ := f1 e hf
    rw [em] at a2
    rw [Bool.eq_iff_iff, decide_eq_true_eq, eeW_iff]
    constructor
    · intro hke t ht
      have := a3 t (by omega) (by omega)
      rw [em] at this
      simpa using this
    · intro hall
      rcases Nat.lt_or_ge k e with q | q
      · exact q
      · rw [hall e (by omega)] at a2
        cases a2
theorem bitL_nL : ∀ a, a < 6 → ∀ b, b < 6 → bitL (nI a) (nI b) = nL (2 ^ (6 * a + b)) := by decide +kernel
def lpIn (P : Nat → Nat → Bool) (a : Nat) (acc : Nat) : Nat → Nat
  | 0 => acc
  | k + 1 => if P a (a + 1 + k) = true then lpIn P a acc k ||| 2 ^ (6 * a + (a + 1 + k)) else lpIn P a acc k
def lpOn (P : Nat → Nat → Bool) (n : Nat) : Nat → Nat
  | 0 => 0
  | a + 1 => lpIn P a (lpOn P n a) (n - (a + 1))
theorem lpI_n {P : Nat → Nat → Bool} {a acc : Nat} : ∀ k, a + 1 + k ≤ 6 → lpI P a (nL acc) k = nL (lpIn P a acc k)
  | 0, _ => rfl
  | k + 1, h => by
    rw [lpI, lpIn, lpI_n k (by omega)]
    split
    · rw [bitL_nL a (by omega) _ (by omega), nL_or]
    · rfl
theorem lpO_n {P : Nat → Nat → Bool} {n : Nat} (hn : n ≤ 6) : ∀ a, a ≤ n → lpO P n a = nL (lpOn P n a)
  | 0, _ => rfl
  | a + 1, h => by rw [lpO, lpOn, lpO_n hn a (by omega), lpI_n _ (by omega)]
theorem lpIn_tb {P : Nat → Nat → Bool} {a acc p o : Nat} (ho : o < 6) : ∀ k, a + 1 + k ≤ 6 → (lpIn P a acc k).testBit (6 * p + o) = (acc.testBit (6 * p + o) || (decide (p = a ∧ a < o ∧ o < a + 1 + k) && P p o))
  | 0, _ => by rw [lpIn, decide_eq_false (by omega), Bool.false_and, Bool.or_false]
  | k + 1, h => by
    have ih := lpIn_tb (P := P) (a := a) (acc := acc) (p := p) ho k (by omega)
    rw [lpIn]
    by_cases hz : p = a ∧ o = a + 1 + k
    · obtain ⟨rfl, rfl⟩ := hz
      rw [decide_eq_true (by omega), Bool.true_and]
      rw [decide_eq_false (by omega), Bool.false_and, Bool.or_false] at ih
      by_cases hp : P p (p + 1 + k) = true
      · rw [if_pos hp, or_tb, ih, decide_eq_true rfl, hp]
      · rw [if_neg hp, ih]
        have : P p (p + 1 + k) = false := by
          cases q : P p (p + 1 + k) with
          | true => exact absurd q hp
          | false => rfl
        rw [this, Bool.or_false]
    · have e : decide (p = a ∧ a < o ∧ o < a + 1 + (k + 1)) = decide (p = a ∧ a < o ∧ o < a + 1 + k) := by
        by_cases z : p = a ∧ a < o ∧ o < a + 1 + k
        · rw [decide_eq_true z, decide_eq_true (by omega)]
        · rw [decide_eq_false z, decide_eq_false (by omega)]
      rw [e, ← ih]
      split
      · rw [or_tb, decide_eq_false (by omega), Bool.or_false]
      · rfl
theorem lpOn_tb {P : Nat → Nat → Bool} {n p o : Nat} (hn : n ≤ 6) (ho : o < 6) : ∀ a, a ≤ n → (lpOn P n a).testBit (6 * p + o) = (decide (p < a ∧ p < o ∧ o < n) && P p o)
  | 0, _ => by rw [lpOn, Nat.zero_testBit, decide_eq_false (by omega), Bool.false_and]
  | a + 1, h => by
    rw [lpOn, lpIn_tb ho _ (by omega), lpOn_tb hn ho a (by omega)]
    by_cases q : p = a
    · subst q
      rw [decide_eq_false (by omega), Bool.false_and, Bool.false_or]
      congr 1
      by_cases z : p < o ∧ o < n
      · rw [decide_eq_true (by omega), decide_eq_true (by omega)]
      · rw [decide_eq_false (by omega), decide_eq_false (by omega)]
    · have e1 : decide (p = a ∧ a < o ∧ o < a + 1 + (n - (a + 1))) = false := decide_eq_false (by omega)
      rw [e1, Bool.false_and, Bool.or_false]
      congr 1
      by_cases z : p < a ∧ p < o ∧ o < n
      · rw [decide_eq_true z, decide_eq_true (by omega)]
      · rw [decide_eq_false z, decide_eq_false (by omega)]
theorem lpOn_lt {P : Nat → Nat → Bool} {n : Nat} (hn : n ≤ 6) : lpOn P n n < 2 ^ 36 := by
  have key : ∀ a acc, acc < 2 ^ 36 → ∀ k, a + 1 + k ≤ 6 → lpIn P a acc k < 2 ^ 36 := by
    intro a acc hacc k
    induction k with
    | zero => intro _; exact hacc
    | succ k ih =>
      intro h
      rw [lpIn]
      split
      · exact Nat.or_lt_two_pow (ih (by omega)) (Nat.pow_lt_pow_right (by omega) (by omega))
      · exact ih (by omega)
  have : ∀ a, a ≤ n → lpOn P n a < 2 ^ 36 := by
    intro a
    induction a with
    | zero => intro _; rw [lpOn]; omega
    | succ a ih => intro h; rw [lpOn]; exact key a _ (ih (by omega)) _ (by omega)
  exact this n (Nat.le_refl _)
/-- whom p may still have, of those behind it -/
def frW (B : Nat → Nat) (k tk p o : Nat) : Bool := decide (o < B 0) && eeW B k p o && !tk.testBit o
theorem fre_pm {B : Nat → Nat} {ki : Nat → Int32} {k tk p o : Nat} (h : CR B ki) (hk : k ≤ 40) (htk : tk < 64) (hpo : p < o) (ho : o < 6) : freB (wpr (B 1) (B 0) ki (nI (B 5)) (nI (B 6)) (nI (B 7)) (faB_ B) (fbB_ B) (B 2) (pm (nw B)) k) (nI tk) p o = frW B k tk p o := by
  have h0 := h.1.1
  unfold wpr freB
  rw [lpO_n h0 (B 0) (Nat.le_refl _), bitL_nL p (by omega) o ho, nL_and]
  generalize hP : ltB (nI (B 5)) (nI (B 6)) (nI (B 7)) (csm (B 1) ki (nI (B 5)) (faB_ B) (fbB_ B) (B 2) (pm (nw B))) k = P
  have hl := lpOn_lt (P := P) (n := B 0) h0
  have e1 : (¬ lg_cmp (nL (lpOn P (B 0) (B 0) &&& 2 ^ (6 * p + o))) 0 = 0) ↔ (o < B 0 ∧ P p o = true) := by
    have hand : lpOn P (B 0) (B 0) &&& 2 ^ (6 * p + o) < 2 ^ 62 := Nat.lt_of_le_of_lt Nat.and_le_left (Nat.lt_of_lt_of_le hl (by decide))
    rw [lg_cmp0, nL_0 hand, and_p2, lpOn_tb h0 ho (B 0) (Nat.le_refl _)]
    cases hP2 : P p o with
    | true =>
      rw [Bool.and_true]
      constructor
      · intro q
        refine ⟨?_, rfl⟩
        apply Classical.byContradiction
        intro z
        exact q (decide_eq_false (by omega))
      · intro q z
        rw [decide_eq_true (by omega)] at z
        cases z
    | false =>
      rw [Bool.and_false]
      exact ⟨fun q => absurd rfl q, fun q => nomatch q.2⟩
  have e2 := bit0 (o := tk) (m := o) (by omega) (by omega)
  have e3 : P p o = eeW B k p o := by rw [← hP]; exact ltB_pm h (by omega) ho hk
  rw [Bool.eq_iff_iff, decide_eq_true_eq, e1, e2, e3]
  unfold frW
  rw [Bool.and_eq_true, Bool.and_eq_true, decide_eq_true_eq, Bool.not_eq_true']
