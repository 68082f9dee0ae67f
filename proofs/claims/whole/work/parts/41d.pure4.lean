/-! ===== lawful, three, feigned; how many otherwise ===== -/
theorem lwb_pm {B S : Nat → Nat} {p : Nat} (h6 : B 6 ≤ 20) (h7 : B 7 ≤ 20) (hS : SOK S) (hp : p < 6) : ∀ k, k ≤ 6 → lwb (nI (B 5)) (nI (B 6)) (nI (B 7)) (pm S) p k = lwN B S p k
  | 0, _ => rfl
  | k + 1, hk => by
    rw [lwb, lwN, lwb_pm h6 h7 hS hp k (by omega), mwB_pm h6 h7 hS hp (by omega)]
theorem thI_iff {ok : Nat → Nat → Bool} {a : Nat} {s : Bool} : ∀ b, thI ok a s b = true ↔ (s = true ∧ ∀ j, j < b → ok a j = true)
  | 0 => ⟨fun h => ⟨h, fun j hj => by omega⟩, fun h => h.1⟩
  | b + 1 => by
    rw [thI, Bool.and_eq_true, thI_iff b]
    constructor
    · intro h
      refine ⟨h.1.1, fun j hj => ?_⟩
      by_cases e : j = b
      · rw [e]; exact h.2
      · exact h.1.2 j (by omega)
    · intro h
      exact ⟨⟨h.1, fun j hj => h.2 j (by omega)⟩, h.2 b (by omega)⟩
theorem thO_iff {ok : Nat → Nat → Bool} {s : Bool} : ∀ a, thO ok s a = true ↔ (s = true ∧ ∀ i, i < a → ∀ j, j < i → ok i j = true)
  | 0 => ⟨fun h => ⟨h, fun j hj => by omega⟩, fun h => h.1⟩
  | a + 1 => by
    rw [thO, thI_iff, thO_iff a]
    constructor
    · intro h
      refine ⟨h.1.1, fun i hi j hj => ?_⟩
      by_cases e : i = a
      · subst e; exact h.2 j hj
      · exact h.1.2 i (by omega) j hj
    · intro h
      exact ⟨⟨h.1, fun i hi j hj => h.2 i (by omega) j hj⟩, fun j hj => h.2 a (by omega) j hj⟩
theorem isL_comm {B S : Nat → Nat} {a b : Nat} : isL B S a b = isL B S b a := by
  unfold isL
  rw [Nat.xor_comm]
theorem th_pm {B S : Nat → Nat} {s : Nat} (h0 : B 0 ≤ 6) (h6 : B 6 ≤ 20) (h7 : B 7 ≤ 20) (hS : SOK S) (hs : s < 64) : thB (nI (B 5)) (nI (B 6)) (nI (B 7)) (pm S) (B 0) s = thM B S s := by
  have hp := pcN_le s 10
  have e3 : decide (bcI (nI s) = 3) = decide (pcN s 10 = 3) := by
    rw [bcI_nI s (by omega)]
    exact decide_eq_decide.mpr (nI_eq (b := 3) (by omega) (by omega))
  have ea : awB (nI (B 5)) (nI (B 6)) (nI (B 7)) (pm S) (B 0) (nI s) = true ↔ ∀ i, i < B 0 → ∀ j, j < i → okS B S s i j = true := by
    unfold awB
    rw [decide_eq_true_eq]
    constructor
    · intro h i hi j hj
      have h1 := h i hi j hj
      unfold okS
      cases bi : s.testBit i with
      | false => rfl
      | true =>
        cases bj : s.testBit j with
        | false => rfl
        | true =>
          have h2 := h1 ((bit1 (by omega) (by omega)).mpr bj) ((bit1 (by omega) (by omega)).mpr bi)
          rw [mwB_pm h6 h7 hS (by omega) (by omega)] at h2
          rw [isL_comm, h2]; rfl
    · intro h i hi j hj c1 c2
      have b1' := (bit1 (by omega) (by omega)).mp c1
      have b2' := (bit1 (by omega) (by omega)).mp c2
      have := h i hi j hj
      unfold okS at this
      rw [b1', b2'] at this
      rw [mwB_pm h6 h7 hS (by omega) (by omega), isL_comm]
      exact this
  unfold thB thM
  rw [e3]
  cases hd : decide (pcN s 10 = 3) with
  | false =>
    cases ht : thO (okS B S s) false (B 0) with
    | false => rfl
    | true => exact absurd ((thO_iff _).mp ht).1 Bool.false_ne_true
  | true =>
    rw [Bool.true_and]
    cases ht : thO (okS B S s) true (B 0) with
    | true => exact ea.mpr ((thO_iff _).mp ht).2
    | false =>
      cases hb : awB (nI (B 5)) (nI (B 6)) (nI (B 7)) (pm S) (B 0) (nI s) with
      | false => rfl
      | true =>
        have := (thO_iff (ok := okS B S s) (s := true) (B 0)).mpr ⟨rfl, ea.mp hb⟩
        rw [ht] at this
        cases this
theorem cU_congr {P P' : Nat → Bool} : ∀ n, (∀ j, j < n → P j = P' j) → cU P n = cU P' n
  | 0, _ => rfl
  | n + 1, h => by rw [cU, cU, cU_congr n (fun j hj => h j (by omega)), h n (by omega)]
theorem fsU_congr {P P' : Nat → Bool} : ∀ n, (∀ j, j < n → P j = P' j) → fsU P n = fsU P' n
  | 0, _ => rfl
  | n + 1, h => by rw [fsU, fsU, fsU_congr n (fun j hj => h j (by omega)), h n (by omega)]
/-! how many think otherwise -/
def kaS (S T : Nat → Nat) : Nat → Nat
  | 0 => 0
  | k + 1 => kaS S T k + (if S k = T k then 0 else 1)
theorem mu_pm {S T : Nat → Nat} (hS : SOK S) (hT : SOK T) : ∀ k, k ≤ 6 → mu (pm S) (pm T) k = kaS S T k
  | 0, _ => rfl
  | k + 1, hk => by
    have a := hS k (by omega)
    have b := hT k (by omega)
    rw [mu, kaS, mu_pm hS hT k (by omega), mo_pm hS (by omega), mo_pm hT (by omega)]
    by_cases e : S k = T k
    · rw [if_pos e, if_pos (by rw [e])]
    · rw [if_neg e, if_neg (fun q => e ((nI_eq (by omega) (by omega)).mp q))]
theorem kaS_hi {S T : Nat → Nat} {n : Nat} (h : ∀ p, n ≤ p → p < 6 → S p = T p) : ∀ k, n + k ≤ 6 → kaS S T (n + k) = kaS S T n
  | 0, _ => rfl
  | k + 1, hk => by rw [← Nat.add_assoc, kaS, kaS_hi h k (by omega), if_pos (h _ (by omega) (by omega))]; rfl
theorem kaN_S {B S T : Nat → Nat} : ∀ k, (∀ p, p < k → B (14 + p) = S p) → kaN B T k = kaS S T k
  | 0, _ => rfl
  | k + 1, h => by rw [kaN, kaS, kaN_S k (fun p hp => h p (by omega)), h k (by omega)]
theorem tlN_hi {B S : Nat → Nat} {i j p : Nat} (hi : p ≠ i) (hj : p ≠ j) : tlN B S i j p = S p := by
  unfold tlN
  split
  · rfl
  · rw [un_n hj, un_n hi]
theorem goN_hi {B S : Nat → Nat} {e p : Nat} (h : ∀ k, k < B 1 → B (26 + 2 * k) < B 0 ∧ B (27 + 2 * k) < B 0 ∧ B (26 + 2 * k) ≠ B (27 + 2 * k)) (hp : B 0 ≤ p) : goN B S e p = S p := by
  unfold goN
  split
  · rfl
  · obtain ⟨h1, h2, _⟩ := h (e % B 1) (Nat.mod_lt _ (by omega))
    exact tlN_hi (by omega) (by omega)
theorem trN_hi {B : Nat → Nat} {p : Nat} (h : ∀ k, k < B 1 → B (26 + 2 * k) < B 0 ∧ B (27 + 2 * k) < B 0 ∧ B (26 + 2 * k) ≠ B (27 + 2 * k)) (hp : B 0 ≤ p) : ∀ t, trN B t p = nw B p
  | 0 => rfl
  | t + 1 => by rw [trN, goN_hi h hp, trN_hi h hp t]
/-! feigned -/
theorem fg_pm {B : Nat → Nat} {x y : Nat} (h6 : B 6 ≤ 20) (h7 : B 7 ≤ 20) (hx : x < 1024) (hy : y < 1024) : ∀ s, s ≤ 1024 → fgU (nI (B 5)) (nI (B 6)) (nI (B 7)) (nI x) (nI y) s = fgM B (x ^^^ y) s
  | 0, _ => rfl
  | s + 1, hs => by
    have ih := fg_pm h6 h7 hx hy s (by omega)
    have hc := cn_le (w := B 5) (x := (x ^^^ s) ^^^ y)
    have el : lcB (nI (B 5)) (nI (B 6)) (nI (B 7)) (nI x ^^^ nI s) (nI y) = lfN B (x ^^^ y) s := by
      unfold lcB lfN
      rw [nI_xor, dst_nI (xor_lt hx (by omega)) hy, show (x ^^^ y) ^^^ s = (x ^^^ s) ^^^ y by rw [Nat.xor_assoc, Nat.xor_comm y s, ← Nat.xor_assoc]]
      exact decide_eq_decide.mpr (lic_nI (by omega) (by omega) (by omega))
    have hps := pcN_le s 10
    rw [fgU, fgM, ih, el]
    cases hf : fgM B (x ^^^ y) s with
    | none =>
      show (if true = true ∧ lfN B (x ^^^ y) s = true then some s else none) = if lfN B (x ^^^ y) s = true then some s else none
      simp
    | some f =>
      have hfl := fgM_lt s f hf
      have hpf := pcN_le f 10
      have ec : fgC (some f) s = decide (pcN s 10 < pcN f 10) := by
        unfold fgC
        show decide (bcI (nI s) < bcI (nI f)) = _
        rw [bcI_nI s (by omega), bcI_nI f (by omega)]
        refine decide_eq_decide.mpr ⟨fun q => ?_, fun q => nI_lt q (by omega)⟩
        rcases Nat.lt_or_ge (pcN s 10) (pcN f 10) with w | w
        · exact w
        · exact absurd q (nI_nlt w (by omega))
      rw [ec]
      show (if decide (pcN s 10 < pcN f 10) = true ∧ lfN B (x ^^^ y) s = true then some s else some f) = if (lfN B (x ^^^ y) s && decide (pcN s 10 < pcN f 10)) = true then some s else some f
      cases lfN B (x ^^^ y) s <;> cases decide (pcN s 10 < pcN f 10) <;> rfl
