/-! ===== the verbs: by their letters (class), by their number (reference) ===== -/
def wdN (C : Nat → Nat) (s : Nat) : Nat → Nat
  | 0 => 0
  | k + 1 => 32 * wdN C s k + (C (s + k) - 96)
theorem nL_add (a b : Nat) : nL a + nL b = nL (a + b) := (Int64.ofNat_add a b).symm
theorem nL_mul (a b : Nat) : nL a * nL b = nL (a * b) := (Int64.ofNat_mul a b).symm
theorem nL_sub {a b : Nat} (h : b ≤ a) : nL a - nL b = nL (a - b) := (Int64.ofNat_sub a b h).symm
theorem wdV_N {C : Nat → Nat} {s : Nat} : ∀ k, k ≤ 7 → (∀ j, j < k → 97 ≤ C (s + j) ∧ C (s + j) ≤ 122) → wdV C s k = nL (wdN C s k)
  | 0, _, _ => rfl
  | k + 1, hk, h => by
    have hc := h k (by omega)
    rw [wdV, wdN, if_pos (by omega), wdV_N k (by omega) (fun j hj => h j (by omega)), nI_L (by omega)]
    have e1 : (32 : Int64) * nL (wdN C s k) = nL (32 * wdN C s k) := nL_mul 32 _
    have e2 : nL (32 * wdN C s k + C (s + k)) - 97 = nL (32 * wdN C s k + C (s + k) - 97) := nL_sub (b := 97) (by omega)
    rw [e1, nL_add, e2, nL_1]
    congr 1
    omega
theorem wdV_8 {C : Nat → Nat} {s k : Nat} (h : 8 ≤ k) : wdV C s k = -1 := by
  obtain ⟨j, rfl⟩ : ∃ j, k = j + 1 := ⟨k - 1, by omega⟩
  rw [wdV, if_neg (by omega)]
theorem wdN_lt {C : Nat → Nat} {s : Nat} : ∀ k, (∀ j, j < k → C (s + j) ≤ 122) → wdN C s k < 32 ^ k
  | 0, _ => by rw [wdN]; omega
  | k + 1, h => by
    have := wdN_lt k (fun j hj => h j (by omega))
    have := h k (by omega)
    rw [wdN, Nat.pow_succ]
    omega
theorem wd_case {n : Nat} : 8 ≤ n ∨ n = 0 ∨ n = 1 ∨ n = 2 ∨ n = 3 ∨ n = 4 ∨ n = 5 ∨ n = 6 ∨ n = 7 := by omega
theorem wdV_eq {C : Nat → Nat} {s n v : Nat} (hv : v < 2 ^ 40) (h : ∀ j, j < n → 97 ≤ C (s + j) ∧ C (s + j) ≤ 122) : wdV C s n = nL v ↔ (n ≤ 7 ∧ wdN C s n = v) := by
  by_cases h7 : n ≤ 7
  · rw [wdV_N n h7 h]
    have h1 := wdN_lt n (fun j hj => (h j hj).2)
    have h2 : 32 ^ n ≤ 32 ^ 7 := Nat.pow_le_pow_right (by omega) h7
    have h3 : (32 : Nat) ^ 7 < 2 ^ 40 := by decide
    rw [nL_inj (by omega) (by omega)]
    exact ⟨fun q => ⟨h7, q⟩, fun q => q.2⟩
  · rw [wdV_8 (by omega)]
    constructor
    · intro q
      exfalso
      have := congrArg Int64.toInt q
      rw [nL_toInt (by omega), show ((-1 : Int64)).toInt = -1 by decide] at this
      omega
    · intro q; exact absurd q.1 h7
theorem wd_person {C : Nat → Nat} {s n : Nat} (h : ∀ j, j < n → 97 ≤ C (s + j) ∧ C (s + j) ≤ 122) : (n ≤ 7 ∧ wdN C s n = 542723566) ↔ (n = wl 0 ∧ ∀ i, i < wl 0 → C (s + i) = bnN 0 i) := by
  constructor
  · intro hh
    obtain ⟨h7, e⟩ := hh
    rcases wd_case (n := n) with q | q | q | q | q | q | q | q | q
    · omega
    · subst q
      simp only [wdN] at e
      omega
    · subst q
      have h0 := h 0 (by omega)
      simp only [wdN] at e
      omega
    · subst q
      have h0 := h 0 (by omega)
      have h1 := h 1 (by omega)
      simp only [wdN] at e
      omega
    · subst q
      have h0 := h 0 (by omega)
      have h1 := h 1 (by omega)
      have h2 := h 2 (by omega)
      simp only [wdN] at e
      omega
    · subst q
      have h0 := h 0 (by omega)
      have h1 := h 1 (by omega)
      have h2 := h 2 (by omega)
      have h3 := h 3 (by omega)
      simp only [wdN] at e
      omega
    · subst q
      have h0 := h 0 (by omega)
      have h1 := h 1 (by omega)
      have h2 := h 2 (by omega)
      have h3 := h 3 (by omega)
      have h4 := h 4 (by omega)
      simp only [wdN] at e
      omega
    · subst q
      have h0 := h 0 (by omega)
      have h1 := h 1 (by omega)
      have h2 := h 2 (by omega)
      have h3 := h 3 (by omega)
      have h4 := h 4 (by omega)
      have h5 := h 5 (by omega)
      simp only [wdN] at e
      refine ⟨rfl, fun i hi => ?_⟩
      have hi : i < 6 := hi
      have hi : i = 0 ∨ i = 1 ∨ i = 2 ∨ i = 3 ∨ i = 4 ∨ i = 5 := by omega
      rcases hi with rfl | rfl | rfl | rfl | rfl | rfl
      · show C (s + 0) = 112
        omega
      · show C (s + 1) = 101
        omega
      · show C (s + 2) = 114
        omega
      · show C (s + 3) = 115
        omega
      · show C (s + 4) = 111
        omega
      · show C (s + 5) = 110
        omega
    · subst q
      have h0 := h 0 (by omega)
      have h1 := h 1 (by omega)
      have h2 := h 2 (by omega)
      have h3 := h 3 (by omega)
      have h4 := h 4 (by omega)
      have h5 := h 5 (by omega)
      have h6 := h 6 (by omega)
      simp only [wdN] at e
      omega
  · intro hh
    obtain ⟨e, hc⟩ := hh
    have e : n = 6 := e
    have h0 : C (s + 0) = 112 := hc 0 (by decide)
    have h1 : C (s + 1) = 101 := hc 1 (by decide)
    have h2 : C (s + 2) = 114 := hc 2 (by decide)
    have h3 : C (s + 3) = 115 := hc 3 (by decide)
    have h4 : C (s + 4) = 111 := hc 4 (by decide)
    have h5 : C (s + 5) = 110 := hc 5 (by decide)
    subst e
    refine ⟨by omega, ?_⟩
    simp only [wdN]
    omega
theorem wd_weighty {C : Nat → Nat} {s n : Nat} (h : ∀ j, j < n → 97 ≤ C (s + j) ∧ C (s + j) ≤ 122) : (n ≤ 7 ∧ wdN C s n = 24873509529) ↔ (n = wl 2 ∧ ∀ i, i < wl 2 → C (s + i) = bnN 2 i) := by
  constructor
  · intro hh
    obtain ⟨h7, e⟩ := hh
    rcases wd_case (n := n) with q | q | q | q | q | q | q | q | q
    · omega
    · subst q
      simp only [wdN] at e
      omega
    · subst q
      have h0 := h 0 (by omega)
      simp only [wdN] at e
      omega
    · subst q
      have h0 := h 0 (by omega)
      have h1 := h 1 (by omega)
      simp only [wdN] at e
      omega
    · subst q
      have h0 := h 0 (by omega)
      have h1 := h 1 (by omega)
      have h2 := h 2 (by omega)
      simp only [wdN] at e
      omega
    · subst q
      have h0 := h 0 (by omega)
      have h1 := h 1 (by omega)
      have h2 := h 2 (by omega)
      have h3 := h 3 (by omega)
      simp only [wdN] at e
      omega
    · subst q
      have h0 := h 0 (by omega)
      have h1 := h 1 (by omega)
      have h2 := h 2 (by omega)
      have h3 := h 3 (by omega)
      have h4 := h 4 (by omega)
      simp only [wdN] at e
      omega
    · subst q
      have h0 := h 0 (by omega)
      have h1 := h 1 (by omega)
      have h2 := h 2 (by omega)
      have h3 := h 3 (by omega)
      have h4 := h 4 (by omega)
      have h5 := h 5 (by omega)
      simp only [wdN] at e
      omega
    · subst q
      have h0 := h 0 (by omega)
      have h1 := h 1 (by omega)
      have h2 := h 2 (by omega)
      have h3 := h 3 (by omega)
      have h4 := h 4 (by omega)
      have h5 := h 5 (by omega)
      have h6 := h 6 (by omega)
      simp only [wdN] at e
      refine ⟨rfl, fun i hi => ?_⟩
      have hi : i < 7 := hi
      have hi : i = 0 ∨ i = 1 ∨ i = 2 ∨ i = 3 ∨ i = 4 ∨ i = 5 ∨ i = 6 := by omega
      rcases hi with rfl | rfl | rfl | rfl | rfl | rfl | rfl
      · show C (s + 0) = 119
        omega
      · show C (s + 1) = 101
        omega
      · show C (s + 2) = 105
        omega
      · show C (s + 3) = 103
        omega
      · show C (s + 4) = 104
        omega
      · show C (s + 5) = 116
        omega
      · show C (s + 6) = 121
        omega
  · intro hh
    obtain ⟨e, hc⟩ := hh
    have e : n = 7 := e
    have h0 : C (s + 0) = 119 := hc 0 (by decide)
    have h1 : C (s + 1) = 101 := hc 1 (by decide)
    have h2 : C (s + 2) = 105 := hc 2 (by decide)
    have h3 : C (s + 3) = 103 := hc 3 (by decide)
    have h4 : C (s + 4) = 104 := hc 4 (by decide)
    have h5 : C (s + 5) = 116 := hc 5 (by decide)
    have h6 : C (s + 6) = 121 := hc 6 (by decide)
    subst e
    refine ⟨by omega, ?_⟩
    simp only [wdN]
    omega
theorem wd_licence {C : Nat → Nat} {s n : Nat} (h : ∀ j, j < n → 97 ≤ C (s + j) ∧ C (s + j) ≤ 122) : (n ≤ 7 ∧ wdN C s n = 13190215781) ↔ (n = wl 3 ∧ ∀ i, i < wl 3 → C (s + i) = bnN 3 i) := by
  constructor
  · intro hh
    obtain ⟨h7, e⟩ := hh
    rcases wd_case (n := n) with q | q | q | q | q | q | q | q | q
    · omega
    · subst q
      simp only [wdN] at e
      omega
    · subst q
      have h0 := h 0 (by omega)
      simp only [wdN] at e
      omega
    · subst q
      have h0 := h 0 (by omega)
      have h1 := h 1 (by omega)
      simp only [wdN] at e
      omega
    · subst q
      have h0 := h 0 (by omega)
      have h1 := h 1 (by omega)
      have h2 := h 2 (by omega)
      simp only [wdN] at e
      omega
    · subst q
      have h0 := h 0 (by omega)
      have h1 := h 1 (by omega)
      have h2 := h 2 (by omega)
      have h3 := h 3 (by omega)
      simp only [wdN] at e
      omega
    · subst q
      have h0 := h 0 (by omega)
      have h1 := h 1 (by omega)
      have h2 := h 2 (by omega)
      have h3 := h 3 (by omega)
      have h4 := h 4 (by omega)
      simp only [wdN] at e
      omega
    · subst q
      have h0 := h 0 (by omega)
      have h1 := h 1 (by omega)
      have h2 := h 2 (by omega)
      have h3 := h 3 (by omega)
      have h4 := h 4 (by omega)
      have h5 := h 5 (by omega)
      simp only [wdN] at e
      omega
    · subst q
      have h0 := h 0 (by omega)
      have h1 := h 1 (by omega)
      have h2 := h 2 (by omega)
      have h3 := h 3 (by omega)
      have h4 := h 4 (by omega)
      have h5 := h 5 (by omega)
      have h6 := h 6 (by omega)
      simp only [wdN] at e
      refine ⟨rfl, fun i hi => ?_⟩
      have hi : i < 7 := hi
      have hi : i = 0 ∨ i = 1 ∨ i = 2 ∨ i = 3 ∨ i = 4 ∨ i = 5 ∨ i = 6 := by omega
      rcases hi with rfl | rfl | rfl | rfl | rfl | rfl | rfl
      · show C (s + 0) = 108
        omega
      · show C (s + 1) = 105
        omega
      · show C (s + 2) = 99
        omega
      · show C (s + 3) = 101
        omega
      · show C (s + 4) = 110
        omega
      · show C (s + 5) = 99
        omega
      · show C (s + 6) = 101
        omega
  · intro hh
    obtain ⟨e, hc⟩ := hh
    have e : n = 7 := e
    have h0 : C (s + 0) = 108 := hc 0 (by decide)
    have h1 : C (s + 1) = 105 := hc 1 (by decide)
    have h2 : C (s + 2) = 99 := hc 2 (by decide)
    have h3 : C (s + 3) = 101 := hc 3 (by decide)
    have h4 : C (s + 4) = 110 := hc 4 (by decide)
    have h5 : C (s + 5) = 99 := hc 5 (by decide)
    have h6 : C (s + 6) = 101 := hc 6 (by decide)
    subst e
    refine ⟨by omega, ?_⟩
    simp only [wdN]
    omega
theorem wd_talk {C : Nat → Nat} {s n : Nat} (h : ∀ j, j < n → 97 ≤ C (s + j) ∧ C (s + j) ≤ 122) : (n ≤ 7 ∧ wdN C s n = 656779) ↔ (n = wl 4 ∧ ∀ i, i < wl 4 → C (s + i) = bnN 4 i) := by
  constructor
  · intro hh
    obtain ⟨h7, e⟩ := hh
    rcases wd_case (n := n) with q | q | q | q | q | q | q | q | q
    · omega
    · subst q
      simp only [wdN] at e
      omega
    · subst q
      have h0 := h 0 (by omega)
      simp only [wdN] at e
      omega
    · subst q
      have h0 := h 0 (by omega)
      have h1 := h 1 (by omega)
      simp only [wdN] at e
      omega
    · subst q
      have h0 := h 0 (by omega)
      have h1 := h 1 (by omega)
      have h2 := h 2 (by omega)
      simp only [wdN] at e
      omega
    · subst q
      have h0 := h 0 (by omega)
      have h1 := h 1 (by omega)
      have h2 := h 2 (by omega)
      have h3 := h 3 (by omega)
      simp only [wdN] at e
      refine ⟨rfl, fun i hi => ?_⟩
      have hi : i < 4 := hi
      have hi : i = 0 ∨ i = 1 ∨ i = 2 ∨ i = 3 := by omega
      rcases hi with rfl | rfl | rfl | rfl
      · show C (s + 0) = 116
        omega
      · show C (s + 1) = 97
        omega
      · show C (s + 2) = 108
        omega
      · show C (s + 3) = 107
        omega
    · subst q
      have h0 := h 0 (by omega)
      have h1 := h 1 (by omega)
      have h2 := h 2 (by omega)
      have h3 := h 3 (by omega)
      have h4 := h 4 (by omega)
      simp only [wdN] at e
      omega
    · subst q
      have h0 := h 0 (by omega)
      have h1 := h 1 (by omega)
      have h2 := h 2 (by omega)
      have h3 := h 3 (by omega)
      have h4 := h 4 (by omega)
      have h5 := h 5 (by omega)
      simp only [wdN] at e
      omega
    · subst q
      have h0 := h 0 (by omega)
      have h1 := h 1 (by omega)
      have h2 := h 2 (by omega)
      have h3 := h 3 (by omega)
      have h4 := h 4 (by omega)
      have h5 := h 5 (by omega)
      have h6 := h 6 (by omega)
      simp only [wdN] at e
      omega
  · intro hh
    obtain ⟨e, hc⟩ := hh
    have e : n = 4 := e
    have h0 : C (s + 0) = 116 := hc 0 (by decide)
    have h1 : C (s + 1) = 97 := hc 1 (by decide)
    have h2 : C (s + 2) = 108 := hc 2 (by decide)
    have h3 : C (s + 3) = 107 := hc 3 (by decide)
    subst e
    refine ⟨by omega, ?_⟩
    simp only [wdN]
    omega
theorem isW_iff {C : Nat → Nat} {L p k : Nat} (hp : p ≤ L) (hk : k < 5) (hl : 97 ≤ bnN k 0 ∧ bnN k 0 ≤ 122 ∧ 0 < wl k) : isW C L (tkS C L p) (tyE C L (tkS C L p)) k = true ↔ (knd C L p = 4 ∧ nxp C L p - tkS C L p = wl k ∧ ∀ i, i < wl k → C (tkS C L p + i) = bnN k i) := by
  unfold isW
  rw [decide_eq_true_eq]
  have k4 : knd C L p = 4 → tyE C L (tkS C L p) = nxp C L p := by
    intro h
    refine if_neg (fun q => ?_)
    unfold knd tkK at h
    rw [if_pos q] at h
    omega
  constructor
  · intro h
    obtain ⟨h1, h2⟩ := h
    have h0 := h2 0 hl.2.2
    rw [Nat.add_zero] at h0
    have hk4 : knd C L p = 4 := knd_4 h0.1 (by omega) (by omega)
    rw [k4 hk4] at h1
    exact ⟨hk4, h1, fun i hi => (h2 i hi).2⟩
  · intro h
    obtain ⟨h1, h2, h3⟩ := h
    refine ⟨by rw [k4 h1]; exact h2, fun i hi => ⟨?_, h3 i hi⟩⟩
    exact (word_in hp h1 (tkS C L p + i) (by omega) (by omega)).2.2
theorem vbN_iff (w : Int64) : (vbN w = some 0 ↔ w = nL 542723566) ∧ (vbN w = some 1 ↔ w = nL 24873509529) ∧ (vbN w = some 2 ↔ w = nL 13190215781) ∧ (vbN w = some 3 ↔ w = nL 656779) := by
  have e0 : nL 542723566 = 542723566 := rfl
  have e1 : nL 24873509529 = 24873509529 := rfl
  have e2 : nL 13190215781 = 13190215781 := rfl
  have e3 : nL 656779 = 656779 := rfl
  rw [e0, e1, e2, e3]
  unfold vbN
  by_cases h0 : w = 542723566
  · subst h0; decide
  by_cases h1 : w = 24873509529
  · subst h1; decide
  by_cases h2 : w = 13190215781
  · subst h2; decide
  by_cases h3 : w = 656779
  · subst h3; decide
  rw [if_neg h0, if_neg h1, if_neg h2, if_neg h3]
  simp [h0, h1, h2, h3]

theorem isW_person {C : Nat → Nat} {L p : Nat} (hp : p ≤ L) : isW C L (tkS C L p) (tyE C L (tkS C L p)) 0 = true ↔ prV C L p = some 0 := by
  rw [isW_iff hp (by decide) (by decide)]
  unfold prV
  by_cases h : knd C L p = 4
  · rw [if_pos h, (vbN_iff _).1, wdV_eq (by decide) (fun j hj => ⟨(word_in hp h (tkS C L p + j) (by omega) (by omega)).1, (word_in hp h (tkS C L p + j) (by omega) (by omega)).2.1⟩), wd_person (fun j hj => ⟨(word_in hp h (tkS C L p + j) (by omega) (by omega)).1, (word_in hp h (tkS C L p + j) (by omega) (by omega)).2.1⟩)]
    exact ⟨fun q => q.2, fun q => ⟨h, q⟩⟩
  · rw [if_neg h]
    exact ⟨fun q => absurd q.1 h, fun q => by cases q⟩
theorem isW_weighty {C : Nat → Nat} {L p : Nat} (hp : p ≤ L) : isW C L (tkS C L p) (tyE C L (tkS C L p)) 2 = true ↔ prV C L p = some 1 := by
  rw [isW_iff hp (by decide) (by decide)]
  unfold prV
  by_cases h : knd C L p = 4
  · rw [if_pos h, (vbN_iff _).2.1, wdV_eq (by decide) (fun j hj => ⟨(word_in hp h (tkS C L p + j) (by omega) (by omega)).1, (word_in hp h (tkS C L p + j) (by omega) (by omega)).2.1⟩), wd_weighty (fun j hj => ⟨(word_in hp h (tkS C L p + j) (by omega) (by omega)).1, (word_in hp h (tkS C L p + j) (by omega) (by omega)).2.1⟩)]
    exact ⟨fun q => q.2, fun q => ⟨h, q⟩⟩
  · rw [if_neg h]
    exact ⟨fun q => absurd q.1 h, fun q => by cases q⟩
theorem isW_licence {C : Nat → Nat} {L p : Nat} (hp : p ≤ L) : isW C L (tkS C L p) (tyE C L (tkS C L p)) 3 = true ↔ prV C L p = some 2 := by
  rw [isW_iff hp (by decide) (by decide)]
  unfold prV
  by_cases h : knd C L p = 4
  · rw [if_pos h, (vbN_iff _).2.2.1, wdV_eq (by decide) (fun j hj => ⟨(word_in hp h (tkS C L p + j) (by omega) (by omega)).1, (word_in hp h (tkS C L p + j) (by omega) (by omega)).2.1⟩), wd_licence (fun j hj => ⟨(word_in hp h (tkS C L p + j) (by omega) (by omega)).1, (word_in hp h (tkS C L p + j) (by omega) (by omega)).2.1⟩)]
    exact ⟨fun q => q.2, fun q => ⟨h, q⟩⟩
  · rw [if_neg h]
    exact ⟨fun q => absurd q.1 h, fun q => by cases q⟩
theorem isW_talk {C : Nat → Nat} {L p : Nat} (hp : p ≤ L) : isW C L (tkS C L p) (tyE C L (tkS C L p)) 4 = true ↔ prV C L p = some 3 := by
  rw [isW_iff hp (by decide) (by decide)]
  unfold prV
  by_cases h : knd C L p = 4
  · rw [if_pos h, (vbN_iff _).2.2.2, wdV_eq (by decide) (fun j hj => ⟨(word_in hp h (tkS C L p + j) (by omega) (by omega)).1, (word_in hp h (tkS C L p + j) (by omega) (by omega)).2.1⟩), wd_talk (fun j hj => ⟨(word_in hp h (tkS C L p + j) (by omega) (by omega)).1, (word_in hp h (tkS C L p + j) (by omega) (by omega)).2.1⟩)]
    exact ⟨fun q => q.2, fun q => ⟨h, q⟩⟩
  · rw [if_neg h]
    exact ⟨fun q => absurd q.1 h, fun q => by cases q⟩
