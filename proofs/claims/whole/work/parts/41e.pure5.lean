/-! ===== swayed, law ===== -/
def sn (B : Nat → Nat) : Nat → Nat := fun p => if p < 6 then B (20 + p) else 0
theorem jsR_iff {B T : Nat → Nat} : ∀ k, jsR B T k = true ↔ ∀ p, p < k → T p = B (20 + p)
  | 0 => ⟨fun _ p hp => by omega, fun _ => rfl⟩
  | k + 1 => by
    rw [jsR, Bool.and_eq_true, jsR_iff k, decide_eq_true_eq]
    constructor
    · intro h p hp
      by_cases e : p = k
      · rw [e]; exact h.2
      · exact h.1 p (by omega)
    · intro h
      exact ⟨fun p hp => h p (by omega), h k (by omega)⟩
theorem sw_pm {B : Nat → Nat} {ki : Nat → Int32} {a b : Nat} (h : CR B ki) (h20 : ∀ p, p < 6 → B (20 + p) < 1024) (hz : ∀ p, B 0 ≤ p → p < 6 → B (14 + p) = 0 ∧ B (20 + p) = 0) (hab : a < b) (hb : b < B 0) : swP (B 0) ki (nI (B 5)) (pm (nw B)) (pm (sn B)) a b = syP B a b := by
  have h0 := h.1.1
  have hS := nw_ok h.1
  have hT := tlN_ok (B := B) (S := nw B) (i := a) (j := b) (by omega) (by omega) hS
  have hN : SOK (sn B) := fun p hp => by unfold sn; rw [if_pos hp]; exact h20 p hp
  unfold swP syP
  have e : btN (B 0) ki (nI (B 5)) (pm (nw B)) a b = pm (tlN B (nw B) a b) := by
    unfold btN
    rw [if_pos ⟨by omega, hb, by omega⟩]
    exact btN_pm h hS (by omega) hb (by omega)
  rw [e]
  cases hj : jsR B (tlN B (nw B) a b) (B 0) with
  | true =>
    have hj := (jsR_iff _).mp hj
    refine decide_eq_true (pm_congr (fun p hp => ?_))
    unfold sn
    rw [if_pos hp]
    by_cases hpn : p < B 0
    · exact hj p hpn
    · rw [tlN_hi (by omega) (by omega), nw_in hp, (hz p (by omega) hp).1, (hz p (by omega) hp).2]
  | false =>
    refine decide_eq_false (fun q => ?_)
    have := pkR_inj hT hN q
    have hj2 : jsR B (tlN B (nw B) a b) (B 0) = true := (jsR_iff _).mpr (fun p hp => by
      have := this p (by omega)
      unfold sn at this
      rw [if_pos (by omega)] at this
      exact this)
    rw [hj] at hj2
    cases hj2
theorem swI_congr {P P' : Nat → Nat → Bool} {a : Nat} {s : Nat × Option Nat} : ∀ k, (∀ j, j < k → P a (a + 1 + j) = P' a (a + 1 + j)) → swI P a s k = swI P' a s k
  | 0, _ => rfl
  | k + 1, h => by rw [swI, swI, swI_congr k (fun j hj => h j (by omega)), h k (by omega)]
theorem swO_congr {P P' : Nat → Nat → Bool} {n : Nat} (h : ∀ a b, a < b → b < n → P a b = P' a b) : ∀ a, a ≤ n → swO P n a = swO P' n a
  | 0, _ => rfl
  | a + 1, ha => by
    rw [swO, swO, swO_congr h a (by omega)]
    exact swI_congr _ (fun j hj => h a (a + 1 + j) (by omega) (by omega))
/-! law -/
theorem cfM_iff {B : Nat → Nat} {a b : Nat} : ∀ k, cfM B a b k = true ↔ ∀ j, j < k → ((a ≤ B (42 + 2 * j) ∧ B (42 + 2 * j) ≤ b) ↔ B (43 + 2 * j) = 1)
  | 0 => ⟨fun _ p hp => by omega, fun _ => rfl⟩
  | k + 1 => by
    rw [cfM, Bool.and_eq_true, cfM_iff k, beq_iff_eq]
    constructor
    · intro h p hp
      by_cases e : p = k
      · rw [e]; exact decide_eq_decide.mp h.2
      · exact h.1 p (by omega)
    · intro h
      exact ⟨fun p hp => h p (by omega), decide_eq_decide.mpr (h k (by omega))⟩
theorem cf_pm {B : Nat → Nat} {ca clt : Nat → Int32} {a b : Nat} (hc : ∀ j, j < B 4 → ca j = nI (B (42 + 2 * j)) ∧ clt j = nI (B (43 + 2 * j)) ∧ B (42 + 2 * j) ≤ 20 ∧ B (43 + 2 * j) ≤ 1) (ha : a < 100) (hb : b < 100) : cfB ca clt (B 4) a b = cfM B a b (B 4) := by
  have key : ∀ j, j < B 4 → (ins (ca j) (nI a) (nI b) = clt j ↔ ((a ≤ B (42 + 2 * j) ∧ B (42 + 2 * j) ≤ b) ↔ B (43 + 2 * j) = 1)) := by
    intro j hj
    obtain ⟨c1, c2, c3, c4⟩ := hc j hj
    have el := lic_nI (a := a) (b := b) (c := B (42 + 2 * j)) ha hb (by omega)
    rw [c1, c2]
    unfold ins
    by_cases h : a ≤ B (42 + 2 * j) ∧ B (42 + 2 * j) ≤ b
    · rw [if_pos (el.mpr h)]
      constructor
      · intro q
        have := (nI_eq (a := 1) (b := B (43 + 2 * j)) (by omega) (by omega)).mp q
        exact ⟨fun _ => this.symm, fun _ => h⟩
      · intro q; rw [q.mp h]; rfl
    · rw [if_neg (fun q => h (el.mp q))]
      constructor
      · intro q
        have := (nI_eq (a := 0) (b := B (43 + 2 * j)) (by omega) (by omega)).mp q
        exact ⟨fun w => absurd w h, fun w => by omega⟩
      · intro q
        have : B (43 + 2 * j) = 0 := by
          rcases (by omega : B (43 + 2 * j) = 0 ∨ B (43 + 2 * j) = 1) with w | w
          · exact w
          · exact absurd (q.mpr w) h
        rw [this]; rfl
  unfold cfB
  cases hm : cfM B a b (B 4) with
  | true => exact decide_eq_true (fun j hj => (key j hj).mpr ((cfM_iff _).mp hm j hj))
  | false =>
    refine decide_eq_false (fun q => ?_)
    have := (cfM_iff (B := B) (a := a) (b := b) (B 4)).mpr (fun j hj => (key j hj).mp (q j hj))
    rw [hm] at this
    cases this
theorem laI_congr {P P' : Nat → Nat → Bool} {a : Nat} {s : Nat × Option Nat × Nat} : ∀ k, (∀ j, j < k → P a (a + j) = P' a (a + j)) → laI P a s k = laI P' a s k
  | 0, _ => rfl
  | k + 1, h => by rw [laI, laI, laI_congr k (fun j hj => h j (by omega)), h k (by omega)]
/-- alike but for the width while none is found -/
def laR (s t : Nat × Option Nat × Nat) : Prop := s.1 = t.1 ∧ s.2.1 = t.2.1 ∧ (s.2.2 = t.2.2 ∨ (s.2.2 = 21 ∧ t.2.2 = 100 ∧ s.2.1 = none))
theorem laI_R {P : Nat → Nat → Bool} {a : Nat} {s t : Nat × Option Nat × Nat} (h : laR s t) : ∀ k, k ≤ 21 → laR (laI P a s k) (laI P a t k)
  | 0, _ => h
  | k + 1, hk => by
    obtain ⟨h1, h2, h3⟩ := laI_R (P := P) (a := a) h k (by omega)
    rw [laI, laI]
    by_cases hp : P a (a + k) = true
    · rw [if_pos hp, if_pos hp]
      rcases h3 with h3 | ⟨h4, h5, h6⟩
      · by_cases hw : k < (laI P a s k).2.2
        · rw [if_pos hw, if_pos (by omega)]
          exact ⟨by show _ + 1 = _ + 1; rw [h1], rfl, Or.inl rfl⟩
        · rw [if_neg hw, if_neg (by omega)]
          exact ⟨by show _ + 1 = _ + 1; rw [h1], h2, Or.inl h3⟩
      · rw [if_pos (by omega), if_pos (by omega)]
        exact ⟨by show _ + 1 = _ + 1; rw [h1], rfl, Or.inl rfl⟩
    · rw [if_neg hp, if_neg hp]
      exact ⟨h1, h2, h3⟩
theorem laO_R {P P' : Nat → Nat → Bool} (h : ∀ a b, a < 21 → b < 21 → P a b = P' a b) : ∀ a, a ≤ 21 → laR (laO P a) (laM P' a)
  | 0, _ => ⟨rfl, rfl, Or.inr ⟨rfl, rfl, rfl⟩⟩
  | a + 1, ha => by
    have ih := laO_R h a (by omega)
    rw [laO, laM, laI_congr (P := P) (P' := P') (21 - a) (fun j hj => h a (a + j) (by omega) (by omega))]
    exact laI_R ih _ (by omega)
