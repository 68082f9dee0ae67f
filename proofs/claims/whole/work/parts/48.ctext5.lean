/-! ===== TownText.tellTo ===== -/
theorem sem_iff {C : Nat → Nat} {L q : Nat} : isr C L 59 59 (tkS C L q) = true ↔ knd C L q = 3 := by
  unfold knd tkK isr
  simp only [decide_eq_true_eq]
  constructor
  · intro h
    rw [if_neg (by omega), if_neg (by omega), if_neg (by omega), if_pos (by omega)]
  · intro h
    split at h
    · omega
    · split at h
      · omega
      · split at h
        · split at h <;> omega
        · split at h
          · rename_i z1 z2 z3 z4
            refine ⟨?_, by omega, by omega⟩
            exact Classical.byContradiction (fun q => by
              have hle : L ≤ tkS C L q := by omega
              sorry)
          · omega
