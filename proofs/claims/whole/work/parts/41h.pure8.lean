/-! ===== born ===== -/
theorem brn_pm {x y : Nat} (hx : x < 1024) (hy : y < 1024) (x0 : Int64) : ∀ k, k ≤ 10 → (brn (nI x) (nI y) x0 k).2 = (brM (x ^^^ y) (nI x) x0 k).2 ∧ ∃ c, c < 1024 ∧ (brn (nI x) (nI y) x0 k).1 = nI c ∧ (brM (x ^^^ y) (nI x) x0 k).1 = nI c ∧ ∀ j, k ≤ j → c.testBit j = x.testBit j
  | 0, _ => ⟨rfl, x, hx, rfl, rfl, fun _ _ => rfl⟩
  | k + 1, hk => by
    obtain ⟨h2, c, hc, e1, e2, hb⟩ := brn_pm hx hy x0 k (by omega)
    have hd := xor_lt hx hy
    have hp := p2_lt k (by omega)
    have hw : (x ^^^ y) &&& 2 ^ k < 1024 := Nat.lt_of_le_of_lt Nat.and_le_right hp
    have ez : ((nI x ^^^ nI y) &&& nI (2 ^ k) = 0) ↔ (x ^^^ y).testBit k = false := by
      rw [nI_xor, nI_and, ← and_p2]
      exact nI_eq (b := 0) (by omega) (by omega)
    rw [brn, brM]
    by_cases ht : (x ^^^ y).testBit k = true
    · rw [if_neg (fun q => by rw [ez.mp q] at ht; cases ht), if_pos ht]
      refine ⟨by show nxt _ = nxt _; rw [h2], ?_⟩
      by_cases hl : lg_cmp (lot (nxt (brM (x ^^^ y) (nI x) x0 k).2)) 1 = 0
      · refine ⟨c ^^^ 2 ^ k, xor_lt hc hp, ?_, ?_, fun j hj => ?_⟩
        · show (if lg_cmp (lot (nxt (brn (nI x) (nI y) x0 k).2)) 1 = 0 then ((brn (nI x) (nI y) x0 k).1 &&& opn (nI (2 ^ k))) ||| (nI y &&& nI (2 ^ k)) else (brn (nI x) (nI y) x0 k).1) = _
          rw [h2, if_pos hl, e1]
          unfold opn
          rw [and_c10 hc, nI_and, nI_or]
          congr 1
          apply Nat.eq_of_testBit_eq
          intro i
          rw [Nat.testBit_or, Nat.testBit_and, Nat.testBit_and, Nat.testBit_xor, tb_c10, p2_tb]
          by_cases e : k = i
          · subst e
            rw [hb k (Nat.le_refl _), decide_eq_true (show k < 10 by omega)]
            rw [Nat.testBit_xor] at ht
            revert ht
            cases x.testBit k <;> cases y.testBit k <;> simp
          · rw [decide_eq_false e]
            by_cases hi : i < 10
            · rw [decide_eq_true hi]; simp
            · rw [tb_small hc (by omega)]; simp
        · show (brM (x ^^^ y) (nI x) x0 k).1 ^^^ (if lg_cmp (lot (nxt (brM (x ^^^ y) (nI x) x0 k).2)) 1 = 0 then nI (2 ^ k) else 0) = _
          rw [if_pos hl, e2, nI_xor]
        · rw [Nat.testBit_xor, p2_tb, decide_eq_false (by omega), Bool.xor_false]
          exact hb j (by omega)
      · refine ⟨c, hc, ?_, ?_, fun j hj => hb j (by omega)⟩
        · show (if lg_cmp (lot (nxt (brn (nI x) (nI y) x0 k).2)) 1 = 0 then ((brn (nI x) (nI y) x0 k).1 &&& opn (nI (2 ^ k))) ||| (nI y &&& nI (2 ^ k)) else (brn (nI x) (nI y) x0 k).1) = _
          rw [h2, if_neg hl, e1]
        · show (brM (x ^^^ y) (nI x) x0 k).1 ^^^ (if lg_cmp (lot (nxt (brM (x ^^^ y) (nI x) x0 k).2)) 1 = 0 then nI (2 ^ k) else 0) = _
          rw [if_neg hl, e2]
          exact Int32.xor_zero
    · have hf : (x ^^^ y).testBit k = false := by
        cases hq : (x ^^^ y).testBit k with
        | false => rfl
        | true => exact absurd hq ht
      rw [if_pos (ez.mpr hf), if_neg ht]
      exact ⟨h2, c, hc, e1, e2, fun j hj => hb j (by omega)⟩
