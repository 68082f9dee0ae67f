/-! ===== a talk: the class's and the reference's ===== -/
theorem tkN_tb {x y b i : Nat} : (tkN x y b).testBit i = ((x.testBit i && (decide (i < 10) ^^ b.testBit i)) || (y.testBit i && b.testBit i)) := by
  unfold tkN
  rw [Nat.testBit_or, Nat.testBit_and, Nat.testBit_and, tb_c10]
theorem p2_tb {m i : Nat} : (2 ^ m).testBit i = decide (m = i) := Nat.testBit_two_pow
theorem mbh_nI : ∀ m, m < 10 → mbh (nI (2 ^ m)) = nI (2 ^ ((m + 1) % 10)) := by decide
theorem and_p2 {w m : Nat} : (w &&& 2 ^ m = 0) ↔ w.testBit m = false := by
  constructor
  · intro h
    have := congrArg (fun z => Nat.testBit z m) h
    simp only [Nat.testBit_and, p2_tb, Nat.zero_testBit] at this
    simpa using this
  · intro h
    apply Nat.eq_of_testBit_eq
    intro i
    rw [Nat.testBit_and, p2_tb, Nat.zero_testBit]
    by_cases e : m = i
    · subst e; rw [h, Bool.false_and]
    · rw [decide_eq_false e, Bool.and_false]
theorem con_eq {x p m n : Nat} (hx : x < 1024) (hp : p < 1024) (hn : n < 10) (h : p.testBit n = x.testBit n) : p ^^^ 2 ^ n = (p &&& c10 (2 ^ n)) ||| (2 ^ n &&& c10 x) := by
  apply Nat.eq_of_testBit_eq
  intro i
  rw [Nat.testBit_xor, Nat.testBit_or, Nat.testBit_and, Nat.testBit_and, tb_c10, tb_c10, p2_tb]
  by_cases e : n = i
  · subst e
    rw [h, decide_eq_true (show n < 10 from hn), decide_eq_true (show n = n from rfl)]
    cases x.testBit n <;> rfl
  · rw [decide_eq_false e]
    by_cases hi : i < 10
    · rw [decide_eq_true hi]
      cases p.testBit i <;> rfl
    · rw [tb_small hp (by omega)]
      rfl
theorem fic_eq {x y b n : Nat} (hx : x < 1024) (hy : y < 1024) (hb : b < 1024) (hn : n < 1024) : tkN x y (b ||| n) = tkN (tkN x y b) y n := by
  apply Nat.eq_of_testBit_eq
  intro i
  rw [tkN_tb, tkN_tb, tkN_tb, Nat.testBit_or]
  by_cases hi : i < 10
  · rw [decide_eq_true hi]
    cases x.testBit i <;> cases y.testBit i <;> cases b.testBit i <;> cases n.testBit i <;> rfl
  · rw [tb_small hx (by omega), tb_small hy (by omega)]
    rfl
theorem lgN_tb {w x y i : Nat} : (lgN w x y).testBit i = ((x ^^^ y).testBit i && (decide (i < 10) ^^ w.testBit i)) := by
  unfold lgN
  rw [Nat.testBit_and, tb_c10]
theorem hrd_nI {k w i j x y m : Nat} {o v : Int32} (hk : k < 6) (hx : x < 1024) (hy : y < 1024) (hm : m < 10) (ho : o = 0 ↔ ¬ j < i) (hv : v = 0 ↔ w &&& 2 ^ m = 0) : hrd (nI k) (nI x) (nI y) o (nI (2 ^ m)) v = nI (swN k w i j x y (2 ^ m) (2 ^ ((m + 1) % 10))) := by
  have hn := Nat.mod_lt (m + 1) (show 10 > 0 by omega)
  have ep : pln (nI x) (nI y) o (nI (2 ^ m)) = nI (plN i j x y (2 ^ m)) := by
    unfold pln plN
    by_cases h : j < i
    · rw [if_neg (fun q => ho.mp q h), if_pos h, tkn_nI hx]
    · rw [if_pos (ho.mpr h), if_neg h]
  have er : prd (nI x) (nI y) o (nI (2 ^ m)) v = nI (prN w i j x y (2 ^ m)) := by
    unfold prd prN
    by_cases h : w &&& 2 ^ m = 0
    · rw [if_pos (hv.mpr h), if_pos h, ep]
    · rw [if_neg (fun q => h (hv.mp q)), if_neg h]
  have hpr := prN_lt (w := w) (i := i) (j := j) (b := 2 ^ m) hx hy
  have hbit : (prN w i j x y (2 ^ m)).testBit ((m + 1) % 10) = x.testBit ((m + 1) % 10) := by
    unfold prN plN
    have ht : (tkN x y (2 ^ m)).testBit ((m + 1) % 10) = x.testBit ((m + 1) % 10) := by
      rw [tkN_tb, p2_tb, decide_eq_false (show ¬ m = (m + 1) % 10 by omega), decide_eq_true hn]
      simp
    split
    · split
      · exact ht
      · rfl
    · rfl
  have q : ∀ c, c < 6 → ((nI k = nI c) ↔ k = c) := fun c hc => nI_eq (by omega) (by omega)
  have q0 : nI k = 0 ↔ k = 0 := q 0 (by omega)
  have q1 : nI k = 1 ↔ k = 1 := q 1 (by omega)
  have q2 : nI k = 2 ↔ k = 2 := q 2 (by omega)
  have q3 : nI k = 3 ↔ k = 3 := q 3 (by omega)
  have q4 : nI k = 4 ↔ k = 4 := q 4 (by omega)
  have q5 : nI k = 5 ↔ k = 5 := q 5 (by omega)
  unfold hrd swN
  by_cases h0 : k = 0
  · rw [if_pos (q0.mpr h0), if_pos h0, ep]
  rw [if_neg (fun z => h0 (q0.mp z)), if_neg h0]
  by_cases h1 : k = 1
  · rw [if_pos (q1.mpr h1), if_pos h1, er]
  rw [if_neg (fun z => h1 (q1.mp z)), if_neg h1]
  by_cases h2 : k = 2
  · rw [if_pos (q2.mpr h2), if_pos h2, tkn_nI hx]
  rw [if_neg (fun z => h2 (q2.mp z)), if_neg h2]
  by_cases h3 : k = 3
  · rw [if_pos (q3.mpr h3), if_pos h3, er, mbh_nI m hm, nI_xor, con_eq (m := m) hx hpr hn hbit]
  rw [if_neg (fun z => h3 (q3.mp z)), if_neg h3]
  by_cases h4 : k = 4
  · rw [if_pos (q4.mpr h4), if_pos h4]
  rw [if_neg (fun z => h4 (q4.mp z)), if_neg h4, if_pos (q5.mpr (by omega)), mbh_nI m hm, nI_or, tkn_nI hx, fic_eq hx hy (p2_lt m hm) (p2_lt _ hn)]
theorem btk_pm {B S : Nat → Nat} {ki : Nat → Int32} {a b : Nat} (ha : a < 6) (hb : b < 6) (hab : a ≠ b) (hS : SOK S) (ka : ki a = nI (B (8 + a))) (kb : ki b = nI (B (8 + b))) (hk : ∀ p, p < 6 → B (8 + p) < 6) : btk ki (nI (B 5)) (pm S) a b = pm (tlN B S a b) := by
  have hSa := hS a ha
  have hSb := hS b hb
  have hd := xor_lt hSa hSb
  have hl := lgN_lt (w := B 5) hSa hSb
  have ho := ofN_lt (w := B 5) hSa hSb
  have ed : dif (pm S) (nI a) (nI b) = nI (S a ^^^ S b) := by unfold dif; rw [mo_pm hS ha, mo_pm hS hb, nI_xor]
  have el : lig (nI (B 5)) (pm S) (nI a) (nI b) = nI (lgN (B 5) (S a) (S b)) := by unfold lig; rw [ed]; exact and_c10 hd _
  have e0 : nI (lgN (B 5) (S a) (S b)) = 0 ↔ lgN (B 5) (S a) (S b) = 0 := nI_eq (b := 0) (by omega) (by omega)
  have em : mat (nI (B 5)) (pm S) (nI a) (nI b) = lob (nI (ofN (B 5) (S a) (S b))) := by
    unfold mat ofN
    rw [el, ed]
    by_cases h : lgN (B 5) (S a) (S b) = 0
    · rw [if_pos (e0.mpr h), if_pos h]
    · rw [if_neg (fun q => h (e0.mp q)), if_neg h]
  have ei : isw (nI (B 5)) (pm S) (nI a) (nI b) = if lgN (B 5) (S a) (S b) = 0 then 1 else 0 := by
    unfold isw
    rw [el]
    by_cases h : lgN (B 5) (S a) (S b) = 0
    · rw [if_pos (e0.mpr h), if_pos h]
    · rw [if_neg (fun q => h (e0.mp q)), if_neg h]
  unfold btk tlN
  rw [em]
  by_cases hz : ofN (B 5) (S a) (S b) = 0
  · rw [if_pos hz, hz]
    exact if_pos (by decide)
  · obtain ⟨m1, m2⟩ := lsb_lt _ ho (by omega)
    have e2 : lob (nI (ofN (B 5) (S a) (S b))) = nI (2 ^ lsb (ofN (B 5) (S a) (S b))) := lob_nI _ ho (by omega)
    have hw : (isw (nI (B 5)) (pm S) (nI a) (nI b) = 0) ↔ B 5 &&& 2 ^ lsb (ofN (B 5) (S a) (S b)) = 0 := by
      rw [ei, and_p2]
      by_cases h : lgN (B 5) (S a) (S b) = 0
      · rw [if_pos h]
        have eo : ofN (B 5) (S a) (S b) = S a ^^^ S b := by rw [ofN, if_pos h]
        rw [eo] at m1 m2 ⊢
        have h3 := congrArg (fun z => Nat.testBit z (lsb (S a ^^^ S b))) h
        simp only [lgN, Nat.testBit_and, Nat.zero_testBit, m2, tb_c10, decide_eq_true m1, Bool.true_and, Bool.true_xor] at h3
        constructor
        · intro q; exact absurd q (by decide)
        · intro q; rw [q] at h3; exact absurd h3 (by decide)
      · rw [if_neg h]
        have eo : ofN (B 5) (S a) (S b) = lgN (B 5) (S a) (S b) := by rw [ofN, if_neg h]
        rw [eo] at m1 m2 ⊢
        rw [lgN_tb, decide_eq_true m1] at m2
        constructor
        · intro _
          cases hb5 : (B 5).testBit (lsb (lgN (B 5) (S a) (S b))) with
          | false => rfl
          | true => rw [hb5] at m2; simp at m2
        · intro _; rfl
    have hne : ¬ nI (2 ^ lsb (ofN (B 5) (S a) (S b))) = 0 := by
      have := p2_lt _ m1
      have := Nat.one_le_two_pow (n := lsb (ofN (B 5) (S a) (S b)))
      exact nI_ne0 (by omega) (by omega)
    have lt1 : ltI (nI b) (nI a) = 0 ↔ ¬ b < a := by
      unfold ltI
      by_cases h : a ≤ b
      · rw [if_pos (nI_le h (by omega))]; exact ⟨fun _ => by omega, fun _ => rfl⟩
      · rw [if_neg (nI_ge (by omega) (by omega))]; exact ⟨fun q => absurd q (by decide), fun q => by omega⟩
    have lt2 : ltI (nI a) (nI b) = 0 ↔ ¬ a < b := by
      unfold ltI
      by_cases h : b ≤ a
      · rw [if_pos (nI_le h (by omega))]; exact ⟨fun _ => by omega, fun _ => rfl⟩
      · rw [if_neg (nI_ge (by omega) (by omega))]; exact ⟨fun q => absurd q (by decide), fun q => by omega⟩
    have hn := p2_lt ((lsb (ofN (B 5) (S a) (S b)) + 1) % 10) (Nat.mod_lt _ (by omega))
    rw [e2, if_neg hne, if_neg hz, mo_pm hS ha, mo_pm hS hb, ka, kb, hrd_nI (hk a ha) hSa hSb m1 lt1 hw, hrd_nI (hk b hb) hSb hSa m1 lt2 hw, mw_pm hS ha (swN_lt hSa hSb hn), mw_pm (un_ok hS (swN_lt hSa hSb hn)) hb (swN_lt hSb hSa hn)]
