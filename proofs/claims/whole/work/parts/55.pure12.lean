/-! ===== child ===== -/
theorem suB_iff {d s : Nat} (hs : s < 1024) : suB d s = true ↔ ∀ i, s.testBit i = true → d.testBit i = true := by
  unfold suB
  rw [decide_eq_true_eq]
  constructor
  · intro h i hi
    have e := congrArg (fun z => Nat.testBit z i) h
    simp only [Nat.testBit_and, Nat.zero_testBit, tb_c10, hi, Bool.true_and] at e
    by_cases h10 : i < 10
    · rw [decide_eq_true h10] at e
      cases hd : d.testBit i with
      | true => rfl
      | false => rw [hd] at e; cases e
    · rw [tb_small hs (by omega)] at hi
      cases hi
  · intro h
    apply Nat.eq_of_testBit_eq
    intro i
    rw [Nat.testBit_and, tb_c10, Nat.zero_testBit]
    cases hi : s.testBit i with
    | false => rfl
    | true =>
      rw [h i hi]
      by_cases h10 : i < 10
      · rw [decide_eq_true h10]; rfl
      · rw [tb_small hs (by omega)] at hi; cases hi
theorem tb_add {n s i : Nat} (hs : s < 2 ^ n) : (2 ^ n + s).testBit i = (decide (i = n) || s.testBit i) := by
  rw [show 2 ^ n + s = 2 ^ n * 1 + s by rw [Nat.mul_one], Nat.testBit_two_pow_mul_add _ hs]
  by_cases h : i < n
  · rw [if_pos h, decide_eq_false (by omega)]; rfl
  · rw [if_neg h]
    by_cases e : i = n
    · rw [decide_eq_true e, e, Nat.sub_self]; rfl
    · rw [decide_eq_false e, Nat.testBit_lt_two_pow (Nat.lt_of_lt_of_le hs (Nat.pow_le_pow_right (by omega) (by omega)))]
      rw [show (1 : Nat) = 2 ^ 0 from rfl, Nat.testBit_two_pow, decide_eq_false (by omega)]; rfl
theorem su_cnt {d : Nat} : ∀ n, n ≤ 10 → cU (suB d) (2 ^ n) = 2 ^ pcN d n
  | 0, _ => by
    show 0 + (if suB d 0 = true then 1 else 0) = 1
    rw [if_pos ((suB_iff (by omega)).mpr (fun i hi => by rw [Nat.zero_testBit] at hi; cases hi))]
  | n + 1, hn => by
    have e2 : 2 ^ (n + 1) = 2 ^ n + 2 ^ n := by rw [Nat.pow_succ]; omega
    have hp : 2 ^ (n + 1) ≤ 1024 := Nat.pow_le_pow_right (n := 2) (by omega) hn
    have ih := su_cnt (d := d) n (by omega)
    have hb : d / 2 ^ n % 2 = if d.testBit n = true then 1 else 0 := by
      rw [Nat.testBit_eq_decide_div_mod_eq]
      have : d / 2 ^ n % 2 < 2 := Nat.mod_lt _ (by omega)
      by_cases h : d / 2 ^ n % 2 = 1
      · rw [decide_eq_true h, if_pos rfl]; exact h
      · rw [decide_eq_false h, if_neg Bool.false_ne_true]; omega
    rw [e2, cU_add, pcN, hb, ih]
    cases hd : d.testBit n with
    | true =>
      rw [cU_congr (P' := suB d) (2 ^ n) (fun s hs => ?_), ih, if_pos rfl, Nat.pow_succ]
      · omega
      · have h1 : s < 1024 := by omega
        have h2 : 2 ^ n + s < 1024 := by omega
        rw [Bool.eq_iff_iff, suB_iff h1, suB_iff h2]
        constructor
        · intro h i hi
          exact h i (by rw [tb_add hs, hi, Bool.or_true])
        · intro h i hi
          rw [tb_add hs] at hi
          by_cases e : i = n
          · rw [e]; exact hd
          · rw [decide_eq_false e, Bool.false_or] at hi
            exact h i hi
    | false =>
      rw [cU_none (fun s hs => ?_), if_neg Bool.false_ne_true, Nat.add_zero, Nat.add_zero]
      have h2 : 2 ^ n + s < 1024 := by omega
      cases hsu : suB d (2 ^ n + s) with
      | false => rfl
      | true =>
        have := (suB_iff h2).mp hsu n (by rw [tb_add hs, decide_eq_true rfl, Bool.true_or])
        rw [hd] at this
        cases this
theorem chP_pm {w x d t j l : Nat} (hx : x < 1024) (hd : d < 1024) (ht : t < 1024) (hj : j ≤ 20) (hl : l < 1024) : chP (nI w) (nI x) (nI d) (nI t) (nI j) l = faB w d x t j (l ^^^ (x &&& d)) := by
  have hm : x &&& d < 1024 := and_lt hx
  have hlm : l ^^^ (x &&& d) < 1024 := xor_lt hl hm
  unfold chP faB opn
  rw [and_c10 hl, and_c10 hx, nI_or]
  have hc : (x &&& c10 d) ||| l < 1024 := or_lt (and_lt hx) hl
  rw [dst_nI hc ht]
  have hcn := cn_le (w := w) (x := ((x &&& c10 d) ||| l) ^^^ t)
  have e1 : decide (nI (l &&& c10 d) = 0) = suB d l := by
    unfold suB
    rw [Bool.eq_iff_iff, decide_eq_true_eq, decide_eq_true_eq]
    exact nI_eq (b := 0) (by have := and_lt (b := c10 d) hl; omega) (by omega)
  have e2 : decide (¬ nI (cn w (((x &&& c10 d) ||| l) ^^^ t)) < nI j) = decide (j ≤ cn w (((x &&& c10 d) ||| l) ^^^ t)) := by
    rw [Bool.eq_iff_iff, decide_eq_true_eq, decide_eq_true_eq, nI_ltI (by omega) (by omega)]
    omega
  rw [e1, e2]
  have e3 : suB d l = suB d (l ^^^ (x &&& d)) := by
    rw [Bool.eq_iff_iff, suB_iff hl, suB_iff hlm]
    constructor
    · intro h i hi
      rw [Nat.testBit_xor, Nat.testBit_and] at hi
      cases hdi : d.testBit i with
      | true => rfl
      | false =>
        rw [hdi, Bool.and_false, Bool.xor_false] at hi
        have := h i hi
        rw [hdi] at this
        exact this
    · intro h i hi
      cases hdi : d.testBit i with
      | true => rfl
      | false =>
        have := h i (by rw [Nat.testBit_xor, Nat.testBit_and, hdi, Bool.and_false, Bool.xor_false]; exact hi)
        rw [hdi] at this
        exact this
  rw [← e3]
  cases hsu : suB d l with
  | false => rfl
  | true =>
    have hs := (suB_iff hl).mp hsu
    have e4 : (x &&& c10 d) ||| l = x ^^^ (l ^^^ (x &&& d)) := by
      apply Nat.eq_of_testBit_eq
      intro i
      rw [Nat.testBit_or, Nat.testBit_and, tb_c10, Nat.testBit_xor, Nat.testBit_xor, Nat.testBit_and]
      by_cases h10 : i < 10
      · rw [decide_eq_true h10]
        cases hli : l.testBit i with
        | true => rw [hs i hli]; cases x.testBit i <;> rfl
        | false => cases x.testBit i <;> cases d.testBit i <;> rfl
      · rw [tb_small hx (by omega), tb_small hl (by omega)]; rfl
    rw [e4]
theorem ch_cnt {w x d t j : Nat} (hx : x < 1024) (hd : d < 1024) (ht : t < 1024) (hj : j ≤ 20) : cU (chP (nI w) (nI x) (nI d) (nI t) (nI j)) 1024 = cU (faB w d x t j) 1024 := by
  rw [cU_congr 1024 (fun l hl => chP_pm hx hd ht hj hl)]
  exact cU_xor 10 (x &&& d) (faB w d x t j) (and_lt hx)
theorem cU_mono {P P' : Nat → Bool} (h : ∀ j, P j = true → P' j = true) : ∀ n, cU P n ≤ cU P' n
  | 0 => Nat.le_refl _
  | n + 1 => by
    have := cU_mono h n
    rw [cU, cU]
    cases hp : P n with
    | false => rw [if_neg Bool.false_ne_true]; split <;> omega
    | true => rw [if_pos rfl, if_pos (h n hp)]; omega
theorem ch_pm {w x d t j : Nat} (hx : x < 1024) (hd : d < 1024) (ht : t < 1024) (hj : j ≤ 20) : hvN (cU (chP (nI w) (nI x) (nI d) (nI t) (nI j)) 1024) (pcN d 10) (pcN d 10) = (cU (faB w d x t j) 1024 / gcR 2000 (cU (faB w d x t j) 1024) (cU (suB d) 1024), cU (suB d) 1024 / gcR 2000 (cU (faB w d x t j) 1024) (cU (suB d) 1024)) := by
  have h1 : cU (suB d) 1024 = 2 ^ pcN d 10 := su_cnt 10 (Nat.le_refl _)
  have h2 : cU (faB w d x t j) 1024 ≤ cU (suB d) 1024 := cU_mono (fun s hs => (Bool.and_eq_true_iff.mp hs).1) 1024
  have h3 := pcN_le d 10
  rw [ch_cnt hx hd ht hj, h1]
  rw [h1] at h2
  exact hv_gc (pcN d 10) (by omega) _ (by omega)
