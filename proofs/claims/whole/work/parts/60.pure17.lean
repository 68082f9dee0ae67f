/-! ===== marriages: the most, the first row ===== -/
def mmJ (B : Nat → Nat) (k tk p : Nat) (f : Nat → Nat) (b0 : Nat) : Nat → Nat
  | 0 => b0
  | j + 1 => if frW B k tk p (p + 1 + j) = true then (if mmJ B k tk p f b0 j < 1 + f (tk ||| 2 ^ (p + 1 + j)) then 1 + f (tk ||| 2 ^ (p + 1 + j)) else mmJ B k tk p f b0 j) else mmJ B k tk p f b0 j
def mmN (B : Nat → Nat) (k : Nat) : Nat → Nat → Nat
  | 0, _ => 0
  | d + 1, tk => if tk.testBit (5 - d) = true then mmN B k d tk else mmJ B k tk (5 - d) (mmN B k d) (mmN B k d tk) d
theorem mmJ_0 {B : Nat → Nat} {k tk p b0 : Nat} {f : Nat → Nat} : ∀ j, b0 ≤ mmJ B k tk p f b0 j
  | 0 => Nat.le_refl _
  | j + 1 => by
    have := mmJ_0 (B := B) (k := k) (tk := tk) (p := p) (b0 := b0) (f := f) j
    rw [mmJ]; split
    · split <;> omega
    · exact this
theorem mmJ_le {B : Nat → Nat} {k tk p b0 : Nat} {f : Nat → Nat} : ∀ j i, i < j → frW B k tk p (p + 1 + i) = true → 1 + f (tk ||| 2 ^ (p + 1 + i)) ≤ mmJ B k tk p f b0 j
  | 0, i, hi, _ => by omega
  | j + 1, i, hi, hf => by
    rw [mmJ]
    by_cases q : i = j
    · subst q
      rw [if_pos hf]; split <;> omega
    · have := mmJ_le (b0 := b0) (f := f) j i (by omega) hf
      split
      · split <;> omega
      · exact this
theorem mmJ_at {B : Nat → Nat} {k tk p b0 : Nat} {f : Nat → Nat} : ∀ j, mmJ B k tk p f b0 j = b0 ∨ ∃ i, i < j ∧ frW B k tk p (p + 1 + i) = true ∧ 1 + f (tk ||| 2 ^ (p + 1 + i)) = mmJ B k tk p f b0 j
  | 0 => Or.inl rfl
  | j + 1 => by
    have ih := mmJ_at (B := B) (k := k) (tk := tk) (p := p) (b0 := b0) (f := f) j
    rw [mmJ]
    by_cases h : frW B k tk p (p + 1 + j) = true
    · rw [if_pos h]
      by_cases h2 : mmJ B k tk p f b0 j < 1 + f (tk ||| 2 ^ (p + 1 + j))
      · rw [if_pos h2]; exact Or.inr ⟨j, by omega, h, rfl⟩
      · rw [if_neg h2]
        rcases ih with q | ⟨i, h1, h3, h4⟩
        · exact Or.inl q
        · exact Or.inr ⟨i, by omega, h3, h4⟩
    · rw [if_neg h]
      rcases ih with q | ⟨i, h1, h3, h4⟩
      · exact Or.inl q
      · exact Or.inr ⟨i, by omega, h3, h4⟩
theorem mmN_le {B : Nat → Nat} {k : Nat} : ∀ d tk, mmN B k d tk ≤ d
  | 0, _ => Nat.le_refl _
  | d + 1, tk => by
    rw [mmN]
    split
    · have := mmN_le (B := B) (k := k) d tk; omega
    · rcases mmJ_at (B := B) (k := k) (tk := tk) (p := 5 - d) (b0 := mmN B k d tk) (f := mmN B k d) d with q | ⟨i, _, _, q⟩
      · have := mmN_le (B := B) (k := k) d tk; omega
      · have := mmN_le (B := B) (k := k) d (tk ||| 2 ^ (5 - d + 1 + i)); omega
theorem mmN_hi {B : Nat → Nat} {k : Nat} : ∀ d tk, d + B 0 ≤ 6 → mmN B k d tk = 0
  | 0, _, _ => rfl
  | d + 1, tk, h => by
    rw [mmN, mmN_hi d tk (by omega)]
    split
    · rfl
    · rcases mmJ_at (B := B) (k := k) (tk := tk) (p := 5 - d) (b0 := 0) (f := mmN B k d) d with q | ⟨i, _, h2, _⟩
      · exact q
      · unfold frW at h2
        rw [decide_eq_false (by omega)] at h2
        cases h2
theorem mmo_pm {B : Nat → Nat} {ki : Nat → Int32} {k : Nat} (h : CR B ki) (hk : k ≤ 40) : ∀ d tk, d ≤ 6 → tk < 64 → mmo (wpr (B 1) (B 0) ki (nI (B 5)) (nI (B 6)) (nI (B 7)) (faB_ B) (fbB_ B) (B 2) (pm (nw B)) k) d (nI tk) = nI (mmN B k d tk)
  | 0, tk, _, _ => rfl
  | d + 1, tk, hd, htk => by
    rw [mmo, mmN]
    have hb := bit1 (o := tk) (m := 5 - d) (by omega) (by omega)
    by_cases q : tk.testBit (5 - d) = true
    · rw [if_pos (hb.mpr q), if_pos q]
      exact mmo_pm h hk d tk (by omega) htk
    · rw [if_neg (fun z => q (hb.mp z)), if_neg q, mmo_pm h hk d tk (by omega) htk]
      have hor : ∀ o, o < 6 → tk ||| 2 ^ o < 64 := fun o ho => Nat.or_lt_two_pow (n := 6) htk (Nat.pow_lt_pow_right (by omega) ho)
      have hJ : ∀ j, mmJ B k tk (5 - d) (mmN B k d) (mmN B k d tk) j ≤ 7 := fun j => by
        rcases mmJ_at (B := B) (k := k) (tk := tk) (p := 5 - d) (b0 := mmN B k d tk) (f := mmN B k d) j with q | ⟨i, _, _, q⟩
        · have := mmN_le (B := B) (k := k) d tk; omega
        · have := mmN_le (B := B) (k := k) d (tk ||| 2 ^ (5 - d + 1 + i)); omega
      have key : ∀ j, j ≤ d → mmL (wpr (B 1) (B 0) ki (nI (B 5)) (nI (B 6)) (nI (B 7)) (faB_ B) (fbB_ B) (B 2) (pm (nw B)) k) (nI tk) (5 - d) (mmo (wpr (B 1) (B 0) ki (nI (B 5)) (nI (B 6)) (nI (B 7)) (faB_ B) (fbB_ B) (B 2) (pm (nw B)) k) d) (nI (mmN B k d tk)) j = nI (mmJ B k tk (5 - d) (mmN B k d) (mmN B k d tk) j) := by
        intro j
        induction j with
        | zero => intro _; rfl
        | succ j ih =>
          intro hj
          have ho : 5 - d + 1 + j < 6 := by omega
          rw [mmL, mmJ, ih (by omega), fre_pm h hk htk (by omega) ho, bor_nI (by omega), mmo_pm h hk d _ (by omega) (hor _ ho)]
          by_cases hf : frW B k tk (5 - d) (5 - d + 1 + j) = true
          · rw [if_pos hf, if_pos hf]
            have e1 : (1 : Int32) + nI (mmN B k d (tk ||| 2 ^ (5 - d + 1 + j))) = nI (1 + mmN B k d (tk ||| 2 ^ (5 - d + 1 + j))) := nI_add 1 _
            have l1 := mmN_le (B := B) (k := k) d (tk ||| 2 ^ (5 - d + 1 + j))
            have l2 := hJ j
            rw [e1, mxI_nI (by omega) (by omega)]
          · rw [if_neg hf, if_neg hf]
      exact key d (Nat.le_refl _)
/-! the state: who is promised, to whom, how many couples -/
def stW (B : Nat → Nat) (k : Nat) : Nat → (Nat × (Nat → Nat) × Nat) → Nat → Option (Nat × (Nat → Nat) × Nat) := fun p s d =>
  if s.1.testBit p = true then (if d = s.2.1 p then some s else none)
  else if d = 0 then some s
  else if p < d - 1 ∧ frW B k s.1 p (d - 1) = true then some (s.1 ||| 2 ^ (d - 1), un s.2.1 (d - 1) (p + 1), s.2.2 + 1) else none
theorem stW_e {B : Nat → Nat} {k p d : Nat} {s : Nat × (Nat → Nat) × Nat} : stW B k p s d = if s.1.testBit p = true then (if d = s.2.1 p then some s else none)
  else if d = 0 then some s
  else if p < d - 1 ∧ frW B k s.1 p (d - 1) = true then some (s.1 ||| 2 ^ (d - 1), un s.2.1 (d - 1) (p + 1), s.2.2 + 1) else none := rfl
def vW (B : Nat → Nat) (k : Nat) (_ : Nat) (p : Nat) (s : Nat × (Nat → Nat) × Nat) : Option Nat := some (s.2.2 + mmN B k (6 - p) s.1)
def chP9 (B : Nat → Nat) (k d tk o : Nat) : Bool := decide (5 - d < o) && frW B k tk (5 - d) o && decide (1 + mmN B k d (tk ||| 2 ^ o) = mmN B k (d + 1) tk)
def chW (B : Nat → Nat) (k d tk : Nat) : Nat := if mmN B k d tk = mmN B k (d + 1) tk then 0 else match fsU (chP9 B k d tk) 6 with
  | none => 0
  | some o => o + 1
def gW (B : Nat → Nat) (k : Nat) (_ : Nat) (p : Nat) (s : Nat × (Nat → Nat) × Nat) : Nat := if s.1.testBit p = true then s.2.1 p else chW B k (5 - p) s.1
def iW (p : Nat) (s : Nat × (Nat → Nat) × Nat) : Prop := s.1 < 64 ∧ ∀ q, s.1.testBit q = true → 0 < s.2.1 q ∧ s.2.1 q ≤ p
/-- the choice of one who is not promised -/
theorem chW_sp {B : Nat → Nat} {k d tk : Nat} (hd : d ≤ 5) (htk : ¬ tk.testBit (5 - d) = true) : (chW B k d tk = 0 ∧ mmN B k d tk = mmN B k (d + 1) tk) ∨ (mmN B k d tk ≠ mmN B k (d + 1) tk ∧ ∃ o, chW B k d tk = o + 1 ∧ 5 - d < o ∧ o < 6 ∧ frW B k tk (5 - d) o = true ∧ 1 + mmN B k d (tk ||| 2 ^ o) = mmN B k (d + 1) tk ∧ ∀ o', 5 - d < o' → o' < o → frW B k tk (5 - d) o' = true → 1 + mmN B k d (tk ||| 2 ^ o') ≠ mmN B k (d + 1) tk) := by
  unfold chW
  by_cases h : mmN B k d tk = mmN B k (d + 1) tk
  · rw [if_pos h]; exact Or.inl ⟨rfl, h⟩
  · rw [if_neg h]
    refine Or.inr ⟨h, ?_⟩
    have hP : ∀ o, chP9 B k d tk o = true ↔ (5 - d < o ∧ frW B k tk (5 - d) o = true ∧ 1 + mmN B k d (tk ||| 2 ^ o) = mmN B k (d + 1) tk) := fun o => by
      unfold chP9
      rw [Bool.and_eq_true, Bool.and_eq_true, decide_eq_true_eq, decide_eq_true_eq, and_assoc]
    have hex : ∃ o, o < 6 ∧ chP9 B k d tk o = true := by
      have e : mmN B k (d + 1) tk = mmJ B k tk (5 - d) (mmN B k d) (mmN B k d tk) d := by rw [mmN, if_neg htk]
      rcases mmJ_at (B := B) (k := k) (tk := tk) (p := 5 - d) (b0 := mmN B k d tk) (f := mmN B k d) d with q | ⟨i, h1, h2, h3⟩
      · exact absurd (e.trans q).symm h
      · exact ⟨5 - d + 1 + i, by omega, (hP _).mpr ⟨by omega, h2, by rw [e]; exact h3⟩⟩
    obtain ⟨o0, ho0, hp0⟩ := hex
    cases hf : fsU (chP9 B k d tk) 6 with
    | none =>
      have h0 := (fsU_cU (P := chP9 B k d tk) 6).mp hf
      have := cU_pos (P := chP9 B k d tk) o0 ho0 hp0
      omega
    | some o =>
      obtain ⟨f1, f2, f3⟩ := fsU_sp 6 o hf
      obtain ⟨g1, g2, g3⟩ := (hP o).mp f2
      refine ⟨o, rfl, g1, f1, g2, g3, fun o' h1 h2 h3 h4 => ?_⟩
      have := f3 o' h2
      rw [(hP o').mpr ⟨h1, h3, h4⟩] at this
      cases this
theorem wed_H {B : Nat → Nat} {k : Nat} (h0 : B 0 ≤ 6) : fbH (stW B k) (vW B k) (fun s => s.2.2) (gW B k) iW (B 0 + 1) (B 0) := by
  have step : ∀ (p d : Nat) (s s' : Nat × (Nat → Nat) × Nat), p < B 0 → iW p s → stW B k p s d = some s' → iW (p + 1) s' := by
    intro p d s s' hp hI e
    obtain ⟨tk, pt, c⟩ := s
    obtain ⟨a1, a2⟩ := hI
    rw [stW_e] at e
    dsimp only at *
    by_cases q : tk.testBit p = true
    · rw [if_pos q] at e
      split at e
      · rw [← Option.some.inj e]
        exact ⟨a1, fun q hq => ⟨(a2 q hq).1, by have := (a2 q hq).2; show pt q ≤ p + 1; omega⟩⟩
      · cases e
    · rw [if_neg q] at e
      split at e
      · rw [← Option.some.inj e]
        exact ⟨a1, fun q hq => ⟨(a2 q hq).1, by have := (a2 q hq).2; show pt q ≤ p + 1; omega⟩⟩
      · split at e
        · rename_i hd0 hc
          have hd6 : d - 1 < 6 := by
            have := hc.2
            unfold frW at this
            rw [Bool.and_eq_true, Bool.and_eq_true, decide_eq_true_eq] at this
            omega
          rw [← Option.some.inj e]
          refine ⟨Nat.or_lt_two_pow (n := 6) a1 (Nat.pow_lt_pow_right (by omega) hd6), fun q hq => ?_⟩
          dsimp only at hq ⊢
          rw [or_tb, Bool.or_eq_true, decide_eq_true_eq] at hq
          by_cases z : q = d - 1
          · subst z
            rw [un_s]; omega
          · rw [un_n z]
            rcases hq with hq | hq
            · have := a2 q hq; omega
            · exact absurd hq.symm z
        · cases e
  refine ⟨fun p s d s' hp hI _ e => step p d s s' hp hI e, fun s hI => ?_, fun r p s d s' v hp hI hd e hv => ?_, fun r p s w hp hI hV => ?_⟩
  · unfold vW
    rw [mmN_hi (6 - B 0) _ (by omega)]
    rfl
  · obtain ⟨tk, pt, c⟩ := s
    rw [stW_e] at e
    unfold vW at hv ⊢
    have hv := Option.some.inj hv
    refine ⟨_, rfl, ?_⟩
    rw [← hv]
    have e6 : 6 - p = (5 - p) + 1 := by omega
    have e5 : 6 - (p + 1) = 5 - p := by omega
    rw [e6, e5, mmN, show 5 - (5 - p) = p by omega]
    dsimp only at *
    by_cases q : tk.testBit p = true
    · rw [if_pos q] at e ⊢
      split at e
      · rw [← Option.some.inj e]; exact Nat.le_refl _
      · cases e
    · rw [if_neg q] at e ⊢
      split at e
      · rw [← Option.some.inj e]
        exact Nat.add_le_add_left (mmJ_0 _) _
      · split at e
        · rename_i hd0 hc
          rw [← Option.some.inj e]
          dsimp only
          have hd6 : d - 1 < 6 := by
            have := hc.2
            unfold frW at this
            rw [Bool.and_eq_true, Bool.and_eq_true, decide_eq_true_eq] at this
            omega
          have := mmJ_le (B := B) (k := k) (tk := tk) (p := p) (b0 := mmN B k (5 - p) tk) (f := mmN B k (5 - p)) (5 - p) (d - 1 - (p + 1)) (by omega) (by rw [show p + 1 + (d - 1 - (p + 1)) = d - 1 by omega]; exact hc.2)
          rw [show p + 1 + (d - 1 - (p + 1)) = d - 1 by omega] at this
          omega
        · cases e
  · obtain ⟨tk, pt, c⟩ := s
    unfold vW at hV
    have hV := Option.some.inj hV
    have e6 : 6 - p = (5 - p) + 1 := by omega
    have e5 : 6 - (p + 1) = 5 - p := by omega
    have e55 : 5 - (5 - p) = p := by omega
    dsimp only at hV
    by_cases q : tk.testBit p = true
    · have eg : gW B k r p (tk, pt, c) = pt p := by unfold gW; exact if_pos q
      have := hI.2 p q
      dsimp only at this
      refine ⟨by rw [eg]; omega, (tk, pt, c), ?_, ?_, fun d s'' hd e => ?_⟩
      · rw [stW_e, eg]
        dsimp only
        rw [if_pos q, if_pos rfl]
      · unfold vW
        dsimp only
        rw [← hV, e6, e5, mmN, e55, if_pos q]
      · rw [stW_e] at e
        dsimp only at e
        rw [if_pos q, if_neg (by rw [eg] at hd; omega)] at e
        cases e
    · have eg : gW B k r p (tk, pt, c) = chW B k (5 - p) tk := by unfold gW; exact if_neg q
      rw [eg]
      have hch := chW_sp (B := B) (k := k) (d := 5 - p) (tk := tk) (by omega) (by rw [e55]; exact q)
      rw [e55] at hch
      rcases hch with ⟨c1, c2⟩ | ⟨c0, o, c1, c2, c3, c4, c5, c6⟩
      · rw [c1]
        refine ⟨by omega, (tk, pt, c), ?_, ?_, fun d s'' hd e => absurd hd (Nat.not_lt_zero d)⟩
        · rw [stW_e]
          dsimp only
          rw [if_neg q, if_pos rfl]
        · unfold vW
          dsimp only
          rw [← hV, e5, e6, c2]
      · have hon : o < B 0 := by
          unfold frW at c4
          rw [Bool.and_eq_true, Bool.and_eq_true, decide_eq_true_eq] at c4
          exact c4.1.1
        rw [c1]
        refine ⟨by omega, (tk ||| 2 ^ o, un pt o (p + 1), c + 1), ?_, ?_, fun d s'' hd e hv => ?_⟩
        · rw [stW_e]
          dsimp only
          rw [if_neg q, if_neg (by omega), show o + 1 - 1 = o by omega, if_pos ⟨c2, c4⟩]
        · unfold vW
          dsimp only
          rw [e5, ← hV, e6, ← c5]
          congr 1
          omega
        · unfold vW at hv
          have hv := Option.some.inj hv
          rw [stW_e] at e
          dsimp only at e
          rw [if_neg q] at e
          by_cases hd0 : d = 0
          · rw [if_pos hd0] at e
            have e := Option.some.inj e
            subst e
            dsimp only at hv
            rw [e5, ← hV, e6] at hv
            exact c0 (by omega)
          · rw [if_neg hd0] at e
            split at e
            · rename_i hc
              have e := Option.some.inj e
              subst e
              dsimp only at hv
              rw [e5, ← hV, e6] at hv
              exact c6 (d - 1) hc.1 (by omega) hc.2 (by omega)
            · cases e
/-! the class's choices -/
theorem fcL_sp {pr : Int64} {d p g0 : Nat} {tk best : Int32} : ∀ r, r ≤ 6 → 6 - r ≤ g0 → g0 < 6 → (freB pr tk p g0 = true ∧ 1 + mmo pr d (bor tk g0) = best) → (∀ x, 6 - r ≤ x → x < g0 → ¬ (freB pr tk p x = true ∧ 1 + mmo pr d (bor tk x) = best)) → fcL pr d tk p best r = nI g0
  | 0, _, h1, h2, _, _ => by omega
  | r + 1, hr, h1, h2, h3, h4 => by
    rw [fcL]
    by_cases q : g0 = 5 - r
    · rw [if_pos (by rw [← q]; exact h3), q]
    · rw [if_neg (h4 _ (by omega) (by omega))]
      exact fcL_sp r (by omega) (by omega) h2 h3 (fun x hx1 hx2 => h4 x (by omega) hx2)
theorem fch_pm {B : Nat → Nat} {ki : Nat → Int32} {k d tk : Nat} (h : CR B ki) (hk : k ≤ 40) (hd : d ≤ 5) (htk : tk < 64) (hb : ¬ tk.testBit (5 - d) = true) : fch (wpr (B 1) (B 0) ki (nI (B 5)) (nI (B 6)) (nI (B 7)) (faB_ B) (fbB_ B) (B 2) (pm (nw B)) k) d (nI tk) = nI (chW B k d tk) - 1 := by
  have hor : ∀ o, o < 6 → tk ||| 2 ^ o < 64 := fun o ho => Nat.or_lt_two_pow (n := 6) htk (Nat.pow_lt_pow_right (by omega) ho)
  have l1 := mmN_le (B := B) (k := k) d tk
  have l2 := mmN_le (B := B) (k := k) (d + 1) tk
  unfold fch
  rw [mmo_pm h hk d tk (by omega) htk, mmo_pm h hk (d + 1) tk (by omega) htk]
  have val : ∀ o, o < 6 → 1 + mmo (wpr (B 1) (B 0) ki (nI (B 5)) (nI (B 6)) (nI (B 7)) (faB_ B) (fbB_ B) (B 2) (pm (nw B)) k) d (bor (nI tk) o) = nI (1 + mmN B k d (tk ||| 2 ^ o)) := fun o ho => by
    rw [bor_nI (by omega), mmo_pm h hk d _ (by omega) (hor o ho)]
    exact nI_add 1 _
  rcases chW_sp (B := B) (k := k) hd hb with ⟨c1, c2⟩ | ⟨c0, o, c1, c2, c3, c4, c5, c6⟩
  · rw [if_pos (by rw [c2]), c1]; rfl
  · rw [if_neg (fun z => c0 ((nI_eq (by omega) (by omega)).mp z)), c1, nI_pred]
    refine fcL_sp d (by omega) (by omega) c3 ⟨by rw [fre_pm h hk htk c2 c3]; exact c4, by rw [val o c3, c5]⟩ (fun x hx1 hx2 hx => ?_)
    have hx6 : x < 6 := by omega
    have hf := hx.1
    rw [fre_pm h hk htk (by omega) hx6] at hf
    have he := hx.2
    rw [val x hx6] at he
    have l3 := mmN_le (B := B) (k := k) d (tk ||| 2 ^ x)
    exact c6 x (by omega) hx2 hf ((nI_eq (by omega) (by omega)).mp he)
