/-! ===== marriages: the reference's rows ===== -/
theorem dgt_dg {n c p : Nat} : dg (n + 1) n c p = dgt n c p := rfl
theorem frW_lt {B : Nat → Nat} {k tk p o : Nat} (h : frW B k tk p o = true) : o < B 0 ∧ eeW B k p o = true ∧ tk.testBit o = false := by
  unfold frW at h
  rw [Bool.and_eq_true, Bool.and_eq_true, decide_eq_true_eq, Bool.not_eq_true'] at h
  exact ⟨h.1.1, h.1.2, h.2⟩
/-- of a row that goes: each one is single, or its other one has it, and they may -/
theorem canR_at {n c : Nat} {M : Nat → Nat} : ∀ k, canR n M c k = true ↔ ∀ p, p < k → canP n M c p = true
  | 0 => ⟨fun _ p hp => absurd hp (Nat.not_lt_zero p), fun _ => rfl⟩
  | k + 1 => by
    rw [canR, Bool.and_eq_true, canR_at k]
    constructor
    · rintro ⟨h1, h2⟩ p hp
      by_cases q : p = k
      · subst q; exact h2
      · exact h1 p (by omega)
    · intro h
      exact ⟨fun p hp => h p (by omega), h k (by omega)⟩
theorem canP_iff {B : Nat → Nat} {c p k : Nat} (h0 : B 0 ≤ 6) (hp : p < B 0) : canP (B 0) (maK B (k + 1)) c p = true ↔ (dgt (B 0) c p = 0 ∨ (dgt (B 0) c (dgt (B 0) c p - 1) = p + 1 ∧ dgt (B 0) c p ≠ 0 ∧ p ≠ dgt (B 0) c p - 1 ∧ eeW B k p (dgt (B 0) c p - 1) = true)) := by
  have hx : dgt (B 0) c p ≤ B 0 := by
    have := dg_lt (b := B 0 + 1) (k := B 0) (c := c) (p := p) (by omega)
    rw [dgt_dg] at this
    omega
  unfold canP
  rw [Bool.or_eq_true, Bool.and_eq_true, decide_eq_true_eq, decide_eq_true_eq]
  by_cases z : dgt (B 0) c p = 0
  · exact ⟨fun _ => Or.inl z, fun _ => Or.inl z⟩
  · rw [may_ee hp (by omega) h0, Bool.and_eq_true, decide_eq_true_eq]
    constructor
    · rintro (q | ⟨q1, q2, q3⟩)
      · exact Or.inl q
      · exact Or.inr ⟨q1, z, q2, q3⟩
    · rintro (q | ⟨q1, _, q2, q3⟩)
      · exact Or.inl q
      · exact Or.inr ⟨q1, q2, q3⟩
/-- such a row can be walked -/
theorem wed_run {B : Nat → Nat} {c k : Nat} (h0 : B 0 ≤ 6) (hc : canR (B 0) (maK B (k + 1)) c (B 0) = true) : ∀ p, p ≤ B 0 → ∃ s, fbR (stW B k) (dg (B 0 + 1) (B 0) c) p 0 (0, fun _ => 0, 0) = some s ∧ (∀ q, s.1.testBit q = true ↔ (q < B 0 ∧ 0 < dgt (B 0) c q ∧ dgt (B 0) c q ≤ p ∧ dgt (B 0) c q - 1 < q)) ∧ ∀ q, s.1.testBit q = true → s.2.1 q = dgt (B 0) c q := by
  have hV : ∀ p, p < B 0 → _ := fun p hp => (canP_iff h0 hp).mp ((canR_at (B 0)).mp hc p hp)
  have hx : ∀ p, dgt (B 0) c p ≤ B 0 := fun p => by
    have := dg_lt (b := B 0 + 1) (k := B 0) (c := c) (p := p) (by omega)
    rw [dgt_dg] at this
    omega
  intro p
  induction p with
  | zero =>
    intro _
    refine ⟨_, rfl, fun q => ?_, fun q hq => ?_⟩
    · dsimp only
      rw [Nat.zero_testBit]
      exact ⟨fun z => (nomatch z), fun z => by omega⟩
    · dsimp only at hq
      rw [Nat.zero_testBit] at hq
      cases hq
  | succ p ih =>
    intro hp
    obtain ⟨⟨tk, pt, cc⟩, h1, h2, h3⟩ := ih (by omega)
    dsimp only at h2 h3
    have hVp := hV p (by omega)
    have run : ∀ s', stW B k p (tk, pt, cc) (dgt (B 0) c p) = some s' → fbR (stW B k) (dg (B 0 + 1) (B 0) c) (p + 1) 0 (0, fun _ => 0, 0) = some s' := fun s' hs => by
      rw [fbR_add p 1 0, h1]
      dsimp only
      rw [Nat.zero_add, fbR, dgt_dg, hs]
      rfl
    have same : (∀ q, q < B 0 → dgt (B 0) c q = p + 1 → dgt (B 0) c q - 1 < q → False) → ∀ q, tk.testBit q = true ↔ (q < B 0 ∧ 0 < dgt (B 0) c q ∧ dgt (B 0) c q ≤ p + 1 ∧ dgt (B 0) c q - 1 < q) := fun hno q => by
      rw [h2 q]
      constructor
      · rintro ⟨a1, a2, a3, a4⟩; exact ⟨a1, a2, by omega, a4⟩
      · rintro ⟨a1, a2, a3, a4⟩
        refine ⟨a1, a2, ?_, a4⟩
        rcases Nat.lt_or_ge p (dgt (B 0) c q) with z | z
        · exact (hno q a1 (by omega) a4).elim
        · exact z
    -- whose other one is p
    have back : ∀ q, q < B 0 → dgt (B 0) c q = p + 1 → dgt (B 0) c p = q + 1 := fun q hq he => by
      rcases hV q hq with z | ⟨z, _⟩
      · omega
      · rw [he, Nat.add_sub_cancel] at z; exact z
    by_cases ht : tk.testBit p = true
    · have hh := (h2 p).mp ht
      refine ⟨(tk, pt, cc), run _ ?_, same (fun q hq he hlt => ?_), h3⟩
      · rw [stW_e]
        dsimp only
        rw [if_pos ht, if_pos (h3 p ht).symm]
      · have := back q hq he
        omega
    · by_cases hz : dgt (B 0) c p = 0
      · refine ⟨(tk, pt, cc), run _ ?_, same (fun q hq he _ => ?_), h3⟩
        · rw [stW_e]
          dsimp only
          rw [if_neg ht, if_pos hz]
        · have := back q hq he
          omega
      · obtain ⟨o, ho⟩ : ∃ o, dgt (B 0) c p = o + 1 := ⟨dgt (B 0) c p - 1, by omega⟩
        have hVo := hVp.resolve_left hz
        rw [ho, Nat.add_sub_cancel] at hVo
        obtain ⟨v1, _, v2, v3⟩ := hVo
        have hxo := hx p
        have hpo : p < o := by
          rcases Nat.lt_or_ge p o with z | z
          · exact z
          · exact absurd ((h2 p).mpr ⟨by omega, by omega, by omega, by omega⟩) ht
        have hno : tk.testBit o = false := by
          cases q : tk.testBit o with
          | false => rfl
          | true =>
            have := (h2 o).mp q
            omega
        have hfr : frW B k tk p o = true := by
          unfold frW
          rw [decide_eq_true (show o < B 0 by omega), v3, hno]; rfl
        refine ⟨(tk ||| 2 ^ o, un pt o (p + 1), cc + 1), run _ ?_, fun q => ?_, fun q hq => ?_⟩
        · rw [stW_e, ho]
          dsimp only
          rw [if_neg ht, if_neg (by omega), Nat.add_sub_cancel, if_pos ⟨hpo, hfr⟩]
        · dsimp only
          rw [or_tb, Bool.or_eq_true, decide_eq_true_eq, h2 q]
          constructor
          · rintro (⟨a1, a2, a3, a4⟩ | rfl)
            · exact ⟨a1, a2, by omega, a4⟩
            · exact ⟨by omega, by omega, by omega, by omega⟩
          · rintro ⟨a1, a2, a3, a4⟩
            by_cases z : dgt (B 0) c q = p + 1
            · have := back q a1 z
              exact Or.inr (by omega)
            · exact Or.inl ⟨a1, a2, by omega, a4⟩
        · dsimp only at hq ⊢
          rw [or_tb, Bool.or_eq_true, decide_eq_true_eq] at hq
          by_cases z : q = o
          · subst z
            rw [un_s, v1]
          · rw [un_n z]
            exact h3 q (hq.resolve_right (fun y => z y.symm))
/-- what is walked goes, and weds two for each couple -/
theorem wed_inv {B : Nat → Nat} {c k : Nat} (h0 : B 0 ≤ 6) : ∀ p, p ≤ B 0 → ∀ s, fbR (stW B k) (dg (B 0 + 1) (B 0) c) p 0 (0, fun _ => 0, 0) = some s → s.1 < 64 ∧ (∀ q, s.1.testBit q = true → 0 < s.2.1 q ∧ dgt (B 0) c (s.2.1 q - 1) = q + 1 ∧ s.2.1 q - 1 < q ∧ s.2.1 q - 1 < p ∧ q < B 0 ∧ eeW B k (s.2.1 q - 1) q = true) ∧ (∀ a, a < p → (s.1.testBit a = true → dgt (B 0) c a = s.2.1 a) ∧ (s.1.testBit a = false → dgt (B 0) c a = 0 ∨ (a < dgt (B 0) c a - 1 ∧ s.1.testBit (dgt (B 0) c a - 1) = true ∧ s.2.1 (dgt (B 0) c a - 1) = a + 1))) ∧ wdR (B 0) c p + cU (fun q => decide (p ≤ q) && s.1.testBit q) (B 0) = 2 * s.2.2 := by
  intro p
  induction p with
  | zero =>
    intro _ s e
    cases e
    refine ⟨by decide, fun q hq => ?_, fun a ha => absurd ha (Nat.not_lt_zero a), ?_⟩
    · dsimp only at hq
      rw [Nat.zero_testBit] at hq
      cases hq
    · rw [cU_none (fun j hj => by dsimp only; rw [Nat.zero_testBit, Bool.and_false])]
      rfl
  | succ p ih =>
    intro hp s e
    rw [fbR_add p 1 0] at e
    cases e1 : fbR (stW B k) (dg (B 0 + 1) (B 0) c) p 0 (0, fun _ => 0, 0) with
    | none => rw [e1] at e; cases e
    | some s1 =>
      obtain ⟨i1, i2, i3, i4⟩ := ih (by omega) s1 e1
      rw [e1] at e
      obtain ⟨tk, pt, cc⟩ := s1
      dsimp only at e i1 i2 i3 i4
      rw [Nat.zero_add, fbR, dgt_dg, stW_e] at e
      dsimp only at e
      -- those behind p, with p and without it
      have cnt : ∀ t : Nat, t.testBit p = false → cU (fun q => decide (p + 1 ≤ q) && t.testBit q) (B 0) = cU (fun q => decide (p ≤ q) && t.testBit q) (B 0) := fun t ht => cU_congr _ (fun j _ => by
        by_cases z : j = p
        · subst z; rw [ht, Bool.and_false, Bool.and_false]
        · congr 1
          by_cases y : p ≤ j
          · rw [decide_eq_true y, decide_eq_true (by omega)]
          · rw [decide_eq_false y, decide_eq_false (by omega)])
      by_cases ht : tk.testBit p = true
      · rw [if_pos ht] at e
        by_cases hd : dgt (B 0) c p = pt p
        · rw [if_pos hd] at e
          have e := Option.some.inj e
          subst e
          refine ⟨i1, fun q hq => ?_, fun a ha => ?_, ?_⟩
          · obtain ⟨b1, b2, b3, b4, b5, b6⟩ := i2 q hq
            exact ⟨b1, b2, b3, by show pt q - 1 < p + 1; omega, b5, b6⟩
          · by_cases z : a = p
            · subst z
              exact ⟨fun _ => hd, fun q => by rw [ht] at q; cases q⟩
            · exact i3 a (by omega)
          · have h1 := (i2 p ht).1
            dsimp only
            have h2 := cU_one (P := fun q => decide (p ≤ q) && tk.testBit q) (P' := fun q => decide (p + 1 ≤ q) && tk.testBit q) (d := p) (by rw [decide_eq_true (Nat.le_refl p), ht]; rfl) (by rw [decide_eq_false (by omega)]; rfl) (fun j hj => by
              congr 1
              by_cases y : p ≤ j
              · rw [decide_eq_true y, decide_eq_true (by omega)]
              · rw [decide_eq_false y, decide_eq_false (by omega)]) (B 0) (by omega)
            rw [wdR, if_neg (by omega)]
            omega
        · rw [if_neg hd] at e; cases e
      · have htf : tk.testBit p = false := by
          cases q : tk.testBit p with
          | false => rfl
          | true => exact absurd q ht
        rw [if_neg ht] at e
        by_cases hz : dgt (B 0) c p = 0
        · rw [if_pos hz] at e
          have e := Option.some.inj e
          subst e
          refine ⟨i1, fun q hq => ?_, fun a ha => ?_, ?_⟩
          · obtain ⟨b1, b2, b3, b4, b5, b6⟩ := i2 q hq
            exact ⟨b1, b2, b3, by show pt q - 1 < p + 1; omega, b5, b6⟩
          · by_cases z : a = p
            · subst z
              exact ⟨fun q => absurd q ht, fun _ => Or.inl hz⟩
            · exact i3 a (by omega)
          · dsimp only
            rw [wdR, if_pos hz, cnt tk htf]
            exact i4
        · rw [if_neg hz] at e
          by_cases hc : p < dgt (B 0) c p - 1 ∧ frW B k tk p (dgt (B 0) c p - 1) = true
          · rw [if_pos hc] at e
            have e := Option.some.inj e
            subst e
            obtain ⟨o, ho⟩ : ∃ o, dgt (B 0) c p = o + 1 := ⟨dgt (B 0) c p - 1, by omega⟩
            rw [ho, Nat.add_sub_cancel] at hc
            obtain ⟨hpo, hfr⟩ := hc
            obtain ⟨f1, f2, f3⟩ := frW_lt hfr
            rw [ho, Nat.add_sub_cancel]
            refine ⟨Nat.or_lt_two_pow (n := 6) i1 (Nat.pow_lt_pow_right (by omega) (by omega)), fun q hq => ?_, fun a ha => ?_, ?_⟩
            · dsimp only at hq ⊢
              rw [or_tb, Bool.or_eq_true, decide_eq_true_eq] at hq
              by_cases z : q = o
              · subst z
                rw [un_s, Nat.add_sub_cancel]
                exact ⟨by omega, ho, hpo, by omega, f1, f2⟩
              · rw [un_n z]
                obtain ⟨b1, b2, b3, b4, b5, b6⟩ := i2 q (hq.resolve_right (fun y => z y.symm))
                exact ⟨b1, b2, b3, by omega, b5, b6⟩
            · dsimp only
              have hao : a ≠ o := by omega
              rw [or_tb, decide_eq_false (fun y => hao y.symm), Bool.or_false, un_n hao]
              by_cases z : a = p
              · subst z
                refine ⟨fun q => absurd q ht, fun _ => Or.inr ?_⟩
                rw [ho, Nat.add_sub_cancel, or_tb, decide_eq_true rfl, Bool.or_true, un_s]
                exact ⟨hpo, rfl, rfl⟩
              · obtain ⟨j1, j2⟩ := i3 a (by omega)
                refine ⟨j1, fun q => ?_⟩
                rcases j2 q with y | ⟨y1, y2, y3⟩
                · exact Or.inl y
                · refine Or.inr ⟨y1, ?_, ?_⟩
                  · rw [or_tb, y2]; rfl
                  · rw [un_n (fun w => by rw [w, f3] at y2; cases y2)]
                    exact y3
            · dsimp only
              have h2 := cU_one (P := fun q => decide (p + 1 ≤ q) && (tk ||| 2 ^ o).testBit q) (P' := fun q => decide (p + 1 ≤ q) && tk.testBit q) (d := o) (by rw [decide_eq_true (by omega), or_tb, decide_eq_true rfl, Bool.or_true]; rfl) (by rw [f3, Bool.and_false]) (fun j hj => by
                rw [or_tb, decide_eq_false (show ¬ o = j from fun y => hj y.symm), Bool.or_false]) (B 0) f1
              rw [wdR, if_neg (by omega), h2, cnt tk htf]
              omega
          · rw [if_neg hc] at e; cases e
theorem wed_can {B : Nat → Nat} {c k : Nat} {s : Nat × (Nat → Nat) × Nat} (h0 : B 0 ≤ 6) (e : fbR (stW B k) (dg (B 0 + 1) (B 0) c) (B 0) 0 (0, fun _ => 0, 0) = some s) : canR (B 0) (maK B (k + 1)) c (B 0) = true ∧ wdR (B 0) c (B 0) = 2 * s.2.2 := by
  obtain ⟨i1, i2, i3, i4⟩ := wed_inv h0 (B 0) (Nat.le_refl _) s e
  refine ⟨(canR_at (B 0)).mpr (fun p hp => (canP_iff h0 hp).mpr ?_), ?_⟩
  · obtain ⟨j1, j2⟩ := i3 p hp
    cases ht : s.1.testBit p with
    | true =>
      have hd := j1 ht
      obtain ⟨b1, b2, b3, b4, b5, b6⟩ := i2 p ht
      rw [hd]
      exact Or.inr ⟨b2, by omega, by omega, by rw [eeW_comm]; exact b6⟩
    | false =>
      rcases j2 ht with y | ⟨y1, y2, y3⟩
      · exact Or.inl y
      · obtain ⟨b1, b2, b3, b4, b5, b6⟩ := i2 _ y2
        have ho := (i3 _ b5).1 y2
        rw [y3, Nat.add_sub_cancel] at b6
        exact Or.inr ⟨by rw [ho, y3], by omega, by omega, b6⟩
  · rw [cU_none (fun j hj => by rw [decide_eq_false (by omega)]; rfl)] at i4
    exact i4
theorem bsW_F {n : Nat} {M : Nat → Nat} : ∀ c, bsW n M c = bsF (fun c => canR n M c n) (fun c => wdR n c n) c
  | 0 => rfl
  | c + 1 => by
    rw [bsW, bsF, bsW_F c]
    cases bsF (fun c => canR n M c n) (fun c => wdR n c n) c <;> rfl
theorem wed_pm {B : Nat → Nat} {ki : Nat → Int32} {k d : Nat} (h : CR B ki) (hk : k ≤ 40) (hb : bsW (B 0) (maK B (k + 1)) ((B 0 + 1) ^ B 0) = some d) : mmo (wpr (B 1) (B 0) ki (nI (B 5)) (nI (B 6)) (nI (B 7)) (faB_ B) (fbB_ B) (B 2) (pm (nw B)) k) 6 0 = nI (wdR (B 0) d (B 0) / 2) ∧ ∀ w, w < B 0 → spo (wpr (B 1) (B 0) ki (nI (B 5)) (nI (B 6)) (nI (B 7)) (faB_ B) (fbB_ B) (B 2) (pm (nw B)) k) w (w + 1) 0 = nI (dgt (B 0) d w) - 1 := by
  have h0 := h.1.1
  have hH := wed_H (k := k) h0
  have hI0 : iW 0 (0, fun _ => 0, 0) := ⟨(by decide : 0 < 64), fun q hq => by
    dsimp only at hq
    rw [Nat.zero_testBit] at hq
    cases hq⟩
  rw [bsW_F] at hb
  obtain ⟨d1, d2, d3⟩ := (bsF_spec (ok := fun c => canR (B 0) (maK B (k + 1)) c (B 0)) (v := fun c => wdR (B 0) c (B 0)) ((B 0 + 1) ^ B 0)).1 d hb
  obtain ⟨sd, e1, e2, e3⟩ := wed_run h0 d2 (B 0) (Nat.le_refl _)
  have hvd := (wed_can h0 e1).2
  obtain ⟨hV, hst⟩ := fb_first hH (by omega) hI0 d1 e1 (fun c hc s' e' => by
    obtain ⟨c1, c2⟩ := wed_can h0 e'
    obtain ⟨m1, m2⟩ := d3 c hc c1
    exact ⟨by omega, fun q => by have := m2 q; omega⟩)
  have hV := Option.some.inj hV
  dsimp only at hV
  have hcan : ∀ p, p < B 0 → _ := fun p hp => (canP_iff h0 hp).mp ((canR_at (B 0)).mp d2 p hp)
  refine ⟨?_, fun w hw => ?_⟩
  · have := mmo_pm h hk 6 0 (Nat.le_refl _) (by decide)
    have e0 : (0 : Int32) = nI 0 := rfl
    rw [e0, this]
    congr 1
    have hV : 0 + mmN B k (6 - 0) 0 = sd.2.2 := hV
    rw [Nat.zero_add, Nat.sub_zero] at hV
    omega
  · have loop : ∀ r p, p + r = w → ∀ s, fbR (stW B k) (dg (B 0 + 1) (B 0) d) p 0 (0, fun _ => 0, 0) = some s → s.1.testBit w = false → spo (wpr (B 1) (B 0) ki (nI (B 5)) (nI (B 6)) (nI (B 7)) (faB_ B) (fbB_ B) (B 2) (pm (nw B)) k) w (r + 1) (nI s.1) = nI (dgt (B 0) d w) - 1 := by
      intro r
      induction r with
      | zero =>
        intro p hp s hs hsw
        have hp : p = w := by omega
        subst hp
        obtain ⟨s2, t1, t2, t3, t4⟩ := hst p (by omega)
        rw [hs] at t1
        have t1 := Option.some.inj t1
        subst t1
        have t4 := t4 (by omega)
        rw [dgt_dg] at t4
        rw [spo, Nat.sub_zero, if_pos ((bit0 (by have := t2.1; omega) (by omega)).mpr hsw), if_pos rfl, fch_pm h hk (by omega) t2.1 (by rw [show 5 - (5 - p) = p by omega, hsw]; exact Bool.false_ne_true), t4]
        unfold gW
        rw [if_neg (by rw [hsw]; exact Bool.false_ne_true)]
      | succ r ih =>
        intro p hp s hs hsw
        obtain ⟨s2, t1, t2, t3, t4⟩ := hst p (by omega)
        rw [hs] at t1
        have t1 := Option.some.inj t1
        subst t1
        have t4 := t4 (by omega)
        rw [dgt_dg] at t4
        obtain ⟨s3, u1, u2, u3, u4⟩ := hst (p + 1) (by omega)
        have ust : stW B k p s (dgt (B 0) d p) = some s3 := by
          rw [fbR_add p 1 0, hs] at u1
          dsimp only at u1
          rw [Nat.zero_add, fbR, dgt_dg] at u1
          cases q : stW B k p s (dgt (B 0) d p) with
          | none => rw [q] at u1; cases u1
          | some s4 => rw [q] at u1; exact u1
        rw [stW_e] at ust
        rw [spo, show w - (r + 1) = p by omega]
        have hb0 := bit0 (o := s.1) (m := p) (by have := t2.1; omega) (by omega)
        cases ht : s.1.testBit p with
        | true =>
          rw [ht, if_pos rfl] at ust
          rw [if_neg (fun z => by rw [hb0.mp z] at ht; cases ht)]
          split at ust
          · have ust := Option.some.inj ust
            subst ust
            exact ih (p + 1) (by omega) s u1 hsw
          · cases ust
        | false =>
          rw [ht, if_neg Bool.false_ne_true] at ust
          have hg : gW B k (B 0 - p - 1) p s = chW B k (5 - p) s.1 := by
            unfold gW
            rw [if_neg (by rw [ht]; exact Bool.false_ne_true)]
          rw [if_pos (hb0.mpr ht), if_neg (Nat.succ_ne_zero r), fch_pm h hk (by omega) t2.1 (by rw [show 5 - (5 - p) = p by omega, ht]; exact Bool.false_ne_true), ← hg, ← t4]
          by_cases hz : dgt (B 0) d p = 0
          · rw [if_pos hz] at ust
            have ust := Option.some.inj ust
            subst ust
            rw [hz]
            have e0 : nI 0 - 1 = -1 := rfl
            rw [e0, if_neg (fun z => nI_m1 (by omega) z.symm), if_pos rfl]
            exact ih (p + 1) (by omega) s u1 hsw
          · rw [if_neg hz] at ust
            split at ust
            · rename_i hc
              have ust := Option.some.inj ust
              subst ust
              obtain ⟨o, ho⟩ : ∃ o, dgt (B 0) d p = o + 1 := ⟨dgt (B 0) d p - 1, by omega⟩
              rw [ho, Nat.add_sub_cancel] at hc u1
              obtain ⟨f1, f2, f3⟩ := frW_lt hc.2
              rw [ho, nI_pred]
              by_cases how : o = w
              · subst how
                rw [if_pos rfl]
                have := (hcan p (by omega)).resolve_left hz
                rw [ho, Nat.add_sub_cancel] at this
                rw [this.1, nI_pred]
              · rw [if_neg (fun z => how ((nI_eq (by omega) (by omega)).mp z)), if_neg (nI_m1 (by omega))]
                have eb : nI s.1 ||| (1 : Int32) <<< (nI o &&& 31) = nI (s.1 ||| 2 ^ o) := by rw [shl_nI o (by omega), nI_or]
                rw [eb]
                exact ih (p + 1) (by omega) (s.1 ||| 2 ^ o, un s.2.1 o (p + 1), s.2.2 + 1) u1 (by
                  show (s.1 ||| 2 ^ o).testBit w = false
                  rw [or_tb, hsw, decide_eq_false how]; rfl)
            · cases ust
    have := loop w 0 (by omega) (0, fun _ => 0, 0) rfl (Nat.zero_testBit w)
    exact this
