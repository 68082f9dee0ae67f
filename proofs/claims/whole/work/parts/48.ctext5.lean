/-! ===== TownText.tellTo ===== -/
theorem sem_iff {C : Nat → Nat} {L q : Nat} (hq : q ≤ L) : isr C L 59 59 (tkS C L q) = true ↔ knd C L q = 3 := by
  have hle := (tkS_le (C := C) hq).2
  unfold knd tkK isr
  simp only [decide_eq_true_eq]
  constructor
  · intro h
    rw [if_neg (by omega), if_neg (by omega), if_neg (by omega), if_pos (by omega)]
  · intro h
    split at h
    · omega
    · split at h
      · omega
      · split at h
        · split at h <;> omega
        · split at h
          · omega
          · omega
theorem tlL_app {B : Nat → Nat} : ∀ (l m : List (Nat × Nat × Nat)), ((tlL B l).2.2 = true → (tlL B l).1 = l.length ∧ tlL B (l ++ m) = (l.length + (tlL (tlL B l).2.1 m).1, (tlL (tlL B l).2.1 m).2)) ∧ ((tlL B l).2.2 = false → tlL B (l ++ m) = tlL B l ∧ (tlL B l).1 < l.length)
  | [], m => ⟨fun _ => ⟨rfl, by show tlL B m = (0 + (tlL B m).1, (tlL B m).2); rw [Nat.zero_add]⟩, fun h => by cases h⟩
  | x :: l, m => by
    rw [List.cons_append, tlL, tlL, List.length_cons]
    cases hx : tlB B x.1 x.2.1 x.2.2 with
    | none => exact ⟨fun h => absurd (show false = true from h) Bool.false_ne_true, fun _ => ⟨rfl, Nat.succ_pos _⟩⟩
    | some B' =>
      obtain ⟨h1, h2⟩ := tlL_app (B := B') l m
      dsimp only
      constructor
      · intro h
        obtain ⟨a, b⟩ := h1 h
        refine ⟨by omega, ?_⟩
        rw [b]
        dsimp only
        rw [show l.length + (tlL (tlL B' l).2.1 m).1 + 1 = l.length + 1 + (tlL (tlL B' l).2.1 m).1 by omega]
      · intro h
        obtain ⟨a, b⟩ := h2 h
        exact ⟨by rw [a], by omega⟩
theorem knd_0 {C : Nat → Nat} {L p : Nat} (hp : p ≤ L) : knd C L p = 0 ↔ tkS C L p = L := by
  unfold knd tkK
  constructor
  · intro h
    split at h
    · assumption
    · split at h
      · omega
      · split at h
        · split at h <;> omega
        · split at h <;> omega
  · intro h; rw [if_pos h]
theorem itR_nx {C : Nat → Nat} {L p v a b q : Nat} (hp : p ≤ L) (h : itR C L p = .inr (v, a, b, q)) : p < q ∧ q ≤ L := by
  have key : ∀ q', q' ≤ L → q' ≤ nxp C L q' ∧ nxp C L q' ≤ L := fun q' h' => ⟨(nxp_le h').1, (nxp_le h').2.1⟩
  unfold itR at h
  cases hV : prV C L p with
  | none => rw [hV] at h; cases h
  | some v0 =>
    have h4 := (prV_4 hV).1
    have hp1 := (nxp_le (C := C) hp).2.2 (by unfold knd at h4; omega)
    obtain ⟨k1, k2⟩ := key p hp
    obtain ⟨k3, k4⟩ := key _ k2
    obtain ⟨k5, k6⟩ := key _ k4
    rw [hV] at h
    dsimp only at h
    cases hA : prA C L (nxp C L p) (decide (v0 = 1)) with
    | none => rw [hA] at h; cases h
    | some a0 =>
      rw [hA] at h
      dsimp only at h
      by_cases hv : v0 = 1
      · rw [if_pos hv] at h
        cases h
        omega
      · rw [if_neg hv] at h
        cases hB : prA C L (nxp C L (nxp C L p)) (decide (v0 = 0)) with
        | none => rw [hB] at h; cases h
        | some b0 =>
          rw [hB] at h
          cases h
          omega
theorem itR_fl {C : Nat → Nat} {L p q : Nat} (hp : p ≤ L) (h : itR C L p = .inl q) : q ≤ L := by
  have key : ∀ q', q' ≤ L → q' ≤ nxp C L q' ∧ nxp C L q' ≤ L := fun q' h' => ⟨(nxp_le h').1, (nxp_le h').2.1⟩
  obtain ⟨k1, k2⟩ := key p hp
  obtain ⟨k3, k4⟩ := key _ k2
  unfold itR at h
  cases hV : prV C L p with
  | none => rw [hV] at h; cases h; omega
  | some v0 =>
    rw [hV] at h
    dsimp only at h
    cases hA : prA C L (nxp C L p) (decide (v0 = 1)) with
    | none => rw [hA] at h; cases h; omega
    | some a0 =>
      rw [hA] at h
      dsimp only at h
      by_cases hv : v0 = 1
      · rw [if_pos hv] at h
        cases h
      · rw [if_neg hv] at h
        cases hB : prA C L (nxp C L (nxp C L p)) (decide (v0 = 0)) with
        | none => rw [hB] at h; cases h; omega
        | some b0 =>
          rw [hB] at h
          cases h
def sp_X8_tellTo : em_Sp := fun av hp Q => ∃ by9 tln tst ten pe ki mi se we lea mst pa fi sd ev un ma ea co ca clt C L nn B, av = [.ref 0, .ref 2] ∧ hp = (wZ by9 tln tst ten pe ki mi se we lea mst pa fi sd ev un ma ea co ca clt) ∧ TY by9 tln C L ∧ (RT nn B pe ki mi se we lea mst pa fi sd ev (un) ma ea co ca clt) ∧ (∀ f s' e' B1 pe1 ki1 mi1 se1 we1 lea1 mst1 pa1 fi1 sd1 ev1 un1 ma1 ea1 co1 ca1 clt1, (prs C L 151 0).2 = some f → RT nn B1 pe1 ki1 mi1 se1 we1 lea1 mst1 pa1 fi1 sd1 ev1 un1 ma1 ea1 co1 ca1 clt1 → Q (some (.int ((-10) - nI f))) (wZ by9 tln s' e' pe1 ki1 mi1 se1 we1 lea1 mst1 pa1 fi1 sd1 ev1 un1 ma1 ea1 co1 ca1 clt1)) ∧ (∀ s' e' B1 pe1 ki1 mi1 se1 we1 lea1 mst1 pa1 fi1 sd1 ev1 un1 ma1 ea1 co1 ca1 clt1, (prs C L 151 0).2 = none → RT nn B1 pe1 ki1 mi1 se1 we1 lea1 mst1 pa1 fi1 sd1 ev1 un1 ma1 ea1 co1 ca1 clt1 → ((tlL B (prs C L 151 0).1).2.2 = true → B1 = (tlL B (prs C L 151 0).1).2.1 → (prs C L 151 0).1.length ≤ 150 → Q (some (.int (nI (prs C L 151 0).1.length))) (wZ by9 tln s' e' pe1 ki1 mi1 se1 we1 lea1 mst1 pa1 fi1 sd1 ev1 un1 ma1 ea1 co1 ca1 clt1)) ∧ ((tlL B (prs C L 151 0).1).2.2 = false → (tlL B (prs C L 151 0).1).1 ≤ 150 → Q (some (.int ((-1000) - nI (tlL B (prs C L 151 0).1).1))) (wZ by9 tln s' e' pe1 ki1 mi1 se1 we1 lea1 mst1 pa1 fi1 sd1 ev1 un1 ma1 ea1 co1 ca1 clt1)))
def T_X8_tellTo : List (Nat × em_Op) := [(0, o_iconst 0 1), (1, o_istore 2 2), (2, o_iconst (-1) 3), (3, o_istore 3 4), (4, o_aload 0 5), (5, o_iconst 0 6), (6, o_putI 3 3 9), (9, o_aload 0 10), (10, o_callP 1 (some 3) [0, 1] (sp_X8_step) 13), (13, o_iconst 0 14), (14, o_istore 4 16), (16, o_iload 4 18), (18, o_iconst 150 21), (21, o_icmpge 91 24), (24, o_aload 0 25), (25, o_getf 3 2 28), (28, o_aload 0 29), (29, o_getf 3 1 32), (32, o_icmpge 91 35), (35, o_aload 0 36), (36, o_aload 1 37), (37, o_call 2 (some 3) (sp_X8_tellItem) 40), (40, o_istore 5 42), (42, o_iload 5 44), (44, o_iconst (-10) 46), (46, o_icmpeq 58 49), (49, o_aload 0 50), (50, o_iconst 59 52), (52, o_callP 2 (some 3) [0, 1] (sp_X8_isSign) 55), (55, o_ifne 66 58), (58, o_iconst (-10) 60), (60, o_aload 0 61), (61, o_getf 3 2 64), (64, o_isub 65), (65, o_iret), (66, o_iload 5 68), (68, o_ifge 78 71), (71, o_iload 3 72), (72, o_iconst (-1) 73), (73, o_icmpne 78 76), (76, o_iload 2 77), (77, o_istore 3 78), (78, o_iinc 2 1 81), (81, o_aload 0 82), (82, o_callP 1 (some 3) [0, 1] (sp_X8_step) 85), (85, o_iinc 4 1 88), (88, o_goto 16), (91, o_iload 3 92), (92, o_iconst (-1) 93), (93, o_icmpne 100 96), (96, o_iload 2 97), (97, o_goto 105), (100, o_iconst (-1000) 103), (103, o_iload 3 104), (104, o_isub 105), (105, o_iret)]
/-- what has been told so far, and the number of the first item refused -/
def rfd (B : Nat → Nat) (l : List (Nat × Nat × Nat)) (Bc : Nat → Nat) (r : Int32) : Prop := ((tlL B l).2.2 = true ∧ r = -1 ∧ Bc = (tlL B l).2.1) ∨ ((tlL B l).2.2 = false ∧ r = nI (tlL B l).1)
theorem me_X8_tellTo : em_Me T_X8_tellTo 6 sp_X8_tellTo := by
  intro Q K hK hle av hp hs
  obtain ⟨by9, tln, tst0, ten0, pe0, ki0, mi0, se0, we0, lea0, mst0, pa0, fi0, sd0, ev0, un0, ma0, ea0, co0, ca0, clt0, C, L, nn, B, rfl, rfl, hT, hR0, hF, hG⟩ := hs
  have hL := hT.2.2.1
  have hC := hT.2.2.2
  have etl := hT.2.1
  refine ⟨Nat.le_of_ble_eq_true rfl, ?_⟩
  have loop : ∀ (f p : Nat) (l : List (Nat × Nat × Nat)) (r tst ten : Int32) (x5 : Option Value) (Bc : Nat → Nat) (pe : Int32) (ki : Nat → Int32) (mi se : Int64) (we lea mst pa : Int32) (fi sd : Nat → Int32) (ev un : Int32) (ma : Nat → Int64) (ea : Nat → Int32) (co : Int32) (ca clt : Nat → Int32), L < p + f → p ≤ L → l.length ≤ p → SY C L p tst ten → prs C L 151 0 = (l ++ (prs C L f p).1, (prs C L f p).2) → rfd B l Bc r → RT nn Bc pe ki mi se we lea mst pa fi sd ev un ma ea co ca clt → K 16 [some (.ref 0), some (.ref 2), some (.int (nI l.length)), some (.int r), some (.int (nI l.length)), x5] [] (wZ by9 tln tst ten pe ki mi se we lea mst pa fi sd ev un ma ea co ca clt) := by
    intro f
    induction f with
    | zero => intro p l r tst ten x5 Bc pe ki mi se we lea mst pa fi sd ev un ma ea co ca clt h1 h2; omega
    | succ f ih =>
      intro p l r tst ten x5 Bc pe ki mi se we lea mst pa fi sd ev un ma ea co ca clt h1 h2 hlp hS hfull hrf hR
      obtain ⟨rfl, rfl⟩ := hS
      obtain ⟨k1, k2⟩ := tkS_le (C := C) h2
      -- the end
      have done : knd C L p = 0 → ∀ x5 : Option Value, K 91 [some (.ref 0), some (.ref 2), some (.int (nI l.length)), some (.int r), some (.int (nI l.length)), x5] [] (wZ by9 tln (nI (tkS C L p)) (nI (tyE C L (tkS C L p))) pe ki mi se we lea mst pa fi sd ev un ma ea co ca clt) := by
        intro hk x5
        have e0 : prs C L (f + 1) p = ([], none) := by rw [prs, if_pos hk]
        rw [e0, List.append_nil] at hfull
        have hG := hG (nI (tkS C L p)) (nI (tyE C L (tkS C L p))) Bc _ _ _ _ _ _ _ _ _ _ _ _ _ _ _ _ _ (by rw [hfull]) hR
        rw [hfull] at hG
        dsimp only at hG
        refine hK 47 9999 91 _ _ _ ?_
        rcases hrf with ⟨q1, q2, q3⟩ | ⟨q1, q2⟩
        · subst q2
          exact ⟨fun z => absurd rfl z, fun _ => hG.1 q1 q3 (by omega)⟩
        · subst q2
          have hlt := ((tlL_app (B := B) l []).2 q1).2
          exact ⟨fun _ => hG.2 q1 (by omega), fun z => absurd z (nI_m1 (by omega))⟩
      refine hK 11 12 16 _ _ _ ?_
      refine ⟨fun z => ?_, fun z => ?_⟩
      · have z := (nI_leI (a := 150) (b := l.length) (by omega) (by omega)).mp z
        exact done ((knd_0 h2).mpr (by omega)) x5
      · rw [etl]
        refine ⟨fun y => ?_, fun y => ?_⟩
        · have y := (nI_leI (a := L) (b := tkS C L p) (by omega) (by omega)).mp y
          have dd := done ((knd_0 h2).mpr (by omega)) x5
          rw [etl] at dd
          exact dd
        · have y : ¬ L ≤ tkS C L p := fun q => y (nI_le q (by omega))
          have hk0 : ¬ knd C L p = 0 := fun q => by have := (knd_0 h2).mp q; omega
          have epr : prs C L (f + 1) p = match prI C L p with
            | .inl q => ([], some q)
            | .inr (v, a, b, p') => ((v, a, b) :: (prs C L f p').1, (prs C L f p').2) := by rw [prs, if_neg hk0]; rfl
          rw [prI_it] at epr
          -- a fault
          have flt : ∀ (q : Nat) (x5 : Option Value) (s' e' : Int32) (B1 : Nat → Nat) (pe1 : Int32) (ki1 : Nat → Int32) (mi1 se1 : Int64) (we1 lea1 mst1 pa1 : Int32) (fi1 sd1 : Nat → Int32) (ev1 un1 : Int32) (ma1 : Nat → Int64) (ea1 : Nat → Int32) (co1 : Int32) (ca1 clt1 : Nat → Int32), prs C L (f + 1) p = ([], some (tkS C L q)) → SY C L q s' e' → RT nn B1 pe1 ki1 mi1 se1 we1 lea1 mst1 pa1 fi1 sd1 ev1 un1 ma1 ea1 co1 ca1 clt1 → K 58 [some (.ref 0), some (.ref 2), some (.int (nI l.length)), some (.int r), some (.int (nI l.length)), x5] [] (wZ by9 tln s' e' pe1 ki1 mi1 se1 we1 lea1 mst1 pa1 fi1 sd1 ev1 un1 ma1 ea1 co1 ca1 clt1) := by
            intro q x5 s' e' B1 pe1 ki1 mi1 se1 we1 lea1 mst1 pa1 fi1 sd1 ev1 un1 ma1 ea1 co1 ca1 clt1 hq hS1 hR1
            obtain ⟨rfl, rfl⟩ := hS1
            rw [hq] at hfull
            have hF := hF (tkS C L q) (nI (tkS C L q)) (nI (tyE C L (tkS C L q))) B1 _ _ _ _ _ _ _ _ _ _ _ _ _ _ _ _ _ (by rw [hfull]) hR1
            exact hK 30 5 58 _ _ _ hF
          -- an item whose ; is there: told or refused
          have nxt : ∀ (q v a b : Nat) (w : Int32) (Bd : Nat → Nat) (s' e' : Int32) (pe1 : Int32) (ki1 : Nat → Int32) (mi1 se1 : Int64) (we1 lea1 mst1 pa1 : Int32) (fi1 sd1 : Nat → Int32) (ev1 un1 : Int32) (ma1 : Nat → Int64) (ea1 : Nat → Int32) (co1 : Int32) (ca1 clt1 : Nat → Int32), itR C L p = .inr (v, a, b, q) → knd C L q = 3 → SY C L q s' e' → RT nn Bd pe1 ki1 mi1 se1 we1 lea1 mst1 pa1 fi1 sd1 ev1 un1 ma1 ea1 co1 ca1 clt1 → ((w < 0 ∧ tlB Bc v a b = none ∧ Bd = Bc) ∨ (¬ w < 0 ∧ tlB Bc v a b = some Bd)) → K 66 [some (.ref 0), some (.ref 2), some (.int (nI l.length)), some (.int r), some (.int (nI l.length)), some (.int w)] [] (wZ by9 tln s' e' pe1 ki1 mi1 se1 we1 lea1 mst1 pa1 fi1 sd1 ev1 un1 ma1 ea1 co1 ca1 clt1) := by
            intro q v a b w Bd s' e' pe1 ki1 mi1 se1 we1 lea1 mst1 pa1 fi1 sd1 ev1 un1 ma1 ea1 co1 ca1 clt1 hit h3 hS1 hR1 hw
            obtain ⟨rfl, rfl⟩ := hS1
            rw [hit] at epr
            dsimp only at epr
            rw [if_pos h3] at epr
            dsimp only at epr
            obtain ⟨j1, j2⟩ := itR_nx h2 hit
            obtain ⟨j3, j4, j5⟩ := nxp_le (C := C) j2
            have hqe : tyE C L (tkS C L q) = nxp C L q := if_neg (fun z => by
              have h3' : tkK C L (tkS C L q) = 3 := h3
              unfold tkK at h3'
              rw [if_pos z] at h3'
              omega)
            have hlen : (l ++ [(v, a, b)]).length = l.length + 1 := by rw [List.length_append]; rfl
            rw [epr] at hfull
            have hfull2 : prs C L 151 0 = ((l ++ [(v, a, b)]) ++ (prs C L f (nxp C L q)).1, (prs C L f (nxp C L q)).2) := by
              rw [hfull, List.append_assoc]; rfl
            have fin : ∀ r' : Int32, rfd B (l ++ [(v, a, b)]) Bd r' → K 78 [some (.ref 0), some (.ref 2), some (.int (nI l.length)), some (.int r'), some (.int (nI l.length)), some (.int w)] [] (wZ by9 tln (nI (tkS C L q)) (nI (tyE C L (tkS C L q))) pe1 ki1 mi1 se1 we1 lea1 mst1 pa1 fi1 sd1 ev1 un1 ma1 ea1 co1 ca1 clt1) := by
              intro r' hr'
              refine hK 42 5 78 _ _ _ ?_
              refine ⟨_, _, _, _, C, L, nxp C L q, rfl, rfl, hT, by rw [hqe], j4, fun s2 e2 hS2 => ?_⟩
              have := ih (nxp C L q) (l ++ [(v, a, b)]) r' s2 e2 (some (.int w)) Bd _ _ _ _ _ _ _ _ _ _ _ _ _ _ _ _ _ (by omega) j4 (by omega) hS2 hfull2 hr' hR1
              rw [hlen, ← nI_1 l.length] at this
              exact this
            obtain ⟨ta, tb⟩ := tlL_app (B := B) l [(v, a, b)]
            refine hK 35 7 66 _ _ _ ?_
            rcases hw with ⟨w1, w2, w3⟩ | ⟨w1, w2⟩
            · subst w3
              refine ⟨fun z => absurd w1 (Int32.not_lt.mpr z), fun _ => ?_⟩
              rcases hrf with ⟨q1, q2, q3⟩ | ⟨q1, q2⟩
              · subst q2
                refine ⟨fun z => absurd rfl z, fun _ => fin _ (Or.inr ?_)⟩
                obtain ⟨t1, t2⟩ := ta q1
                rw [t2, ← q3, tlL]
                dsimp only
                rw [w2]
                exact ⟨rfl, by rw [Nat.add_zero]⟩
              · subst q2
                have := (tb q1).2
                refine ⟨fun _ => fin _ (Or.inr ?_), fun z => absurd z (nI_m1 (by omega))⟩
                rw [(tb q1).1]
                exact ⟨q1, rfl⟩
            · refine ⟨fun _ => fin _ ?_, fun z => absurd (Int32.not_le.mp z) w1⟩
              rcases hrf with ⟨q1, q2, q3⟩ | ⟨q1, q2⟩
              · refine Or.inl ?_
                obtain ⟨t1, t2⟩ := ta q1
                rw [t2, ← q3, tlL]
                dsimp only
                rw [w2]
                exact ⟨rfl, q2, rfl⟩
              · refine Or.inr ?_
                rw [(tb q1).1]
                exact ⟨q1, q2⟩
          -- behind the item: its ;
          have semi : ∀ (q v a b : Nat) (w : Int32) (Bd : Nat → Nat) (s' e' : Int32) (pe1 : Int32) (ki1 : Nat → Int32) (mi1 se1 : Int64) (we1 lea1 mst1 pa1 : Int32) (fi1 sd1 : Nat → Int32) (ev1 un1 : Int32) (ma1 : Nat → Int64) (ea1 : Nat → Int32) (co1 : Int32) (ca1 clt1 : Nat → Int32), itR C L p = .inr (v, a, b, q) → SY C L q s' e' → RT nn Bd pe1 ki1 mi1 se1 we1 lea1 mst1 pa1 fi1 sd1 ev1 un1 ma1 ea1 co1 ca1 clt1 → ¬ w = -10 → ((w < 0 ∧ tlB Bc v a b = none ∧ Bd = Bc) ∨ (¬ w < 0 ∧ tlB Bc v a b = some Bd)) → K 42 [some (.ref 0), some (.ref 2), some (.int (nI l.length)), some (.int r), some (.int (nI l.length)), some (.int w)] [] (wZ by9 tln s' e' pe1 ki1 mi1 se1 we1 lea1 mst1 pa1 fi1 sd1 ev1 un1 ma1 ea1 co1 ca1 clt1) := by
            intro q v a b w Bd s' e' pe1 ki1 mi1 se1 we1 lea1 mst1 pa1 fi1 sd1 ev1 un1 ma1 ea1 co1 ca1 clt1 hit hS1 hR1 hw10 hw
            obtain ⟨j1, j2⟩ := itR_nx h2 hit
            obtain ⟨i1, i2⟩ := tkS_le (C := C) j2
            refine hK 23 7 42 _ _ _ ?_
            refine ⟨fun z => absurd z hw10, fun _ => ?_⟩
            refine ⟨_, _, _, _, C, L, tkS C L q, 59, rfl, rfl, hT, hS1.1, by omega, by omega, fun z => ?_, fun z => ?_⟩
            · exact nxt q v a b w Bd s' e' _ _ _ _ _ _ _ _ _ _ _ _ _ _ _ _ _ hit ((sem_iff j2).mp (b1_tt z)) hS1 hR1 hw
            · have h3 : ¬ knd C L q = 3 := fun y => by
                have := (sem_iff j2).mpr y
                rw [b1_0.mp z] at this
                cases this
              refine flt q _ s' e' Bd _ _ _ _ _ _ _ _ _ _ _ _ _ _ _ _ _ ?_ hS1 hR1
              rw [epr, hit]
              dsimp only
              rw [if_neg h3]
          rw [← etl]
          refine ⟨_, _, _, _, _, _, _, _, _, _, _, _, _, _, _, _, _, _, _, _, _, C, L, p, nn, Bc, rfl, rfl, hT, h2, ⟨rfl, rfl⟩, hR, fun q s' e' hit hS1 => ?_, fun v a b q s' e' hit hS1 => ⟨fun hn r' hr1 hr2 => ?_, fun B' pe1 ki1 mi1 se1 we1 lea1 mst1 pa1 fi1 sd1 ev1 un1 ma1 ea1 co1 ca1 clt1 r' hB' hR1 hr1 => ?_⟩⟩
          · refine hK 23 7 42 _ _ _ ?_
            refine ⟨fun _ => ?_, fun z => absurd rfl z⟩
            refine flt q _ s' e' Bc _ _ _ _ _ _ _ _ _ _ _ _ _ _ _ _ _ ?_ hS1 hR
            rw [epr, hit]
          · exact semi q v a b r' Bc s' e' _ _ _ _ _ _ _ _ _ _ _ _ _ _ _ _ _ hit hS1 hR hr2 (Or.inl ⟨hr1, hn, rfl⟩)
          · exact semi q v a b r' B' s' e' _ _ _ _ _ _ _ _ _ _ _ _ _ _ _ _ _ hit hS1 hR1 (fun z => hr1 (by rw [z]; decide)) (Or.inr ⟨hr1, hB'⟩)
  refine hK 0 11 0 _ _ _ ?_
  refine ⟨_, _, _, _, C, L, 0, rfl, rfl, hT, rfl, by omega, fun s' e' hS => ?_⟩
  exact loop 151 0 [] (-1) s' e' none B _ _ _ _ _ _ _ _ _ _ _ _ _ _ _ _ _ (by omega) (by omega) (Nat.le_refl 0) hS (by rw [List.nil_append]) (Or.inl ⟨rfl, rfl, rfl⟩) hR0
abbrev rm_X8_tellTo : Room := { frames := 7, cells := 0, slots := 0, locals := 154 }
set_option maxRecDepth 100000 in
set_option maxHeartbeats 4000000 in
theorem ct_X8_tellTo (l : Launch) (D : va_G) (dA : Nat → ClassId) (σ : Nat → Nat) : em_CT l D em_cl dA σ (em_F σ) y_X8_tellTo c_X8_tellTo 6 (Option.some ClassFile.FieldType.int) rm_X8_tellTo (sp_X8_tellTo ) := by
  refine em_CT_of (T := T_X8_tellTo ) (em_F_ok σ) (by decide) (fun p e s m args below meth c A ρ Q C hFok hF hret hlk hin => ?_) (me_X8_tellTo )
  unfold T_X8_tellTo
  refine List.forall_mem_cons.mpr ⟨s_iconst C (by decide +kernel : decode c_X8_tellTo 0 = .ok (.iconst 0, 1)) rfl rfl (by decide), ?_⟩
  refine List.forall_mem_cons.mpr ⟨s_istore_n C (by decide +kernel : decode c_X8_tellTo 1 = .ok (.istore_n 2, 1)) rfl rfl rfl (by decide), ?_⟩
  refine List.forall_mem_cons.mpr ⟨s_iconst C (by decide +kernel : decode c_X8_tellTo 2 = .ok (.iconst (-1), 1)) rfl rfl (by decide), ?_⟩
  refine List.forall_mem_cons.mpr ⟨s_istore_n C (by decide +kernel : decode c_X8_tellTo 3 = .ok (.istore_n 3, 1)) rfl rfl rfl (by decide), ?_⟩
  refine List.forall_mem_cons.mpr ⟨s_aload_n C (by decide +kernel : decode c_X8_tellTo 4 = .ok (.aload_n 0, 1)) rfl rfl rfl, ?_⟩
  refine List.forall_mem_cons.mpr ⟨s_iconst C (by decide +kernel : decode c_X8_tellTo 5 = .ok (.iconst 0, 1)) rfl rfl (by decide), ?_⟩
  refine List.forall_mem_cons.mpr ⟨s_putI C (by decide +kernel : decode c_X8_tellTo 6 = .ok (.putfield 19, 3)) rfl rfl em_cl_X8 (by decide) ew37 rfl (by decide) (by decide +kernel), ?_⟩
  refine List.forall_mem_cons.mpr ⟨s_aload_n C (by decide +kernel : decode c_X8_tellTo 9 = .ok (.aload_n 0, 1)) rfl rfl rfl, ?_⟩
  refine List.forall_mem_cons.mpr ⟨s_callPV C hFok hF (ct_X8_step l D dA σ) ⟨rfl, rfl⟩ ew283 em_cl_X8 ew280 ew282 ewp2 ew2 ⟨by decide, by decide, by decide +kernel⟩ ⟨by decide, by decide⟩ (by decide +kernel : decode c_X8_tellTo 10 = .ok (.invokevirtual 22, 3)) rfl rfl ⟨Nat.zero_le _, Nat.zero_le _⟩ (by decide), ?_⟩
  refine List.forall_mem_cons.mpr ⟨s_iconst C (by decide +kernel : decode c_X8_tellTo 13 = .ok (.iconst 0, 1)) rfl rfl (by decide), ?_⟩
  refine List.forall_mem_cons.mpr ⟨s_istore C (by decide +kernel : decode c_X8_tellTo 14 = .ok (.istore 4, 2)) rfl rfl (by decide), ?_⟩
  refine List.forall_mem_cons.mpr ⟨s_iload C (by decide +kernel : decode c_X8_tellTo 16 = .ok (.iload 4, 2)) rfl rfl, ?_⟩
  refine List.forall_mem_cons.mpr ⟨s_sipush C (by decide +kernel : decode c_X8_tellTo 18 = .ok (.sipush 150, 3)) rfl rfl (by decide), ?_⟩
  refine List.forall_mem_cons.mpr ⟨s_icmpge C (by decide +kernel : decode c_X8_tellTo 21 = .ok (.if_icmp .ge 70, 3)) (by decide) rfl rfl rfl, ?_⟩
  refine List.forall_mem_cons.mpr ⟨s_aload_n C (by decide +kernel : decode c_X8_tellTo 24 = .ok (.aload_n 0, 1)) rfl rfl rfl, ?_⟩
  refine List.forall_mem_cons.mpr ⟨s_getf C (by decide +kernel : decode c_X8_tellTo 25 = .ok (.getfield 25, 3)) rfl rfl em_cl_X8 (by decide) ew36 rfl, ?_⟩
  refine List.forall_mem_cons.mpr ⟨s_aload_n C (by decide +kernel : decode c_X8_tellTo 28 = .ok (.aload_n 0, 1)) rfl rfl rfl, ?_⟩
  refine List.forall_mem_cons.mpr ⟨s_getf C (by decide +kernel : decode c_X8_tellTo 29 = .ok (.getfield 15, 3)) rfl rfl em_cl_X8 (by decide) ew34 rfl, ?_⟩
  refine List.forall_mem_cons.mpr ⟨s_icmpge C (by decide +kernel : decode c_X8_tellTo 32 = .ok (.if_icmp .ge 59, 3)) (by decide) rfl rfl rfl, ?_⟩
  refine List.forall_mem_cons.mpr ⟨s_aload_n C (by decide +kernel : decode c_X8_tellTo 35 = .ok (.aload_n 0, 1)) rfl rfl rfl, ?_⟩
  refine List.forall_mem_cons.mpr ⟨s_aload_n C (by decide +kernel : decode c_X8_tellTo 36 = .ok (.aload_n 1, 1)) rfl rfl rfl, ?_⟩
  refine List.forall_mem_cons.mpr ⟨s_callV C hFok hF (ct_X8_tellItem l D dA σ) ⟨rfl, rfl⟩ ew299 em_cl_X8 ew296 ew298 ewp6 ew2 ⟨by decide, by decide, by decide +kernel⟩ ⟨by decide, by decide⟩ (by decide +kernel : decode c_X8_tellTo 37 = .ok (.invokevirtual 28, 3)) rfl rfl ⟨Nat.zero_le _, Nat.zero_le _⟩, ?_⟩
  refine List.forall_mem_cons.mpr ⟨s_istore C (by decide +kernel : decode c_X8_tellTo 40 = .ok (.istore 5, 2)) rfl rfl (by decide), ?_⟩
  refine List.forall_mem_cons.mpr ⟨s_iload C (by decide +kernel : decode c_X8_tellTo 42 = .ok (.iload 5, 2)) rfl rfl, ?_⟩
  refine List.forall_mem_cons.mpr ⟨s_bipush C (by decide +kernel : decode c_X8_tellTo 44 = .ok (.bipush (-10), 2)) rfl rfl (by decide), ?_⟩
  refine List.forall_mem_cons.mpr ⟨s_icmpeq C (by decide +kernel : decode c_X8_tellTo 46 = .ok (.if_icmp .eq 12, 3)) (by decide) rfl rfl rfl, ?_⟩
  refine List.forall_mem_cons.mpr ⟨s_aload_n C (by decide +kernel : decode c_X8_tellTo 49 = .ok (.aload_n 0, 1)) rfl rfl rfl, ?_⟩
  refine List.forall_mem_cons.mpr ⟨s_bipush C (by decide +kernel : decode c_X8_tellTo 50 = .ok (.bipush 59, 2)) rfl rfl (by decide), ?_⟩
  refine List.forall_mem_cons.mpr ⟨s_callPV C hFok hF (ct_X8_isSign l D dA σ) ⟨rfl, rfl⟩ ew372 em_cl_X8 ew369 ew371 ewp10 ew2 ⟨by decide, by decide, by decide +kernel⟩ ⟨by decide, by decide⟩ (by decide +kernel : decode c_X8_tellTo 52 = .ok (.invokevirtual 32, 3)) rfl rfl ⟨Nat.zero_le _, Nat.zero_le _⟩ (by decide), ?_⟩
  refine List.forall_mem_cons.mpr ⟨s_ifne C (by decide +kernel : decode c_X8_tellTo 55 = .ok (.ifCond .ne 11, 3)) (by decide) rfl rfl rfl, ?_⟩
  refine List.forall_mem_cons.mpr ⟨s_bipush C (by decide +kernel : decode c_X8_tellTo 58 = .ok (.bipush (-10), 2)) rfl rfl (by decide), ?_⟩
  refine List.forall_mem_cons.mpr ⟨s_aload_n C (by decide +kernel : decode c_X8_tellTo 60 = .ok (.aload_n 0, 1)) rfl rfl rfl, ?_⟩
  refine List.forall_mem_cons.mpr ⟨s_getf C (by decide +kernel : decode c_X8_tellTo 61 = .ok (.getfield 25, 3)) rfl rfl em_cl_X8 (by decide) ew36 rfl, ?_⟩
  refine List.forall_mem_cons.mpr ⟨s_isub C (by decide +kernel : decode c_X8_tellTo 64 = .ok (.isub, 1)) rfl rfl, ?_⟩
  refine List.forall_mem_cons.mpr ⟨s_iret C (by decide +kernel : decode c_X8_tellTo 65 = .ok (.ireturn, 1)) hret hlk ⟨Nat.le_refl 0, Nat.le_refl 0⟩, ?_⟩
  refine List.forall_mem_cons.mpr ⟨s_iload C (by decide +kernel : decode c_X8_tellTo 66 = .ok (.iload 5, 2)) rfl rfl, ?_⟩
  refine List.forall_mem_cons.mpr ⟨s_ifge C (by decide +kernel : decode c_X8_tellTo 68 = .ok (.ifCond .ge 10, 3)) (by decide) rfl rfl rfl, ?_⟩
  refine List.forall_mem_cons.mpr ⟨s_iload_n C (by decide +kernel : decode c_X8_tellTo 71 = .ok (.iload_n 3, 1)) rfl rfl rfl, ?_⟩
  refine List.forall_mem_cons.mpr ⟨s_iconst C (by decide +kernel : decode c_X8_tellTo 72 = .ok (.iconst (-1), 1)) rfl rfl (by decide), ?_⟩
  refine List.forall_mem_cons.mpr ⟨s_icmpne C (by decide +kernel : decode c_X8_tellTo 73 = .ok (.if_icmp .ne 5, 3)) (by decide) rfl rfl rfl, ?_⟩
  refine List.forall_mem_cons.mpr ⟨s_iload_n C (by decide +kernel : decode c_X8_tellTo 76 = .ok (.iload_n 2, 1)) rfl rfl rfl, ?_⟩
  refine List.forall_mem_cons.mpr ⟨s_istore_n C (by decide +kernel : decode c_X8_tellTo 77 = .ok (.istore_n 3, 1)) rfl rfl rfl (by decide), ?_⟩
  refine List.forall_mem_cons.mpr ⟨s_iinc C (by decide +kernel : decode c_X8_tellTo 78 = .ok (.iinc 2 1, 3)) rfl rfl (by decide) (by decide), ?_⟩
  refine List.forall_mem_cons.mpr ⟨s_aload_n C (by decide +kernel : decode c_X8_tellTo 81 = .ok (.aload_n 0, 1)) rfl rfl rfl, ?_⟩
  refine List.forall_mem_cons.mpr ⟨s_callPV C hFok hF (ct_X8_step l D dA σ) ⟨rfl, rfl⟩ ew283 em_cl_X8 ew280 ew282 ewp2 ew2 ⟨by decide, by decide, by decide +kernel⟩ ⟨by decide, by decide⟩ (by decide +kernel : decode c_X8_tellTo 82 = .ok (.invokevirtual 22, 3)) rfl rfl ⟨Nat.zero_le _, Nat.zero_le _⟩ (by decide), ?_⟩
  refine List.forall_mem_cons.mpr ⟨s_iinc C (by decide +kernel : decode c_X8_tellTo 85 = .ok (.iinc 4 1, 3)) rfl rfl (by decide) (by decide), ?_⟩
  refine List.forall_mem_cons.mpr ⟨s_goto C (by decide +kernel : decode c_X8_tellTo 88 = .ok (.goto (-72), 3)) (by decide) rfl, ?_⟩
  refine List.forall_mem_cons.mpr ⟨s_iload_n C (by decide +kernel : decode c_X8_tellTo 91 = .ok (.iload_n 3, 1)) rfl rfl rfl, ?_⟩
  refine List.forall_mem_cons.mpr ⟨s_iconst C (by decide +kernel : decode c_X8_tellTo 92 = .ok (.iconst (-1), 1)) rfl rfl (by decide), ?_⟩
  refine List.forall_mem_cons.mpr ⟨s_icmpne C (by decide +kernel : decode c_X8_tellTo 93 = .ok (.if_icmp .ne 7, 3)) (by decide) rfl rfl rfl, ?_⟩
  refine List.forall_mem_cons.mpr ⟨s_iload_n C (by decide +kernel : decode c_X8_tellTo 96 = .ok (.iload_n 2, 1)) rfl rfl rfl, ?_⟩
  refine List.forall_mem_cons.mpr ⟨s_goto C (by decide +kernel : decode c_X8_tellTo 97 = .ok (.goto 8, 3)) (by decide) rfl, ?_⟩
  refine List.forall_mem_cons.mpr ⟨s_sipush C (by decide +kernel : decode c_X8_tellTo 100 = .ok (.sipush (-1000), 3)) rfl rfl (by decide), ?_⟩
  refine List.forall_mem_cons.mpr ⟨s_iload_n C (by decide +kernel : decode c_X8_tellTo 103 = .ok (.iload_n 3, 1)) rfl rfl rfl, ?_⟩
  refine List.forall_mem_cons.mpr ⟨s_isub C (by decide +kernel : decode c_X8_tellTo 104 = .ok (.isub, 1)) rfl rfl, ?_⟩
  refine List.forall_mem_cons.mpr ⟨s_iret C (by decide +kernel : decode c_X8_tellTo 105 = .ok (.ireturn, 1)) hret hlk ⟨Nat.le_refl 0, Nat.le_refl 0⟩, ?_⟩
  exact fun _ h => absurd h List.not_mem_nil
