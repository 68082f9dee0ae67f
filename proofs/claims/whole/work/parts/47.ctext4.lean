/-! ===== TownText.tellItem ===== -/
def wZ (by9 : Nat → Int32) (tln tst ten : Int32) (pe : Int32) (ki : Nat → Int32) (mi se : Int64) (we lea mst pa : Int32) (fi sd : Nat → Int32) (ev un : Int32) (ma : Nat → Int64) (ea : Nat → Int32) (co : Int32) (ca clt : Nat → Int32) : em_H := [.inr (3, [.ref 1, .int tln, .int tst, .int ten]), .inl (2, 150, .inl by9), .inr (2, [.int pe, .ref 3, .long mi, .long se, .int we, .int lea, .int mst, .int pa, .ref 4, .ref 5, .int ev, .int un, .ref 6, .ref 7, .int co, .ref 8, .ref 9]), .inl (0, 6, .inl ki), .inl (0, 8, .inl fi), .inl (0, 8, .inl sd), .inl (1, 12, .inr (.inl ma)), .inl (0, 12, .inl ea), .inl (0, 10, .inl ca), .inl (3, 10, .inl clt)]
/-- an item without its ; : the place where it fails, or what it tells and the place behind it -/
def itR (C : Nat → Nat) (L p : Nat) : Nat ⊕ (Nat × Nat × Nat × Nat) := match prV C L p with
  | none => .inl p
  | some v => match prA C L (nxp C L p) (decide (v = 1)) with
    | none => .inl (nxp C L p)
    | some a => if v = 1 then .inr (v, a, 0, nxp C L (nxp C L p)) else match prA C L (nxp C L (nxp C L p)) (decide (v = 0)) with
      | none => .inl (nxp C L (nxp C L p))
      | some b => .inr (v, a, b, nxp C L (nxp C L (nxp C L p)))
theorem prI_it {C : Nat → Nat} {L p : Nat} : prI C L p = match itR C L p with
  | .inl q => .inl (tkS C L q)
  | .inr (v, a, b, q) => if knd C L q = 3 then .inr (v, a, b, nxp C L q) else .inl (tkS C L q) := by
  unfold prI itR
  cases prV C L p with
  | none => rfl
  | some v =>
    dsimp only
    cases prA C L (nxp C L p) (decide (v = 1)) with
    | none => rfl
    | some a =>
      dsimp only
      unfold prB
      by_cases h : v = 1
      · rw [if_pos h, if_pos h]; rfl
      · rw [if_neg h, if_neg h]
        cases prA C L (nxp C L (nxp C L p)) (decide (v = 0)) with
        | none => rfl
        | some b => rfl
theorem itR_n {C : Nat → Nat} {L p : Nat} (h : prV C L p = none) : itR C L p = .inl p := by unfold itR; rw [h]
theorem itR_0 {C : Nat → Nat} {L p : Nat} (h : prV C L p = some 0) : itR C L p = match prA C L (nxp C L p) false with
  | none => .inl (nxp C L p)
  | some a => match prA C L (nxp C L (nxp C L p)) true with
    | none => .inl (nxp C L (nxp C L p))
    | some b => .inr (0, a, b, nxp C L (nxp C L (nxp C L p))) := by unfold itR; rw [h]; rfl
theorem itR_1 {C : Nat → Nat} {L p : Nat} (h : prV C L p = some 1) : itR C L p = match prA C L (nxp C L p) true with
  | none => .inl (nxp C L p)
  | some a => .inr (1, a, 0, nxp C L (nxp C L p)) := by unfold itR; rw [h]; rfl
theorem itR_2 {C : Nat → Nat} {L p v : Nat} (hv : v = 2 ∨ v = 3) (h : prV C L p = some v) : itR C L p = match prA C L (nxp C L p) false with
  | none => .inl (nxp C L p)
  | some a => match prA C L (nxp C L (nxp C L p)) false with
    | none => .inl (nxp C L (nxp C L p))
    | some b => .inr (v, a, b, nxp C L (nxp C L (nxp C L p))) := by
  unfold itR; rw [h]
  rcases hv with rfl | rfl <;> rfl
theorem prV_4 {C : Nat → Nat} {L p v : Nat} (h : prV C L p = some v) : knd C L p = 4 ∧ tyE C L (tkS C L p) = nxp C L p := by
  have h4 : knd C L p = 4 := by
    unfold prV at h
    by_cases q : knd C L p = 4
    · exact q
    · rw [if_neg q] at h; cases h
  refine ⟨h4, if_neg (fun q => ?_)⟩
  unfold knd tkK at h4
  rw [if_pos q] at h4
  omega
theorem prV_lt {C : Nat → Nat} {L p v : Nat} (h : prV C L p = some v) : v < 4 := by
  unfold prV at h
  split at h
  · exact vbN_lt h
  · cases h
def sp_X8_tellItem : em_Sp := fun av hp Q => ∃ by9 tln tst ten pe ki mi se we lea mst pa fi sd ev un ma ea co ca clt C L p nn B, av = [.ref 0, .ref 2] ∧ hp = (wZ by9 tln tst ten pe ki mi se we lea mst pa fi sd ev un ma ea co ca clt) ∧ TY by9 tln C L ∧ p ≤ L ∧ SY C L p tst ten ∧ (RT nn B pe ki mi se we lea mst pa fi sd ev (un) ma ea co ca clt) ∧ (∀ q s' e', itR C L p = .inl q → SY C L q s' e' → Q (some (.int (-10))) (wZ by9 tln (s') (e') pe ki mi se we lea mst pa fi sd ev un ma ea co ca clt)) ∧ (∀ v a b q s' e', itR C L p = .inr (v, a, b, q) → SY C L q s' e' → (tlB B v a b = none → ∀ r, r < 0 → ¬ r = -10 → Q (some (.int r)) (wZ by9 tln (s') (e') pe ki mi se we lea mst pa fi sd ev un ma ea co ca clt)) ∧ (∀ B' pe1 ki1 mi1 se1 we1 lea1 mst1 pa1 fi1 sd1 ev1 un1 ma1 ea1 co1 ca1 clt1 r, tlB B v a b = some B' → RT nn B' pe1 ki1 mi1 se1 we1 lea1 mst1 pa1 fi1 sd1 ev1 un1 ma1 ea1 co1 ca1 clt1 → ¬ r < 0 → Q (some (.int r)) (wZ by9 tln s' e' pe1 ki1 mi1 se1 we1 lea1 mst1 pa1 fi1 sd1 ev1 un1 ma1 ea1 co1 ca1 clt1)))
def T_X8_tellItem : List (Nat × em_Op) := [(0, o_aload 0 1), (1, o_ldS 0 3), (3, o_callP 2 (some 3) [0, 1] (sp_X8_isWord) 6), (6, o_ifeq 49 9), (9, o_aload 0 10), (10, o_callP 1 (some 3) [0, 1] (sp_X8_step) 13), (13, o_aload 0 14), (14, o_callP 1 (some 3) [0, 1] (sp_X8_takeNumber) 17), (17, o_istore 2 18), (18, o_iload 2 19), (19, o_iconst (-1) 20), (20, o_icmpne 27 23), (23, o_iconst (-1) 24), (24, o_goto 31), (27, o_aload 0 28), (28, o_callP 1 (some 3) [0, 1] (sp_X8_takeMatters) 31), (31, o_istore 3 32), (32, o_iload 3 33), (33, o_iconst (-1) 34), (34, o_icmpne 42 37), (37, o_iconst (-10) 39), (39, o_goto 48), (42, o_aload 1 43), (43, o_iload 2 44), (44, o_iload 3 45), (45, o_callP 3 (some 2) [2, 3, 4, 5, 6, 7, 8, 9] (sp_X7_welcome) 48), (48, o_iret), (49, o_aload 0 50), (50, o_ldS 2 52), (52, o_callP 2 (some 3) [0, 1] (sp_X8_isWord) 55), (55, o_ifeq 83 58), (58, o_aload 0 59), (59, o_callP 1 (some 3) [0, 1] (sp_X8_step) 62), (62, o_aload 0 63), (63, o_callP 1 (some 3) [0, 1] (sp_X8_takeMatters) 66), (66, o_istore 2 67), (67, o_iload 2 68), (68, o_iconst (-1) 69), (69, o_icmpne 77 72), (72, o_iconst (-10) 74), (74, o_goto 82), (77, o_aload 1 78), (78, o_iload 2 79), (79, o_callP 2 (some 2) [2, 3, 4, 5, 6, 7, 8, 9] (sp_X7_weigh) 82), (82, o_iret), (83, o_aload 0 84), (84, o_ldS 3 86), (86, o_callP 2 (some 3) [0, 1] (sp_X8_isWord) 89), (89, o_istore 2 90), (90, o_iload 2 91), (91, o_ifne 106 94), (94, o_aload 0 95), (95, o_ldS 4 97), (97, o_callP 2 (some 3) [0, 1] (sp_X8_isWord) 100), (100, o_ifne 106 103), (103, o_iconst (-10) 105), (105, o_iret), (106, o_aload 0 107), (107, o_callP 1 (some 3) [0, 1] (sp_X8_step) 110), (110, o_aload 0 111), (111, o_callP 1 (some 3) [0, 1] (sp_X8_takeNumber) 114), (114, o_istore 3 115), (115, o_iload 3 116), (116, o_iconst (-1) 117), (117, o_icmpne 124 120), (120, o_iconst (-1) 121), (121, o_goto 128), (124, o_aload 0 125), (125, o_callP 1 (some 3) [0, 1] (sp_X8_takeNumber) 128), (128, o_istore 4 130), (130, o_iload 4 132), (132, o_iconst (-1) 133), (133, o_icmpne 139 136), (136, o_iconst (-10) 138), (138, o_iret), (139, o_iload 2 140), (140, o_ifeq 153 143), (143, o_aload 1 144), (144, o_iload 3 145), (145, o_iload 4 147), (147, o_callP 3 (some 2) [2, 3, 4, 5, 6, 7, 8, 9] (sp_X7_permit) 150), (150, o_goto 160), (153, o_aload 1 154), (154, o_iload 3 155), (155, o_iload 4 157), (157, o_callP 3 (some 2) [2, 3, 4, 5, 6, 7, 8, 9] (sp_X7_arrange) 160), (160, o_iret)]
theorem me_X8_tellItem : em_Me T_X8_tellItem 5 sp_X8_tellItem := by
  intro Q K hK hle av hp hs
  obtain ⟨by9, tln, tst, ten, pe, ki, mi, se, we, lea, mst, pa, fi, sd, ev, un, ma, ea, co, ca, clt, C, L, p, nn, B, rfl, rfl, hT, hp, ⟨rfl, rfl⟩, hR, hF, hI⟩ := hs
  have hL := hT.2.2.1
  have hC := hT.2.2.2
  obtain ⟨h1, h2⟩ := tkS_le (C := C) hp
  obtain ⟨n1, n2, n3⟩ := nxp_le (C := C) hp
  obtain ⟨m1, m2, m3⟩ := nxp_le (C := C) n2
  have hse : tkS C L p ≤ tyE C L (tkS C L p) ∧ tyE C L (tkS C L p) ≤ L + 1 := by
    unfold tyE
    by_cases q : tkS C L p = L
    · rw [if_pos q]; omega
    · rw [if_neg q]
      have := tkE_le (C := C) h2
      omega
  have a31 : ∀ {q a : Nat} {lt : Bool}, prA C L q lt = some a → a < 2000 := fun h => prA_lt hC h
  have hpe := hR.1.2.2.1
  have hp6 := hR.1.1
  have hpa := hR.2.2.2.1.2.1
  have hp8 := hR.2.2.2.1.1
  refine ⟨Nat.le_of_ble_eq_true rfl, ?_⟩
  -- weighty
  have W58 : prV C L p = some 1 → K 58 [some (.ref 0), some (.ref 2), none, none, none] [] (wZ by9 tln (nI (tkS C L p)) (nI (tyE C L (tkS C L p))) pe ki mi se we lea mst pa fi sd ev un ma ea co ca clt) := by
    intro hV
    have e1 := itR_1 hV
    refine hK 31 5 58 _ _ _ ?_
    refine ⟨_, _, _, _, C, L, nxp C L p, rfl, rfl, hT, by rw [(prV_4 hV).2], n2, fun s1 e1' hS1 => ?_⟩
    refine ⟨_, _, _, _, C, L, nxp C L p, rfl, rfl, hT, n2, hS1, fun hn => ?_, fun a s2 e2 hA hS2 => ?_⟩
    · rw [hn] at e1
      refine hK 36 9 67 _ _ _ ?_
      exact ⟨fun z => absurd rfl z, fun _ => hF _ _ _ e1 hS1⟩
    · rw [hA] at e1
      have ha := a31 hA
      obtain ⟨q1, q2⟩ := hI _ _ _ _ _ _ e1 hS2
      refine hK 36 9 67 _ _ _ ?_
      refine ⟨fun _ => ?_, fun z => absurd z (nI_m1 (by omega))⟩
      refine ⟨_, _, _, _, _, _, _, _, _, _, _, _, _, _, _, _, _, nI a, rfl, rfl, fun z => ?_, fun z => ?_⟩
      · have z : ¬ a ≤ 1023 := fun q => z ((iss_nI (by omega)).mpr q)
        exact q1 (by unfold tlB; rw [if_neg (by omega), if_pos rfl, if_neg z]) (-2) (by decide) (by decide)
      · have z := (iss_nI (by omega)).mp z
        have hw := hR.2.2.1
        exact q2 _ _ _ _ _ _ _ _ _ _ _ _ _ _ _ _ _ _ _ (by unfold tlB; rw [if_neg (by omega), if_pos rfl, if_pos z]) (RT_weigh hR z) (by have h5 := hw.1; rw [hw.2.2.2.1]; exact nI_pos (by omega))
  -- person
  have P9 : prV C L p = some 0 → K 9 [some (.ref 0), some (.ref 2), none, none, none] [] (wZ by9 tln (nI (tkS C L p)) (nI (tyE C L (tkS C L p))) pe ki mi se we lea mst pa fi sd ev un ma ea co ca clt) := by
    intro hV
    have e1 := itR_0 hV
    refine hK 4 5 9 _ _ _ ?_
    refine ⟨_, _, _, _, C, L, nxp C L p, rfl, rfl, hT, by rw [(prV_4 hV).2], n2, fun s1 e1' hS1 => ?_⟩
    refine ⟨_, _, _, _, C, L, nxp C L p, rfl, rfl, hT, n2, hS1, fun hn => ?_, fun a s2 e2 hA hS2 => ?_⟩
    · rw [hn] at e1
      refine hK 9 18 18 _ _ _ ?_
      exact ⟨fun z => absurd rfl z, fun _ => ⟨fun z => absurd rfl z, fun _ => hF _ _ _ e1 hS1⟩⟩
    · rw [hA] at e1
      have ha := a31 hA
      refine hK 9 8 18 _ _ _ ?_
      refine ⟨fun _ => ?_, fun z => absurd z (nI_m1 (by omega))⟩
      refine ⟨_, _, _, _, C, L, nxp C L (nxp C L p), rfl, rfl, hT, m2, hS2, fun hn => ?_, fun b s3 e3 hB hS3 => ?_⟩
      · have e1 : itR C L p = .inl (nxp C L (nxp C L p)) := by rw [e1, hn]
        refine hK 17 10 32 _ _ _ ?_
        exact ⟨fun z => absurd rfl z, fun _ => hF _ _ _ e1 hS2⟩
      · have e1 : itR C L p = .inr (0, a, b, nxp C L (nxp C L (nxp C L p))) := by rw [e1, hB]
        have hb := a31 hB
        obtain ⟨q1, q2⟩ := hI _ _ _ _ _ _ e1 hS3
        refine hK 17 10 32 _ _ _ ?_
        refine ⟨fun _ => ?_, fun z => absurd z (nI_m1 (by omega))⟩
        refine ⟨_, _, _, _, _, _, _, _, _, _, _, _, _, _, _, _, _, nI a, nI b, B 0, rfl, rfl, hpe, hp6, fun z => ?_, fun z1 z2 z3 => ?_, fun z1 z2 z3 => ?_⟩
        · have z : ¬ (a ≤ 5 ∧ b ≤ 1023) := fun q => z ⟨(isk_nI (by omega)).mpr q.1, (iss_nI (by omega)).mpr q.2⟩
          exact q1 (by unfold tlB; rw [if_pos rfl, if_neg (fun q => z ⟨q.1, q.2.1⟩)]) (-2) (by decide) (by decide)
        · exact q1 (by unfold tlB; rw [if_pos rfl, if_neg (fun q => by omega)]) (-4) (by decide) (by decide)
        · have z1 := (isk_nI (by omega)).mp z1
          have z2 := (iss_nI (by omega)).mp z2
          exact q2 _ _ _ _ _ _ _ _ _ _ _ _ _ _ _ _ _ _ _ (by unfold tlB; rw [if_pos rfl, if_pos ⟨z1, z2, z3⟩]) (RT_person hR z1 z2 z3) (nI_pos (by omega))
  -- licence, talk
  have L106 : ∀ v, (v = 2 ∨ v = 3) → prV C L p = some v → ∀ x : Int32, (x = 0 ↔ v = 3) → K 106 [some (.ref 0), some (.ref 2), some (.int x), none, none] [] (wZ by9 tln (nI (tkS C L p)) (nI (tyE C L (tkS C L p))) pe ki mi se we lea mst pa fi sd ev un ma ea co ca clt) := by
    intro v hv hV x hx
    have e1 := itR_2 hv hV
    refine hK 57 5 106 _ _ _ ?_
    refine ⟨_, _, _, _, C, L, nxp C L p, rfl, rfl, hT, by rw [(prV_4 hV).2], n2, fun s1 e1' hS1 => ?_⟩
    refine ⟨_, _, _, _, C, L, nxp C L p, rfl, rfl, hT, n2, hS1, fun hn => ?_, fun a s2 e2 hA hS2 => ?_⟩
    · rw [hn] at e1
      refine hK 62 13 115 _ _ _ ?_
      exact ⟨fun z => absurd rfl z, fun _ => ⟨fun z => absurd rfl z, fun _ => hF _ _ _ e1 hS1⟩⟩
    · rw [hA] at e1
      have ha := a31 hA
      refine hK 62 8 115 _ _ _ ?_
      refine ⟨fun _ => ?_, fun z => absurd z (nI_m1 (by omega))⟩
      refine ⟨_, _, _, _, C, L, nxp C L (nxp C L p), rfl, rfl, hT, m2, hS2, fun hn => ?_, fun b s3 e3 hB hS3 => ?_⟩
      · have e1 : itR C L p = .inl (nxp C L (nxp C L p)) := by rw [e1, hn]
        refine hK 70 5 130 _ _ _ ?_
        exact ⟨fun z => absurd rfl z, fun _ => hF _ _ _ e1 hS2⟩
      · have e1 : itR C L p = .inr (v, a, b, nxp C L (nxp C L (nxp C L p))) := by rw [e1, hB]
        have hb := a31 hB
        obtain ⟨q1, q2⟩ := hI _ _ _ _ _ _ e1 hS3
        refine hK 70 9999 130 _ _ _ ?_
        refine ⟨fun _ => ⟨fun z => ?_, fun z => ?_⟩, fun z => absurd z (nI_m1 (by omega))⟩
        · have hv3 : v = 3 := hx.mp z
          subst hv3
          refine ⟨_, _, _, _, _, _, _, _, _, _, _, _, _, _, _, _, _, nI a, nI b, B 1, rfl, rfl, hpa, hp8, fun y => ?_, fun y1 y2 => ?_, fun y1 y2 => ?_⟩
          · rw [hpe] at y
            have y : ¬ (a < B 0 ∧ b < B 0 ∧ a ≠ b) := fun q => y ((h2_iff (by omega) (by omega) (by omega)).mpr q)
            exact q1 (by unfold tlB; rw [if_neg (by omega), if_neg (by omega), if_neg (by omega), if_neg (fun q => y ⟨q.1, q.2.1, q.2.2.1⟩)]) (-2) (by decide) (by decide)
          · exact q1 (by unfold tlB; rw [if_neg (by omega), if_neg (by omega), if_neg (by omega), if_neg (fun q => by omega)]) (-4) (by decide) (by decide)
          · rw [hpe] at y1
            have y := (h2_iff (by omega) (by omega) (by omega)).mp y1
            exact q2 _ _ _ _ _ _ _ _ _ _ _ _ _ _ _ _ _ _ _ (by unfold tlB; rw [if_neg (by omega), if_neg (by omega), if_neg (by omega), if_pos ⟨y.1, y.2.1, y.2.2, y2⟩]) (RT_talk hR y.1 y.2.1 y.2.2 y2) (nI_pos (by omega))
        · have hv2 : v = 2 := by
            rcases hv with q | q
            · exact q
            · exact absurd (hx.mpr q) z
          subst hv2
          refine ⟨_, _, _, _, _, _, _, _, _, _, _, _, _, _, _, _, _, nI a, nI b, rfl, rfl, fun y => ?_, fun y => ?_⟩
          · have y : ¬ (a ≤ b ∧ b ≤ 20) := fun q => y ((prm_nI (by omega) (by omega)).mpr q)
            exact q1 (by unfold tlB; rw [if_neg (by omega), if_neg (by omega), if_pos rfl, if_neg y]) (-2) (by decide) (by decide)
          · have y := (prm_nI (by omega) (by omega)).mp y
            have hw := hR.2.2.1
            have er : 100 * lea + mst = nI (100 * B 6 + B 7) := by
              rw [hw.2.2.2.2.1, hw.2.2.2.2.2]
              have e3 : (100 : Int32) * nI (B 6) = nI (100 * B 6) := pk_mul 100 _
              rw [e3, nI_add]
            have h6 := hw.2.1
            have h7 := hw.2.2.1
            exact q2 _ _ _ _ _ _ _ _ _ _ _ _ _ _ _ _ _ _ _ (by unfold tlB; rw [if_neg (by omega), if_neg (by omega), if_pos rfl, if_pos y]) (RT_permit hR y.1 y.2) (by rw [er]; exact nI_pos (by omega))
  refine hK 0 4 0 _ _ _ ?_
  refine ⟨_, _, _, _, C, L, tkS C L p, tyE C L (tkS C L p), 0, rfl, rfl, hT, rfl, rfl, hse.1, by omega, by omega, fun z => ?_, fun z => P9 ((isW_person hp).mp (b1_tt z))⟩
  have z0 : ¬ prV C L p = some 0 := fun q => by
    have := (isW_person hp).mpr q
    rw [b1_0.mp z] at this
    cases this
  refine hK 27 4 49 _ _ _ ?_
  refine ⟨_, _, _, _, C, L, tkS C L p, tyE C L (tkS C L p), 2, rfl, rfl, hT, rfl, rfl, hse.1, by omega, by omega, fun z => ?_, fun z => W58 ((isW_weighty hp).mp (b1_tt z))⟩
  have z1 : ¬ prV C L p = some 1 := fun q => by
    have := (isW_weighty hp).mpr q
    rw [b1_0.mp z] at this
    cases this
  refine hK 45 6 83 _ _ _ ?_
  refine ⟨_, _, _, _, C, L, tkS C L p, tyE C L (tkS C L p), 3, rfl, rfl, hT, rfl, rfl, hse.1, by omega, by omega, fun z => ?_, fun z => ?_⟩
  · have hv := (isW_licence hp).mp (b1_tt z)
    exact L106 2 (Or.inl rfl) hv _ ⟨fun q => absurd q z, fun q => by omega⟩
  · have z2 : ¬ prV C L p = some 2 := fun q => by
      have := (isW_licence hp).mpr q
      rw [b1_0.mp z] at this
      cases this
    refine hK 51 6 94 _ _ _ ?_
    refine ⟨_, _, _, _, C, L, tkS C L p, tyE C L (tkS C L p), 4, rfl, rfl, hT, rfl, rfl, hse.1, by omega, by omega, fun y => ?_, fun y => ?_⟩
    · have hv := (isW_talk hp).mp (b1_tt y)
      exact L106 3 (Or.inr rfl) hv _ ⟨fun _ => rfl, fun _ => z⟩
    · have z3 : ¬ prV C L p = some 3 := fun q => by
        have := (isW_talk hp).mpr q
        rw [b1_0.mp y] at this
        cases this
      have hn : prV C L p = none := by
        cases hV : prV C L p with
        | none => rfl
        | some v =>
          have := prV_lt hV
          rw [hV] at z0 z1 z2 z3
          have c : v = 0 ∨ v = 1 ∨ v = 2 ∨ v = 3 := by omega
          rcases c with rfl | rfl | rfl | rfl
          · exact absurd rfl z0
          · exact absurd rfl z1
          · exact absurd rfl z2
          · exact absurd rfl z3
      exact hF _ _ _ (itR_n hn) ⟨rfl, rfl⟩
abbrev rm_X8_tellItem : Room := { frames := 6, cells := 0, slots := 0, locals := 130 }
set_option maxRecDepth 100000 in
set_option maxHeartbeats 4000000 in
theorem ct_X8_tellItem (l : Launch) (D : va_G) (dA : Nat → ClassId) (σ : Nat → Nat) : em_CT l D em_cl dA σ (em_F σ) y_X8_tellItem c_X8_tellItem 5 (Option.some ClassFile.FieldType.int) rm_X8_tellItem (sp_X8_tellItem ) := by
  refine em_CT_of (T := T_X8_tellItem ) (em_F_ok σ) (by decide) (fun p e s m args below meth c A ρ Q C hFok hF hret hlk hin => ?_) (me_X8_tellItem )
  unfold T_X8_tellItem
  refine List.forall_mem_cons.mpr ⟨s_aload_n C (by decide +kernel : decode c_X8_tellItem 0 = .ok (.aload_n 0, 1)) rfl rfl rfl, ?_⟩
  refine List.forall_mem_cons.mpr ⟨s_ldS C hF (k := 0) rfl (by decide +kernel : decode c_X8_tellItem 1 = .ok (.ldc 36, 2)) rfl rfl, ?_⟩
  refine List.forall_mem_cons.mpr ⟨s_callPV C hFok hF (ct_X8_isWord l D dA σ) ⟨rfl, rfl⟩ ew304 em_cl_X8 ew301 ew303 ewp7 ew2 ⟨by decide, by decide, by decide +kernel⟩ ⟨by decide, by decide⟩ (by decide +kernel : decode c_X8_tellItem 3 = .ok (.invokevirtual 38, 3)) rfl rfl ⟨Nat.zero_le _, Nat.zero_le _⟩ (by decide), ?_⟩
  refine List.forall_mem_cons.mpr ⟨s_ifeq C (by decide +kernel : decode c_X8_tellItem 6 = .ok (.ifCond .eq 43, 3)) (by decide) rfl rfl rfl, ?_⟩
  refine List.forall_mem_cons.mpr ⟨s_aload_n C (by decide +kernel : decode c_X8_tellItem 9 = .ok (.aload_n 0, 1)) rfl rfl rfl, ?_⟩
  refine List.forall_mem_cons.mpr ⟨s_callPV C hFok hF (ct_X8_step l D dA σ) ⟨rfl, rfl⟩ ew283 em_cl_X8 ew280 ew282 ewp2 ew2 ⟨by decide, by decide, by decide +kernel⟩ ⟨by decide, by decide⟩ (by decide +kernel : decode c_X8_tellItem 10 = .ok (.invokevirtual 22, 3)) rfl rfl ⟨Nat.zero_le _, Nat.zero_le _⟩ (by decide), ?_⟩
  refine List.forall_mem_cons.mpr ⟨s_aload_n C (by decide +kernel : decode c_X8_tellItem 13 = .ok (.aload_n 0, 1)) rfl rfl rfl, ?_⟩
  refine List.forall_mem_cons.mpr ⟨s_callPV C hFok hF (ct_X8_takeNumber l D dA σ) ⟨rfl, rfl⟩ ew356 em_cl_X8 ew353 ew355 ewp8 ew2 ⟨by decide, by decide, by decide +kernel⟩ ⟨by decide, by decide⟩ (by decide +kernel : decode c_X8_tellItem 14 = .ok (.invokevirtual 42, 3)) rfl rfl ⟨Nat.zero_le _, Nat.zero_le _⟩ (by decide), ?_⟩
  refine List.forall_mem_cons.mpr ⟨s_istore_n C (by decide +kernel : decode c_X8_tellItem 17 = .ok (.istore_n 2, 1)) rfl rfl rfl (by decide), ?_⟩
  refine List.forall_mem_cons.mpr ⟨s_iload_n C (by decide +kernel : decode c_X8_tellItem 18 = .ok (.iload_n 2, 1)) rfl rfl rfl, ?_⟩
  refine List.forall_mem_cons.mpr ⟨s_iconst C (by decide +kernel : decode c_X8_tellItem 19 = .ok (.iconst (-1), 1)) rfl rfl (by decide), ?_⟩
  refine List.forall_mem_cons.mpr ⟨s_icmpne C (by decide +kernel : decode c_X8_tellItem 20 = .ok (.if_icmp .ne 7, 3)) (by decide) rfl rfl rfl, ?_⟩
  refine List.forall_mem_cons.mpr ⟨s_iconst C (by decide +kernel : decode c_X8_tellItem 23 = .ok (.iconst (-1), 1)) rfl rfl (by decide), ?_⟩
  refine List.forall_mem_cons.mpr ⟨s_goto C (by decide +kernel : decode c_X8_tellItem 24 = .ok (.goto 7, 3)) (by decide) rfl, ?_⟩
  refine List.forall_mem_cons.mpr ⟨s_aload_n C (by decide +kernel : decode c_X8_tellItem 27 = .ok (.aload_n 0, 1)) rfl rfl rfl, ?_⟩
  refine List.forall_mem_cons.mpr ⟨s_callPV C hFok hF (ct_X8_takeMatters l D dA σ) ⟨rfl, rfl⟩ ew360 em_cl_X8 ew357 ew359 ewp9 ew2 ⟨by decide, by decide, by decide +kernel⟩ ⟨by decide, by decide⟩ (by decide +kernel : decode c_X8_tellItem 28 = .ok (.invokevirtual 46, 3)) rfl rfl ⟨Nat.zero_le _, Nat.zero_le _⟩ (by decide), ?_⟩
  refine List.forall_mem_cons.mpr ⟨s_istore_n C (by decide +kernel : decode c_X8_tellItem 31 = .ok (.istore_n 3, 1)) rfl rfl rfl (by decide), ?_⟩
  refine List.forall_mem_cons.mpr ⟨s_iload_n C (by decide +kernel : decode c_X8_tellItem 32 = .ok (.iload_n 3, 1)) rfl rfl rfl, ?_⟩
  refine List.forall_mem_cons.mpr ⟨s_iconst C (by decide +kernel : decode c_X8_tellItem 33 = .ok (.iconst (-1), 1)) rfl rfl (by decide), ?_⟩
  refine List.forall_mem_cons.mpr ⟨s_icmpne C (by decide +kernel : decode c_X8_tellItem 34 = .ok (.if_icmp .ne 8, 3)) (by decide) rfl rfl rfl, ?_⟩
  refine List.forall_mem_cons.mpr ⟨s_bipush C (by decide +kernel : decode c_X8_tellItem 37 = .ok (.bipush (-10), 2)) rfl rfl (by decide), ?_⟩
  refine List.forall_mem_cons.mpr ⟨s_goto C (by decide +kernel : decode c_X8_tellItem 39 = .ok (.goto 9, 3)) (by decide) rfl, ?_⟩
  refine List.forall_mem_cons.mpr ⟨s_aload_n C (by decide +kernel : decode c_X8_tellItem 42 = .ok (.aload_n 1, 1)) rfl rfl rfl, ?_⟩
  refine List.forall_mem_cons.mpr ⟨s_iload_n C (by decide +kernel : decode c_X8_tellItem 43 = .ok (.iload_n 2, 1)) rfl rfl rfl, ?_⟩
  refine List.forall_mem_cons.mpr ⟨s_iload_n C (by decide +kernel : decode c_X8_tellItem 44 = .ok (.iload_n 3, 1)) rfl rfl rfl, ?_⟩
  refine List.forall_mem_cons.mpr ⟨s_callPV C hFok hF (ct_X7_welcome l D dA σ) ⟨rfl, rfl⟩ ew181 em_cl_X7 ew362 ew179 ew180 ew5 ⟨by decide, by decide, by decide +kernel⟩ ⟨by decide, by decide⟩ (by decide +kernel : decode c_X8_tellItem 45 = .ok (.invokevirtual 49, 3)) rfl rfl ⟨Nat.zero_le _, Nat.zero_le _⟩ (by decide), ?_⟩
  refine List.forall_mem_cons.mpr ⟨s_iret C (by decide +kernel : decode c_X8_tellItem 48 = .ok (.ireturn, 1)) hret hlk ⟨Nat.le_refl 0, Nat.le_refl 0⟩, ?_⟩
  refine List.forall_mem_cons.mpr ⟨s_aload_n C (by decide +kernel : decode c_X8_tellItem 49 = .ok (.aload_n 0, 1)) rfl rfl rfl, ?_⟩
  refine List.forall_mem_cons.mpr ⟨s_ldS C hF (k := 2) rfl (by decide +kernel : decode c_X8_tellItem 50 = .ok (.ldc 55, 2)) rfl rfl, ?_⟩
  refine List.forall_mem_cons.mpr ⟨s_callPV C hFok hF (ct_X8_isWord l D dA σ) ⟨rfl, rfl⟩ ew304 em_cl_X8 ew301 ew303 ewp7 ew2 ⟨by decide, by decide, by decide +kernel⟩ ⟨by decide, by decide⟩ (by decide +kernel : decode c_X8_tellItem 52 = .ok (.invokevirtual 38, 3)) rfl rfl ⟨Nat.zero_le _, Nat.zero_le _⟩ (by decide), ?_⟩
  refine List.forall_mem_cons.mpr ⟨s_ifeq C (by decide +kernel : decode c_X8_tellItem 55 = .ok (.ifCond .eq 28, 3)) (by decide) rfl rfl rfl, ?_⟩
  refine List.forall_mem_cons.mpr ⟨s_aload_n C (by decide +kernel : decode c_X8_tellItem 58 = .ok (.aload_n 0, 1)) rfl rfl rfl, ?_⟩
  refine List.forall_mem_cons.mpr ⟨s_callPV C hFok hF (ct_X8_step l D dA σ) ⟨rfl, rfl⟩ ew283 em_cl_X8 ew280 ew282 ewp2 ew2 ⟨by decide, by decide, by decide +kernel⟩ ⟨by decide, by decide⟩ (by decide +kernel : decode c_X8_tellItem 59 = .ok (.invokevirtual 22, 3)) rfl rfl ⟨Nat.zero_le _, Nat.zero_le _⟩ (by decide), ?_⟩
  refine List.forall_mem_cons.mpr ⟨s_aload_n C (by decide +kernel : decode c_X8_tellItem 62 = .ok (.aload_n 0, 1)) rfl rfl rfl, ?_⟩
  refine List.forall_mem_cons.mpr ⟨s_callPV C hFok hF (ct_X8_takeMatters l D dA σ) ⟨rfl, rfl⟩ ew360 em_cl_X8 ew357 ew359 ewp9 ew2 ⟨by decide, by decide, by decide +kernel⟩ ⟨by decide, by decide⟩ (by decide +kernel : decode c_X8_tellItem 63 = .ok (.invokevirtual 46, 3)) rfl rfl ⟨Nat.zero_le _, Nat.zero_le _⟩ (by decide), ?_⟩
  refine List.forall_mem_cons.mpr ⟨s_istore_n C (by decide +kernel : decode c_X8_tellItem 66 = .ok (.istore_n 2, 1)) rfl rfl rfl (by decide), ?_⟩
  refine List.forall_mem_cons.mpr ⟨s_iload_n C (by decide +kernel : decode c_X8_tellItem 67 = .ok (.iload_n 2, 1)) rfl rfl rfl, ?_⟩
  refine List.forall_mem_cons.mpr ⟨s_iconst C (by decide +kernel : decode c_X8_tellItem 68 = .ok (.iconst (-1), 1)) rfl rfl (by decide), ?_⟩
  refine List.forall_mem_cons.mpr ⟨s_icmpne C (by decide +kernel : decode c_X8_tellItem 69 = .ok (.if_icmp .ne 8, 3)) (by decide) rfl rfl rfl, ?_⟩
  refine List.forall_mem_cons.mpr ⟨s_bipush C (by decide +kernel : decode c_X8_tellItem 72 = .ok (.bipush (-10), 2)) rfl rfl (by decide), ?_⟩
  refine List.forall_mem_cons.mpr ⟨s_goto C (by decide +kernel : decode c_X8_tellItem 74 = .ok (.goto 8, 3)) (by decide) rfl, ?_⟩
  refine List.forall_mem_cons.mpr ⟨s_aload_n C (by decide +kernel : decode c_X8_tellItem 77 = .ok (.aload_n 1, 1)) rfl rfl rfl, ?_⟩
  refine List.forall_mem_cons.mpr ⟨s_iload_n C (by decide +kernel : decode c_X8_tellItem 78 = .ok (.iload_n 2, 1)) rfl rfl rfl, ?_⟩
  refine List.forall_mem_cons.mpr ⟨s_callPV C hFok hF (ct_X7_weigh l D dA σ) ⟨rfl, rfl⟩ ew234 em_cl_X7 ew364 ew232 ew233 ew5 ⟨by decide, by decide, by decide +kernel⟩ ⟨by decide, by decide⟩ (by decide +kernel : decode c_X8_tellItem 79 = .ok (.invokevirtual 57, 3)) rfl rfl ⟨Nat.zero_le _, Nat.zero_le _⟩ (by decide), ?_⟩
  refine List.forall_mem_cons.mpr ⟨s_iret C (by decide +kernel : decode c_X8_tellItem 82 = .ok (.ireturn, 1)) hret hlk ⟨Nat.le_refl 0, Nat.le_refl 0⟩, ?_⟩
  refine List.forall_mem_cons.mpr ⟨s_aload_n C (by decide +kernel : decode c_X8_tellItem 83 = .ok (.aload_n 0, 1)) rfl rfl rfl, ?_⟩
  refine List.forall_mem_cons.mpr ⟨s_ldS C hF (k := 3) rfl (by decide +kernel : decode c_X8_tellItem 84 = .ok (.ldc 61, 2)) rfl rfl, ?_⟩
  refine List.forall_mem_cons.mpr ⟨s_callPV C hFok hF (ct_X8_isWord l D dA σ) ⟨rfl, rfl⟩ ew304 em_cl_X8 ew301 ew303 ewp7 ew2 ⟨by decide, by decide, by decide +kernel⟩ ⟨by decide, by decide⟩ (by decide +kernel : decode c_X8_tellItem 86 = .ok (.invokevirtual 38, 3)) rfl rfl ⟨Nat.zero_le _, Nat.zero_le _⟩ (by decide), ?_⟩
  refine List.forall_mem_cons.mpr ⟨s_istore_n C (by decide +kernel : decode c_X8_tellItem 89 = .ok (.istore_n 2, 1)) rfl rfl rfl (by decide), ?_⟩
  refine List.forall_mem_cons.mpr ⟨s_iload_n C (by decide +kernel : decode c_X8_tellItem 90 = .ok (.iload_n 2, 1)) rfl rfl rfl, ?_⟩
  refine List.forall_mem_cons.mpr ⟨s_ifne C (by decide +kernel : decode c_X8_tellItem 91 = .ok (.ifCond .ne 15, 3)) (by decide) rfl rfl rfl, ?_⟩
  refine List.forall_mem_cons.mpr ⟨s_aload_n C (by decide +kernel : decode c_X8_tellItem 94 = .ok (.aload_n 0, 1)) rfl rfl rfl, ?_⟩
  refine List.forall_mem_cons.mpr ⟨s_ldS C hF (k := 4) rfl (by decide +kernel : decode c_X8_tellItem 95 = .ok (.ldc 63, 2)) rfl rfl, ?_⟩
  refine List.forall_mem_cons.mpr ⟨s_callPV C hFok hF (ct_X8_isWord l D dA σ) ⟨rfl, rfl⟩ ew304 em_cl_X8 ew301 ew303 ewp7 ew2 ⟨by decide, by decide, by decide +kernel⟩ ⟨by decide, by decide⟩ (by decide +kernel : decode c_X8_tellItem 97 = .ok (.invokevirtual 38, 3)) rfl rfl ⟨Nat.zero_le _, Nat.zero_le _⟩ (by decide), ?_⟩
  refine List.forall_mem_cons.mpr ⟨s_ifne C (by decide +kernel : decode c_X8_tellItem 100 = .ok (.ifCond .ne 6, 3)) (by decide) rfl rfl rfl, ?_⟩
  refine List.forall_mem_cons.mpr ⟨s_bipush C (by decide +kernel : decode c_X8_tellItem 103 = .ok (.bipush (-10), 2)) rfl rfl (by decide), ?_⟩
  refine List.forall_mem_cons.mpr ⟨s_iret C (by decide +kernel : decode c_X8_tellItem 105 = .ok (.ireturn, 1)) hret hlk ⟨Nat.le_refl 0, Nat.le_refl 0⟩, ?_⟩
  refine List.forall_mem_cons.mpr ⟨s_aload_n C (by decide +kernel : decode c_X8_tellItem 106 = .ok (.aload_n 0, 1)) rfl rfl rfl, ?_⟩
  refine List.forall_mem_cons.mpr ⟨s_callPV C hFok hF (ct_X8_step l D dA σ) ⟨rfl, rfl⟩ ew283 em_cl_X8 ew280 ew282 ewp2 ew2 ⟨by decide, by decide, by decide +kernel⟩ ⟨by decide, by decide⟩ (by decide +kernel : decode c_X8_tellItem 107 = .ok (.invokevirtual 22, 3)) rfl rfl ⟨Nat.zero_le _, Nat.zero_le _⟩ (by decide), ?_⟩
  refine List.forall_mem_cons.mpr ⟨s_aload_n C (by decide +kernel : decode c_X8_tellItem 110 = .ok (.aload_n 0, 1)) rfl rfl rfl, ?_⟩
  refine List.forall_mem_cons.mpr ⟨s_callPV C hFok hF (ct_X8_takeNumber l D dA σ) ⟨rfl, rfl⟩ ew356 em_cl_X8 ew353 ew355 ewp8 ew2 ⟨by decide, by decide, by decide +kernel⟩ ⟨by decide, by decide⟩ (by decide +kernel : decode c_X8_tellItem 111 = .ok (.invokevirtual 42, 3)) rfl rfl ⟨Nat.zero_le _, Nat.zero_le _⟩ (by decide), ?_⟩
  refine List.forall_mem_cons.mpr ⟨s_istore_n C (by decide +kernel : decode c_X8_tellItem 114 = .ok (.istore_n 3, 1)) rfl rfl rfl (by decide), ?_⟩
  refine List.forall_mem_cons.mpr ⟨s_iload_n C (by decide +kernel : decode c_X8_tellItem 115 = .ok (.iload_n 3, 1)) rfl rfl rfl, ?_⟩
  refine List.forall_mem_cons.mpr ⟨s_iconst C (by decide +kernel : decode c_X8_tellItem 116 = .ok (.iconst (-1), 1)) rfl rfl (by decide), ?_⟩
  refine List.forall_mem_cons.mpr ⟨s_icmpne C (by decide +kernel : decode c_X8_tellItem 117 = .ok (.if_icmp .ne 7, 3)) (by decide) rfl rfl rfl, ?_⟩
  refine List.forall_mem_cons.mpr ⟨s_iconst C (by decide +kernel : decode c_X8_tellItem 120 = .ok (.iconst (-1), 1)) rfl rfl (by decide), ?_⟩
  refine List.forall_mem_cons.mpr ⟨s_goto C (by decide +kernel : decode c_X8_tellItem 121 = .ok (.goto 7, 3)) (by decide) rfl, ?_⟩
  refine List.forall_mem_cons.mpr ⟨s_aload_n C (by decide +kernel : decode c_X8_tellItem 124 = .ok (.aload_n 0, 1)) rfl rfl rfl, ?_⟩
  refine List.forall_mem_cons.mpr ⟨s_callPV C hFok hF (ct_X8_takeNumber l D dA σ) ⟨rfl, rfl⟩ ew356 em_cl_X8 ew353 ew355 ewp8 ew2 ⟨by decide, by decide, by decide +kernel⟩ ⟨by decide, by decide⟩ (by decide +kernel : decode c_X8_tellItem 125 = .ok (.invokevirtual 42, 3)) rfl rfl ⟨Nat.zero_le _, Nat.zero_le _⟩ (by decide), ?_⟩
  refine List.forall_mem_cons.mpr ⟨s_istore C (by decide +kernel : decode c_X8_tellItem 128 = .ok (.istore 4, 2)) rfl rfl (by decide), ?_⟩
  refine List.forall_mem_cons.mpr ⟨s_iload C (by decide +kernel : decode c_X8_tellItem 130 = .ok (.iload 4, 2)) rfl rfl, ?_⟩
  refine List.forall_mem_cons.mpr ⟨s_iconst C (by decide +kernel : decode c_X8_tellItem 132 = .ok (.iconst (-1), 1)) rfl rfl (by decide), ?_⟩
  refine List.forall_mem_cons.mpr ⟨s_icmpne C (by decide +kernel : decode c_X8_tellItem 133 = .ok (.if_icmp .ne 6, 3)) (by decide) rfl rfl rfl, ?_⟩
  refine List.forall_mem_cons.mpr ⟨s_bipush C (by decide +kernel : decode c_X8_tellItem 136 = .ok (.bipush (-10), 2)) rfl rfl (by decide), ?_⟩
  refine List.forall_mem_cons.mpr ⟨s_iret C (by decide +kernel : decode c_X8_tellItem 138 = .ok (.ireturn, 1)) hret hlk ⟨Nat.le_refl 0, Nat.le_refl 0⟩, ?_⟩
  refine List.forall_mem_cons.mpr ⟨s_iload_n C (by decide +kernel : decode c_X8_tellItem 139 = .ok (.iload_n 2, 1)) rfl rfl rfl, ?_⟩
  refine List.forall_mem_cons.mpr ⟨s_ifeq C (by decide +kernel : decode c_X8_tellItem 140 = .ok (.ifCond .eq 13, 3)) (by decide) rfl rfl rfl, ?_⟩
  refine List.forall_mem_cons.mpr ⟨s_aload_n C (by decide +kernel : decode c_X8_tellItem 143 = .ok (.aload_n 1, 1)) rfl rfl rfl, ?_⟩
  refine List.forall_mem_cons.mpr ⟨s_iload_n C (by decide +kernel : decode c_X8_tellItem 144 = .ok (.iload_n 3, 1)) rfl rfl rfl, ?_⟩
  refine List.forall_mem_cons.mpr ⟨s_iload C (by decide +kernel : decode c_X8_tellItem 145 = .ok (.iload 4, 2)) rfl rfl, ?_⟩
  refine List.forall_mem_cons.mpr ⟨s_callPV C hFok hF (ct_X7_permit l D dA σ) ⟨rfl, rfl⟩ ew242 em_cl_X7 ew367 ew240 ew241 ew5 ⟨by decide, by decide, by decide +kernel⟩ ⟨by decide, by decide⟩ (by decide +kernel : decode c_X8_tellItem 147 = .ok (.invokevirtual 65, 3)) rfl rfl ⟨Nat.zero_le _, Nat.zero_le _⟩ (by decide), ?_⟩
  refine List.forall_mem_cons.mpr ⟨s_goto C (by decide +kernel : decode c_X8_tellItem 150 = .ok (.goto 10, 3)) (by decide) rfl, ?_⟩
  refine List.forall_mem_cons.mpr ⟨s_aload_n C (by decide +kernel : decode c_X8_tellItem 153 = .ok (.aload_n 1, 1)) rfl rfl rfl, ?_⟩
  refine List.forall_mem_cons.mpr ⟨s_iload_n C (by decide +kernel : decode c_X8_tellItem 154 = .ok (.iload_n 3, 1)) rfl rfl rfl, ?_⟩
  refine List.forall_mem_cons.mpr ⟨s_iload C (by decide +kernel : decode c_X8_tellItem 155 = .ok (.iload 4, 2)) rfl rfl, ?_⟩
  refine List.forall_mem_cons.mpr ⟨s_callPV C hFok hF (ct_X7_arrange l D dA σ) ⟨rfl, rfl⟩ ew250 em_cl_X7 ew368 ew248 ew249 ew5 ⟨by decide, by decide, by decide +kernel⟩ ⟨by decide, by decide⟩ (by decide +kernel : decode c_X8_tellItem 157 = .ok (.invokevirtual 68, 3)) rfl rfl ⟨Nat.zero_le _, Nat.zero_le _⟩ (by decide), ?_⟩
  refine List.forall_mem_cons.mpr ⟨s_iret C (by decide +kernel : decode c_X8_tellItem 160 = .ok (.ireturn, 1)) hret hlk ⟨Nat.le_refl 0, Nat.le_refl 0⟩, ?_⟩
  exact fun _ h => absurd h List.not_mem_nil
