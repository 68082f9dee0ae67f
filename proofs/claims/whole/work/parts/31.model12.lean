/-! ===== seats ===== -/
def sdg (n c k : Nat) : Nat := if k = 0 then 0 else c / n ^ (n - 1 - k) % n
def usR (n c : Nat) : Nat → Nat
  | 0 => 0
  | q + 1 => usR n c q ||| 2 ^ sdg n c (n - 1 - q)
def stR (B : Nat → Nat) (n c : Nat) : Nat → Nat → Nat
  | 0 => nw B
  | k + 1 => tlN B (stR B n c k) (sdg n c k) (sdg n c ((k + 1) % n))
def seN (B : Nat → Nat) (n c : Nat) : Nat → Nat := if n ≤ 1 then nw B else stR B n c n
def spN (B : Nat → Nat) (n c : Nat) : Nat := lpM B (seN B n c) n
def okU (n c : Nat) : Bool := decide (usR n c n = 2 ^ n - 1)
def bsS (B : Nat → Nat) (n : Nat) : Nat → Option Nat
  | 0 => none
  | c + 1 => match bsS B n c with
    | none => if okU n c = true then some c else none
    | some d => if (okU n c && decide (spN B n d < spN B n c)) = true then some c else some d
def mssI (B : Nat → Nat) (n : Nat) : Option Nat → Int32
  | none => -1
  | some d => nI (spN B n d)
theorem sdg_lt {n c k : Nat} (h : 0 < n) : sdg n c k < n := by
  unfold sdg
  split
  · exact h
  · exact Nat.mod_lt _ h
theorem stR_ok {B : Nat → Nat} {n c : Nat} (hB : GK B) (h : 0 < n) (hn : n ≤ 6) : ∀ k, SOK (stR B n c k) ∧ Z6 (stR B n c k)
  | 0 => ⟨nw_ok hB, nw_Z B⟩
  | k + 1 => by
    obtain ⟨a, b⟩ := stR_ok hB h hn k
    have h1 := sdg_lt (c := c) (k := k) h
    have h2 := sdg_lt (c := c) (k := (k + 1) % n) h
    exact ⟨tlN_ok (by omega) (by omega) a, tlN_Z (by omega) (by omega) b⟩
theorem shl_lt {n x : Nat} (h : n < 10) (hx : x < 2 ^ n) : x < 1024 := Nat.lt_trans hx (p2_lt n h)
theorem usR_lt {n c : Nat} (hn : n ≤ 6) (h : 0 < n) : ∀ q, usR n c q < 64
  | 0 => by rw [usR]; omega
  | q + 1 => by
    rw [usR]
    have h1 := sdg_lt (c := c) (k := n - 1 - q) h
    have h2 : 2 ^ sdg n c (n - 1 - q) < 2 ^ 6 := Nat.pow_lt_pow_right (by omega) (by omega)
    exact Nat.or_lt_two_pow (n := 6) (usR_lt hn h q) h2
def sp_X10_seats : em_Sp := fun av hp Q => ∃ B im kp asd rf qt ab be tx ty at9 st9 tk vl wd it mn S sb my we be9 rw fr p, av = [.ref 0, .int p] ∧ hp = (wM (nB B) im kp asd rf qt ab be tx ty at9 st9 tk vl wd it mn (nB S) sb my we be9 rw fr) ∧ GK B ∧ Z6 S ∧ (¬ (-1) ≤ p → Q (some (.int (-10))) (wM (nB B) im kp asd (rfM qt rf 0) qt ab be tx ty at9 st9 tk vl wd it mn (nB S) sb my we be9 rw fr)) ∧ (∀ S' we' be', Z6 S' → (p = -1 → Q (some (.int (mssI B (B 0) (bsS B (B 0) (B 0 ^ (B 0 - 1)))))) (wM (nB B) im kp asd rf qt ab be tx ty at9 st9 tk vl wd it mn (nB S') sb my (we') (be') rw fr)) ∧ ((-1) ≤ p → ¬ p = -1 → nI (B 0) ≤ p → Q (some (.int (-5))) (wM (nB B) im kp asd rf qt ab be tx ty at9 st9 tk vl wd it mn (nB S') sb my (we') (be') rw fr)) ∧ (∀ j, p = nI j → j < B 0 → ∃ d, bsS B (B 0) (B 0 ^ (B 0 - 1)) = some d ∧ Q (some (.int (nI (sdg (B 0) d j)))) (wM (nB B) im kp asd rf qt ab be tx ty at9 st9 tk vl wd it mn (nB S') sb my (we') (be') rw fr)))
def T_X10_seats : List (Nat × em_Op) := [(0, o_iload 1 1), (1, o_iconst (-1) 2), (2, o_icmpge 13 5), (5, o_aload 0 6), (6, o_iconst 0 7), (7, o_iconst (-10) 9), (9, o_call 3 (some 5) (sp_X10_refuses) 12), (12, o_iret), (13, o_aload 0 14), (14, o_getf 5 0 17), (17, o_iconst 0 18), (18, o_aldI 0 19), (19, o_istore 2 20), (20, o_iconst (-1) 21), (21, o_istore 3 22), (22, o_iconst 1 23), (23, o_istore 4 25), (25, o_iconst 1 26), (26, o_istore 5 28), (28, o_iload 5 30), (30, o_iload 2 31), (31, o_icmpge 46 34), (34, o_iload 4 36), (36, o_iload 2 37), (37, o_imul 38), (38, o_istore 4 40), (40, o_iinc 5 1 43), (43, o_goto 28), (46, o_iconst 0 47), (47, o_istore 5 49), (49, o_iload 5 51), (51, o_iload 4 53), (53, o_icmpge 235 56), (56, o_iload 5 58), (58, o_istore 6 60), (60, o_iconst 0 61), (61, o_istore 7 63), (63, o_iload 2 64), (64, o_iconst 1 65), (65, o_isub 66), (66, o_istore 8 68), (68, o_iload 8 70), (70, o_iflt 129 73), (73, o_aload 0 74), (74, o_getf 5 20 77), (77, o_iload 8 79), (79, o_iload 8 81), (81, o_ifne 88 84), (84, o_iconst 0 85), (85, o_goto 92), (88, o_iload 6 90), (90, o_iload 2 91), (91, o_irem 92), (92, o_iast 93), (93, o_iload 8 95), (95, o_ifne 103 98), (98, o_iload 6 100), (100, o_goto 107), (103, o_iload 6 105), (105, o_iload 2 106), (106, o_idiv 107), (107, o_istore 6 109), (109, o_iload 7 111), (111, o_iconst 1 112), (112, o_aload 0 113), (113, o_getf 5 20 116), (116, o_iload 8 118), (118, o_aldI 0 119), (119, o_ishl 120), (120, o_ior 121), (121, o_istore 7 123), (123, o_iinc 8 (-1) 126), (126, o_goto 68), (129, o_iload 7 131), (131, o_iconst 1 132), (132, o_iload 2 133), (133, o_ishl 134), (134, o_iconst 1 135), (135, o_isub 136), (136, o_icmpne 229 139), (139, o_aload 0 140), (140, o_call 1 (some 5) (sp_X10_asNow) 143), (143, o_iconst 0 144), (144, o_istore 8 146), (146, o_iload 8 148), (148, o_iload 2 149), (149, o_icmpge 185 152), (152, o_iload 2 153), (153, o_iconst 1 154), (154, o_icmple 185 157), (157, o_aload 0 158), (158, o_aload 0 159), (159, o_getf 5 20 162), (162, o_iload 8 164), (164, o_aldI 0 165), (165, o_aload 0 166), (166, o_getf 5 20 169), (169, o_iload 8 171), (171, o_iconst 1 172), (172, o_iadd 173), (173, o_iload 2 174), (174, o_irem 175), (175, o_aldI 0 176), (176, o_call 3 (some 5) (sp_X10_talks) 179), (179, o_iinc 8 1 182), (182, o_goto 146), (185, o_aload 0 186), (186, o_call 1 (some 5) (sp_X10_lawfulPairs) 189), (189, o_istore 8 191), (191, o_iload 8 193), (193, o_iload 3 194), (194, o_icmple 229 197), (197, o_iload 8 199), (199, o_istore 3 200), (200, o_iconst 0 201), (201, o_istore 9 203), (203, o_iload 9 205), (205, o_iload 2 206), (206, o_icmpge 229 209), (209, o_aload 0 210), (210, o_getf 5 21 213), (213, o_iload 9 215), (215, o_aload 0 216), (216, o_getf 5 20 219), (219, o_iload 9 221), (221, o_aldI 0 222), (222, o_iast 223), (223, o_iinc 9 1 226), (226, o_goto 203), (229, o_iinc 5 1 232), (232, o_goto 49), (235, o_iload 1 236), (236, o_iconst (-1) 237), (237, o_icmpne 244 240), (240, o_iload 3 241), (241, o_goto 260), (244, o_iload 1 245), (245, o_iload 2 246), (246, o_icmpge 258 249), (249, o_aload 0 250), (250, o_getf 5 21 253), (253, o_iload 1 254), (254, o_aldI 0 255), (255, o_goto 260), (258, o_iconst (-5) 260), (260, o_iret)]
theorem me_X10_seats : em_Me T_X10_seats 10 sp_X10_seats := by
  intro Q K hK hle av hp hs
  obtain ⟨B, im, kp, asd, rf, qt, ab, be, tx, ty, at9, st9, tk, vl, wd, it, mn, S, sb, my, we, be9, rw, fr, p, rfl, rfl, hB, hz, hbad, hq⟩ := hs
  have h0 := hB.1
  obtain ⟨n, hn⟩ : ∃ n, n = B 0 := ⟨_, rfl⟩
  have hn6 : n ≤ 6 := by omega
  rw [← hn] at hq
  obtain ⟨W, hW⟩ : ∃ W, W = n ^ (n - 1) := ⟨_, rfl⟩
  rw [← hW] at hq
  have hpw : ∀ i, i ≤ 5 → n ^ i ≤ 7776 := fun i hi => Nat.le_trans (Nat.pow_le_pow_left (show n ≤ 6 by omega) i) (Nat.le_trans (Nat.pow_le_pow_right (n := 6) (by omega) (show i ≤ 5 by omega)) (by decide))
  have hW9 : W ≤ 7776 := by rw [hW]; exact hpw (n - 1) (by omega)
  have good : (-1) ≤ p → K 13 [some (.ref 0), some (.int p), none, none, none, none, none, none, none, none] [] (wM (nB B) im kp asd rf qt ab be tx ty at9 st9 tk vl wd it mn (nB S) sb my we be9 rw fr) := by
    intro hp1
    have loop : ∀ (r c : Nat) (S2 : Nat → Nat) (we' be' : Nat → Int32), c + r = W → Z6 S2 → (∀ d, bsS B n c = some d → ∀ q, q < n → be' q = nI (sdg n d q)) → K 49 [some (.ref 0), some (.int p), some (.int (nI n)), some (.int (mssI B n (bsS B n c))), some (.int (nI W)), some (.int (nI c)), none, none, none, none] [] (wM (nB B) im kp asd rf qt ab be tx ty at9 st9 tk vl wd it mn (nB S2) sb my (we') (be') rw fr) := by
      intro r
      induction r with
      | zero =>
        intro c S2 we' be' hc hS2 hbe
        have hc : c = W := by omega
        subst hc
        have hq := hq S2 we' be' hS2
        refine hK 30 9999 49 _ _ _ ?_
        refine ⟨fun _ => ⟨fun z => ⟨fun y => ?_, fun y => ?_⟩, fun z => ?_⟩, fun z => absurd (nI_le (Nat.le_refl c) (by omega)) z⟩
        · exact hq.2.1 hp1 z y
        · obtain ⟨j, hj, e⟩ := le_m1 hp1 z
          have hjn : j < n := by
            rcases Nat.lt_or_ge j n with q | q
            · exact q
            · exact absurd (by rw [e]; exact nI_le q hj) y
          obtain ⟨d, hd, hq⟩ := hq.2.2 j e hjn
          rw [← hbe d hd j hjn] at hq
          exact ⟨j, e, by omega, hq⟩
        · exact hq.1 z
      | succ r ih =>
        intro c S2 we' be' hc hS2 hbe
        have hc9 : c < W := by omega
        have nxt : ∀ (S3 : Nat → Nat) (we2 be2 : Nat → Int32) (x6 x7 x8 x9 : Option Value), Z6 S3 → (∀ d, bsS B n (c + 1) = some d → ∀ q, q < n → be2 q = nI (sdg n d q)) → K 229 [some (.ref 0), some (.int p), some (.int (nI n)), some (.int (mssI B n (bsS B n (c + 1)))), some (.int (nI W)), some (.int (nI c)), x6, x7, x8, x9] [] (wM (nB B) im kp asd rf qt ab be tx ty at9 st9 tk vl wd it mn (nB S3) sb my (we2) (be2) rw fr) := by
          intro S3 we2 be2 x6 x7 x8 x9 h3 hb
          have := ih (c + 1) S3 we2 be2 (by omega) h3 hb
          rw [← nI_1 c] at this
          exact hK 129 2 229 _ _ _ (hle _ _ _ _ _ (by repeat (first | exact trivial | refine ⟨rfl, ?_⟩)) this)
        have keep : ∀ (S3 : Nat → Nat) (we2 : Nat → Int32) (x6 x7 x8 x9 : Option Value), Z6 S3 → bsS B n (c + 1) = bsS B n c → K 229 [some (.ref 0), some (.int p), some (.int (nI n)), some (.int (mssI B n (bsS B n c))), some (.int (nI W)), some (.int (nI c)), x6, x7, x8, x9] [] (wM (nB B) im kp asd rf qt ab be tx ty at9 st9 tk vl wd it mn (nB S3) sb my (we2) (be') rw fr) := by
          intro S3 we2 x6 x7 x8 x9 h3 e
          have := nxt S3 we2 be' x6 x7 x8 x9 h3 (by rw [e]; exact hbe)
          rw [e] at this
          exact this
        have cmp : okU n c = true → ∀ (S3 : Nat → Nat) (we2 : Nat → Int32) (x6 x9 : Option Value) (y7 : Int32), Z6 S3 → (∀ q, q < n → we2 q = nI (sdg n c q)) → K 191 [some (.ref 0), some (.int p), some (.int (nI n)), some (.int (mssI B n (bsS B n c))), some (.int (nI W)), some (.int (nI c)), x6, some (.int y7), some (.int (nI (spN B n c))), x9] [] (wM (nB B) im kp asd rf qt ab be tx ty at9 st9 tk vl wd it mn (nB S3) sb my (we2) (be') rw fr) := by
          intro hok S3 we2 x6 x9 y7 h3 hwe
          have hsp : spN B n c ≤ 36 := by
            have := lpM_le (B := B) (S := seN B n c) n hn6
            unfold spN; omega
          have take : bsS B n (c + 1) = some c → K 197 [some (.ref 0), some (.int p), some (.int (nI n)), some (.int (mssI B n (bsS B n c))), some (.int (nI W)), some (.int (nI c)), x6, some (.int y7), some (.int (nI (spN B n c))), x9] [] (wM (nB B) im kp asd rf qt ab be tx ty at9 st9 tk vl wd it mn (nB S3) sb my (we2) (be') rw fr) := by
            intro e2
            have copy : ∀ (r q : Nat) (be2 : Nat → Int32), q + r = n → (∀ j, j < q → be2 j = nI (sdg n c j)) → K 203 [some (.ref 0), some (.int p), some (.int (nI n)), some (.int (nI (spN B n c))), some (.int (nI W)), some (.int (nI c)), x6, some (.int y7), some (.int (nI (spN B n c))), some (.int (nI q))] [] (wM (nB B) im kp asd rf qt ab be tx ty at9 st9 tk vl wd it mn (nB S3) sb my (we2) (be2) rw fr) := by
              intro r
              induction r with
              | zero =>
                intro q be2 hq hb
                have hq : q = n := by omega
                subst hq
                have := nxt S3 we2 be2 x6 (some (.int y7)) (some (.int (nI (spN B q c)))) (some (.int (nI q))) h3 (fun d' hd' j hj => by
                  rw [e2] at hd'
                  rw [← Option.some.inj hd']
                  exact hb j hj)
                rw [e2, mssI] at this
                refine hK 116 13 203 _ _ _ ?_
                exact ⟨fun _ => this, fun z => absurd (nI_le (Nat.le_refl q) (by omega)) z⟩
              | succ r ihr =>
                intro q be2 hq hb
                have := ihr (q + 1) (upd be2 q (we2 q)) (by omega) (fun j hj => by
                  by_cases h : j = q
                  · subst h; rw [pk_us]; exact hwe j (by omega)
                  · rw [pk_un h]; exact hb j (by omega))
                rw [← nI_1 q] at this
                refine hK 116 13 203 _ _ _ ?_
                refine ⟨fun z => absurd z (nI_ge (by omega) (by omega)), fun _ => ?_⟩
                exact ⟨q, rfl, by omega, q, rfl, by omega, this⟩
            exact hK 112 4 197 _ _ _ (copy n 0 be' (by omega) (fun j h => by omega))
          refine hK 109 3 191 _ _ _ ?_
          cases e : bsS B n c with
          | none =>
            rw [e] at take
            refine ⟨fun y => ?_, fun _ => take (by rw [bsS, e]; exact if_pos hok)⟩
            exfalso
            have y : nI (spN B n c) ≤ -1 := y
            have := Int32.le_iff_toInt_le.mp y
            rw [nI_toInt (by omega)] at this
            have h2 : ((-1 : Int32)).toInt = -1 := by decide
            omega
          | some d =>
            have hsd : spN B n d ≤ 36 := by
              have := lpM_le (B := B) (S := seN B n d) n hn6
              unfold spN; omega
            rw [e] at take keep
            refine ⟨fun y => ?_, fun y => ?_⟩
            · have y := (nI_leI (a := spN B n c) (b := spN B n d) (by omega) (by omega)).mp y
              exact keep S3 we2 x6 (some (.int y7)) (some (.int (nI (spN B n c)))) x9 h3 (by rw [bsS, e, hok]; exact if_neg (by rw [Bool.true_and, decide_eq_true_eq]; omega))
            · have y : spN B n d < spN B n c := by
                rcases Nat.lt_or_ge (spN B n d) (spN B n c) with q | q
                · exact q
                · exact absurd (nI_le q (by omega)) y
              exact take (by rw [bsS, e, hok]; exact if_pos (by rw [Bool.true_and, decide_eq_true_eq]; omega))
        have trial : ∀ (we2 : Nat → Int32) (y6 : Int32) (x8 : Option Value), (∀ q, q < n → we2 q = nI (sdg n c q)) → K 129 [some (.ref 0), some (.int p), some (.int (nI n)), some (.int (mssI B n (bsS B n c))), some (.int (nI W)), some (.int (nI c)), some (.int y6), some (.int (nI (usR n c n))), x8, none] [] (wM (nB B) im kp asd rf qt ab be tx ty at9 st9 tk vl wd it mn (nB S2) sb my (we2) (be') rw fr) := by
          intro we2 y6 x8 hwe
          have h2n : (1 : Int32) <<< (nI n &&& 31) - 1 = nI (2 ^ n - 1) := by
            rw [shln n (by omega), show 2 ^ n = (2 ^ n - 1) + 1 by have := Nat.one_le_two_pow (n := n); omega]
            exact nI_pred _
          have h64 : 2 ^ n ≤ 64 := Nat.pow_le_pow_right (n := 2) (by omega) hn6
          have hus : usR n c n < 64 := by
            rcases Nat.eq_zero_or_pos n with q | q
            · rw [q, usR]; omega
            · exact usR_lt hn6 q n
          refine hK 73 11 129 _ _ _ ?_
          refine ⟨fun z => ?_, fun z => ?_⟩
          · rw [h2n] at z
            have hno : okU n c = false := decide_eq_false (fun q => z (by rw [q]))
            refine keep S2 we2 (some (.int y6)) (some (.int (nI (usR n c n)))) x8 none hS2 ?_
            rw [bsS, hno]
            cases bsS B n c <;> rfl
          · rw [h2n] at z
            have hok : okU n c = true := decide_eq_true ((nI_eq (by omega) (by omega)).mp z)
            refine ⟨_, _, _, _, _, _, _, _, _, _, _, _, _, _, _, _, _, _, _, _, _, _, _, _, rfl, rfl, fun so' h1 h2 => ?_⟩
            have e := nw_eq hS2 h1 h2
            subst e
            have fin : ∀ (x8 : Option Value), SOK (seN B n c) → Z6 (seN B n c) → K 185 [some (.ref 0), some (.int p), some (.int (nI n)), some (.int (mssI B n (bsS B n c))), some (.int (nI W)), some (.int (nI c)), some (.int y6), some (.int (nI (usR n c n))), x8, none] [] (wM (nB B) im kp asd rf qt ab be tx ty at9 st9 tk vl wd it mn (nB (seN B n c)) sb my (we2) (be') rw fr) := by
              intro x8 g1 g2
              have := cmp hok (seN B n c) we2 (some (.int y6)) none (nI (usR n c n)) g2 hwe
              have e9 : spN B n c = lpM B (seN B n c) (B 0) := by rw [spN, hn]
              rw [e9] at this
              refine hK 106 3 185 _ _ _ ?_
              exact ⟨_, _, _, _, _, _, _, _, _, _, _, _, _, _, _, _, _, _, _, _, _, _, _, _, rfl, rfl, hB, g1, this⟩
            by_cases h1n : n ≤ 1
            · have es : seN B n c = nw B := if_pos h1n
              rw [es] at fin
              have f0 := fin (some (.int (nI 0))) (nw_ok hB) (nw_Z B)
              have sk : K 146 [some (.ref 0), some (.int p), some (.int (nI n)), some (.int (mssI B n (bsS B n c))), some (.int (nI W)), some (.int (nI c)), some (.int y6), some (.int (nI (usR n c n))), some (.int (nI 0)), none] [] (wM (nB B) im kp asd rf qt ab be tx ty at9 st9 tk vl wd it mn (nB (nw B)) sb my (we2) (be') rw fr) := by
                refine hK 84 22 146 _ _ _ ?_
                exact ⟨fun _ => f0, fun _ => ⟨fun _ => f0, fun y => absurd (nI_le (b := 1) h1n (by omega)) y⟩⟩
              exact sk
            · have es : seN B n c = stR B n c n := if_neg h1n
              rw [es] at fin
              have talk : ∀ (r k : Nat), k + r = n → K 146 [some (.ref 0), some (.int p), some (.int (nI n)), some (.int (mssI B n (bsS B n c))), some (.int (nI W)), some (.int (nI c)), some (.int y6), some (.int (nI (usR n c n))), some (.int (nI k)), none] [] (wM (nB B) im kp asd rf qt ab be tx ty at9 st9 tk vl wd it mn (nB (stR B n c k)) sb my (we2) (be') rw fr) := by
                intro r
                induction r with
                | zero =>
                  intro k hk
                  have hk : k = n := by omega
                  subst hk
                  obtain ⟨g1, g2⟩ := stR_ok (c := c) hB (show 0 < k by omega) hn6 k
                  refine hK 84 22 146 _ _ _ ?_
                  exact ⟨fun _ => fin _ g1 g2, fun y => absurd (nI_le (Nat.le_refl k) (by omega)) y⟩
                | succ r ihr =>
                  intro k hk
                  have := ihr (k + 1) (by omega)
                  obtain ⟨g1, g2⟩ := stR_ok (c := c) hB (show 0 < n by omega) hn6 k
                  have hml := Nat.mod_lt (k + 1) (show n > 0 by omega)
                  have s1 := sdg_lt (c := c) (k := k) (show 0 < n by omega)
                  have s2 := sdg_lt (c := c) (k := (k + 1) % n) (show 0 < n by omega)
                  have et := tlk_nB (B := B) (S := stR B n c k) (i := sdg n c k) (j := sdg n c ((k + 1) % n)) (by omega) (by omega) g1 hB.2.2.2.2.2.1
                  rw [stR, ← et, ← nI_1 k] at this
                  have em : nI k + 1 - (nI k + 1) / nI n * nI n = nI ((k + 1) % n) := by
                    rw [nI_1]; exact pk_rem (by omega) (by omega) (by omega)
                  refine hK 84 22 146 _ _ _ ?_
                  refine ⟨fun y => absurd y (nI_ge (by omega) (by omega)), fun _ => ⟨fun y => absurd ((nI_leI (a := n) (b := 1) (by omega) (by omega)).mp y) h1n, fun _ => ?_⟩⟩
                  refine ⟨k, rfl, by omega, nI_ne0 (by omega) (by omega), (k + 1) % n, em, by omega, ?_⟩
                  rw [hwe k (by omega), hwe _ hml]
                  exact ⟨_, _, _, _, _, _, _, _, _, _, _, _, _, _, _, _, _, _, _, _, _, _, _, _, sdg n c k, sdg n c ((k + 1) % n), _, _, _, rfl, rfl, by omega, by omega, rfl, rfl, rfl, g1 _ (by omega), g1 _ (by omega), this⟩
              have t0 := talk n 0 (by omega)
              exact t0
        have dig : ∀ (j q : Nat) (we2 : Nat → Int32) (L : Int32), j + q = n → (1 ≤ j → L = nI (c / n ^ q)) → (∀ t, j ≤ t → t < n → we2 t = nI (sdg n c t)) → K 68 [some (.ref 0), some (.int p), some (.int (nI n)), some (.int (mssI B n (bsS B n c))), some (.int (nI W)), some (.int (nI c)), some (.int L), some (.int (nI (usR n c q))), some (.int (nI j - 1)), none] [] (wM (nB B) im kp asd rf qt ab be tx ty at9 st9 tk vl wd it mn (nB S2) sb my (we2) (be') rw fr) := by
          intro j
          induction j with
          | zero =>
            intro q we2 L hjq hL hwe
            have hq : q = n := by omega
            subst hq
            refine hK 41 32 68 _ _ _ ?_
            exact ⟨fun _ => trial we2 _ _ (fun t ht => hwe t (by omega) ht), fun z => absurd (by show nI 0 - 1 < 0; decide) z⟩
          | succ i ihj =>
            intro q we2 L hjq hL hwe
            have hL := hL (by omega)
            subst hL
            have hn0 : 0 < n := by omega
            have hl : c / n ^ q ≤ c := Nat.div_le_self _ _
            have hne : ¬ nI n = 0 := nI_ne0 (by omega) (by omega)
            have hsl := sdg_lt (c := c) (k := i) hn0
            have hus := usR_lt (c := c) hn6 hn0 q
            have eq1 : n - 1 - q = i := by omega
            have last : ∀ L', (1 ≤ i → L' = nI (c / n ^ (q + 1))) → K 107 [some (.ref 0), some (.int p), some (.int (nI n)), some (.int (mssI B n (bsS B n c))), some (.int (nI W)), some (.int (nI c)), some (.int (nI (c / n ^ q))), some (.int (nI (usR n c q))), some (.int (nI i)), none] [.int L'] (wM (nB B) im kp asd rf qt ab be tx ty at9 st9 tk vl wd it mn (nB S2) sb my (upd we2 i (nI (sdg n c i))) (be') rw fr) := by
              intro L' hL'
              have := ihj (q + 1) (upd we2 i (nI (sdg n c i))) L' (by omega) hL' (fun t h1 h2 => by
                by_cases h : t = i
                · subst h; rw [pk_us]
                · rw [pk_un h]; exact hwe t (by omega) h2)
              have eU : nI (usR n c q) ||| ((1 : Int32) <<< (upd we2 i (nI (sdg n c i)) i &&& 31)) = nI (usR n c (q + 1)) := by
                rw [pk_us, shl_nI _ (by omega), nI_or, usR, eq1]
              rw [← eU, ← m1s (nI i)] at this
              refine hK 61 12 107 _ _ _ ?_
              exact ⟨i, rfl, by omega, this⟩
            have mid : ∀ v, v = nI (sdg n c i) → K 92 [some (.ref 0), some (.int p), some (.int (nI n)), some (.int (mssI B n (bsS B n c))), some (.int (nI W)), some (.int (nI c)), some (.int (nI (c / n ^ q))), some (.int (nI (usR n c q))), some (.int (nI i)), none] [.int v, .int (nI i), .ref 11] (wM (nB B) im kp asd rf qt ab be tx ty at9 st9 tk vl wd it mn (nB S2) sb my (we2) (be') rw fr) := by
              intro v hv
              subst hv
              refine hK 53 8 92 _ _ _ ?_
              refine ⟨i, rfl, by omega, fun z => ⟨hne, last _ (fun _ => ?_)⟩, fun z => ?_⟩
              · rw [pk_div (by omega) (by omega) (by omega), Nat.div_div_eq_div_mul, Nat.pow_succ]
              · have z : i = 0 := (nI_eq (b := 0) (by omega) (by omega)).mp z
                exact last _ (fun h => by omega)
            rw [nI_pred i]
            refine hK 41 12 68 _ _ _ ?_
            refine ⟨fun z => absurd z (nI_pos (by omega)), fun _ => ⟨fun z => ⟨hne, mid _ ?_⟩, fun z => mid _ ?_⟩⟩
            · have z : ¬ i = 0 := fun y => z (by rw [y]; rfl)
              rw [pk_rem (by omega) (by omega) (by omega), sdg, if_neg z, show n - 1 - i = q by omega]
            · have z : i = 0 := (nI_eq (b := 0) (by omega) (by omega)).mp z
              rw [sdg, if_pos z]; rfl
        have d0 := dig n 0 we' (nI c) (by omega) (fun _ => by rw [Nat.pow_zero, Nat.div_one]) (fun t h1 h2 => by omega)
        rw [usR] at d0
        refine hK 30 11 49 _ _ _ ?_
        exact ⟨fun z => absurd z (nI_ge (by omega) (by omega)), fun _ => d0⟩
    have ways : ∀ (r i : Nat), i + r = n - 1 → K 28 [some (.ref 0), some (.int p), some (.int (nI n)), some (.int (-1)), some (.int (nI (n ^ i))), some (.int (nI (i + 1))), none, none, none, none] [] (wM (nB B) im kp asd rf qt ab be tx ty at9 st9 tk vl wd it mn (nB S) sb my we be9 rw fr) := by
      intro r
      induction r with
      | zero =>
        intro i hi
        have hi : i = n - 1 := by omega
        subst hi
        refine hK 19 11 28 _ _ _ ?_
        have := loop W 0 S we be9 (by omega) hz (fun d h => by rw [bsS] at h; cases h)
        rw [hW] at this
        exact ⟨fun _ => hle _ _ _ _ _ (by repeat (first | exact trivial | refine ⟨rfl, ?_⟩)) this, fun z => absurd (nI_le (a := n) (b := n - 1 + 1) (by omega) (by omega)) z⟩
      | succ r ih =>
        intro i hi
        have := ih (i + 1) (by omega)
        have hpi := hpw i (by omega)
        rw [Nat.pow_succ, ← pk_mul, ← nI_1 (i + 1)] at this
        refine hK 19 11 28 _ _ _ ?_
        refine ⟨fun z => absurd z (nI_ge (a := i + 1) (b := n) (by omega) (by omega)), fun _ => ?_⟩
        exact this
    have w0 := ways (n - 1) 0 (by omega)
    rw [hn] at w0
    refine hK 8 11 13 _ _ _ ?_
    exact ⟨0, rfl, by decide, w0⟩
  refine ⟨Nat.le_of_ble_eq_true rfl, hK 0 8 0 _ _ _ ?_⟩
  exact ⟨fun z => good z, fun z => ⟨_, _, _, _, _, _, _, _, _, _, _, _, _, _, _, _, _, _, _, _, _, _, _, _, 0, _, rfl, rfl, by decide, hbad z⟩⟩
abbrev rm_X10_seats : Room := { frames := 4, cells := 0, slots := 0, locals := 88 }
set_option maxRecDepth 100000 in
set_option maxHeartbeats 4000000 in
theorem ct_X10_seats (l : Launch) (D : va_G) (dA : Nat → ClassId) (σ : Nat → Nat) : em_CT l D em_cl dA σ (em_F σ) y_X10_seats c_X10_seats 10 (Option.some ClassFile.FieldType.int) rm_X10_seats (sp_X10_seats ) := by
  refine em_CT_of (T := T_X10_seats ) (em_F_ok σ) (by decide) (fun p e s m args below meth c A ρ Q C hFok hF hret hlk hin => ?_) (me_X10_seats )
  unfold T_X10_seats
  refine List.forall_mem_cons.mpr ⟨s_iload_n C (by decide +kernel : decode c_X10_seats 0 = .ok (.iload_n 1, 1)) rfl rfl rfl, ?_⟩
  refine List.forall_mem_cons.mpr ⟨s_iconst C (by decide +kernel : decode c_X10_seats 1 = .ok (.iconst (-1), 1)) rfl rfl (by decide), ?_⟩
  refine List.forall_mem_cons.mpr ⟨s_icmpge C (by decide +kernel : decode c_X10_seats 2 = .ok (.if_icmp .ge 11, 3)) (by decide) rfl rfl rfl, ?_⟩
  refine List.forall_mem_cons.mpr ⟨s_aload_n C (by decide +kernel : decode c_X10_seats 5 = .ok (.aload_n 0, 1)) rfl rfl rfl, ?_⟩
  refine List.forall_mem_cons.mpr ⟨s_iconst C (by decide +kernel : decode c_X10_seats 6 = .ok (.iconst 0, 1)) rfl rfl (by decide), ?_⟩
  refine List.forall_mem_cons.mpr ⟨s_bipush C (by decide +kernel : decode c_X10_seats 7 = .ok (.bipush (-10), 2)) rfl rfl (by decide), ?_⟩
  refine List.forall_mem_cons.mpr ⟨s_callV C hFok hF (ct_X10_refuses l D dA σ) ⟨rfl, rfl⟩ ew783 em_cl_X10 ew780 ew782 ewp14 ew6 ⟨by decide, by decide, by decide +kernel⟩ ⟨by decide, by decide⟩ (by decide +kernel : decode c_X10_seats 9 = .ok (.invokevirtual 65, 3)) rfl rfl ⟨Nat.zero_le _, Nat.zero_le _⟩, ?_⟩
  refine List.forall_mem_cons.mpr ⟨s_iret C (by decide +kernel : decode c_X10_seats 12 = .ok (.ireturn, 1)) hret hlk ⟨Nat.le_refl 0, Nat.le_refl 0⟩, ?_⟩
  refine List.forall_mem_cons.mpr ⟨s_aload_n C (by decide +kernel : decode c_X10_seats 13 = .ok (.aload_n 0, 1)) rfl rfl rfl, ?_⟩
  refine List.forall_mem_cons.mpr ⟨s_getf C (by decide +kernel : decode c_X10_seats 14 = .ok (.getfield 7, 3)) rfl rfl em_cl_X10 (by decide) ew691 rfl, ?_⟩
  refine List.forall_mem_cons.mpr ⟨s_iconst C (by decide +kernel : decode c_X10_seats 17 = .ok (.iconst 0, 1)) rfl rfl (by decide), ?_⟩
  refine List.forall_mem_cons.mpr ⟨s_iald C (by decide +kernel : decode c_X10_seats 18 = .ok (.iaload, 1)) rfl rfl, ?_⟩
  refine List.forall_mem_cons.mpr ⟨s_istore_n C (by decide +kernel : decode c_X10_seats 19 = .ok (.istore_n 2, 1)) rfl rfl rfl (by decide), ?_⟩
  refine List.forall_mem_cons.mpr ⟨s_iconst C (by decide +kernel : decode c_X10_seats 20 = .ok (.iconst (-1), 1)) rfl rfl (by decide), ?_⟩
  refine List.forall_mem_cons.mpr ⟨s_istore_n C (by decide +kernel : decode c_X10_seats 21 = .ok (.istore_n 3, 1)) rfl rfl rfl (by decide), ?_⟩
  refine List.forall_mem_cons.mpr ⟨s_iconst C (by decide +kernel : decode c_X10_seats 22 = .ok (.iconst 1, 1)) rfl rfl (by decide), ?_⟩
  refine List.forall_mem_cons.mpr ⟨s_istore C (by decide +kernel : decode c_X10_seats 23 = .ok (.istore 4, 2)) rfl rfl (by decide), ?_⟩
  refine List.forall_mem_cons.mpr ⟨s_iconst C (by decide +kernel : decode c_X10_seats 25 = .ok (.iconst 1, 1)) rfl rfl (by decide), ?_⟩
  refine List.forall_mem_cons.mpr ⟨s_istore C (by decide +kernel : decode c_X10_seats 26 = .ok (.istore 5, 2)) rfl rfl (by decide), ?_⟩
  refine List.forall_mem_cons.mpr ⟨s_iload C (by decide +kernel : decode c_X10_seats 28 = .ok (.iload 5, 2)) rfl rfl, ?_⟩
  refine List.forall_mem_cons.mpr ⟨s_iload_n C (by decide +kernel : decode c_X10_seats 30 = .ok (.iload_n 2, 1)) rfl rfl rfl, ?_⟩
  refine List.forall_mem_cons.mpr ⟨s_icmpge C (by decide +kernel : decode c_X10_seats 31 = .ok (.if_icmp .ge 15, 3)) (by decide) rfl rfl rfl, ?_⟩
  refine List.forall_mem_cons.mpr ⟨s_iload C (by decide +kernel : decode c_X10_seats 34 = .ok (.iload 4, 2)) rfl rfl, ?_⟩
  refine List.forall_mem_cons.mpr ⟨s_iload_n C (by decide +kernel : decode c_X10_seats 36 = .ok (.iload_n 2, 1)) rfl rfl rfl, ?_⟩
  refine List.forall_mem_cons.mpr ⟨s_imul C (by decide +kernel : decode c_X10_seats 37 = .ok (.imul, 1)) rfl rfl, ?_⟩
  refine List.forall_mem_cons.mpr ⟨s_istore C (by decide +kernel : decode c_X10_seats 38 = .ok (.istore 4, 2)) rfl rfl (by decide), ?_⟩
  refine List.forall_mem_cons.mpr ⟨s_iinc C (by decide +kernel : decode c_X10_seats 40 = .ok (.iinc 5 1, 3)) rfl rfl (by decide) (by decide), ?_⟩
  refine List.forall_mem_cons.mpr ⟨s_goto C (by decide +kernel : decode c_X10_seats 43 = .ok (.goto (-15), 3)) (by decide) rfl, ?_⟩
  refine List.forall_mem_cons.mpr ⟨s_iconst C (by decide +kernel : decode c_X10_seats 46 = .ok (.iconst 0, 1)) rfl rfl (by decide), ?_⟩
  refine List.forall_mem_cons.mpr ⟨s_istore C (by decide +kernel : decode c_X10_seats 47 = .ok (.istore 5, 2)) rfl rfl (by decide), ?_⟩
  refine List.forall_mem_cons.mpr ⟨s_iload C (by decide +kernel : decode c_X10_seats 49 = .ok (.iload 5, 2)) rfl rfl, ?_⟩
  refine List.forall_mem_cons.mpr ⟨s_iload C (by decide +kernel : decode c_X10_seats 51 = .ok (.iload 4, 2)) rfl rfl, ?_⟩
  refine List.forall_mem_cons.mpr ⟨s_icmpge C (by decide +kernel : decode c_X10_seats 53 = .ok (.if_icmp .ge 182, 3)) (by decide) rfl rfl rfl, ?_⟩
  refine List.forall_mem_cons.mpr ⟨s_iload C (by decide +kernel : decode c_X10_seats 56 = .ok (.iload 5, 2)) rfl rfl, ?_⟩
  refine List.forall_mem_cons.mpr ⟨s_istore C (by decide +kernel : decode c_X10_seats 58 = .ok (.istore 6, 2)) rfl rfl (by decide), ?_⟩
  refine List.forall_mem_cons.mpr ⟨s_iconst C (by decide +kernel : decode c_X10_seats 60 = .ok (.iconst 0, 1)) rfl rfl (by decide), ?_⟩
  refine List.forall_mem_cons.mpr ⟨s_istore C (by decide +kernel : decode c_X10_seats 61 = .ok (.istore 7, 2)) rfl rfl (by decide), ?_⟩
  refine List.forall_mem_cons.mpr ⟨s_iload_n C (by decide +kernel : decode c_X10_seats 63 = .ok (.iload_n 2, 1)) rfl rfl rfl, ?_⟩
  refine List.forall_mem_cons.mpr ⟨s_iconst C (by decide +kernel : decode c_X10_seats 64 = .ok (.iconst 1, 1)) rfl rfl (by decide), ?_⟩
  refine List.forall_mem_cons.mpr ⟨s_isub C (by decide +kernel : decode c_X10_seats 65 = .ok (.isub, 1)) rfl rfl, ?_⟩
  refine List.forall_mem_cons.mpr ⟨s_istore C (by decide +kernel : decode c_X10_seats 66 = .ok (.istore 8, 2)) rfl rfl (by decide), ?_⟩
  refine List.forall_mem_cons.mpr ⟨s_iload C (by decide +kernel : decode c_X10_seats 68 = .ok (.iload 8, 2)) rfl rfl, ?_⟩
  refine List.forall_mem_cons.mpr ⟨s_iflt C (by decide +kernel : decode c_X10_seats 70 = .ok (.ifCond .lt 59, 3)) (by decide) rfl rfl rfl, ?_⟩
  refine List.forall_mem_cons.mpr ⟨s_aload_n C (by decide +kernel : decode c_X10_seats 73 = .ok (.aload_n 0, 1)) rfl rfl rfl, ?_⟩
  refine List.forall_mem_cons.mpr ⟨s_getf C (by decide +kernel : decode c_X10_seats 74 = .ok (.getfield 42, 3)) rfl rfl em_cl_X10 (by decide) ew711 rfl, ?_⟩
  refine List.forall_mem_cons.mpr ⟨s_iload C (by decide +kernel : decode c_X10_seats 77 = .ok (.iload 8, 2)) rfl rfl, ?_⟩
  refine List.forall_mem_cons.mpr ⟨s_iload C (by decide +kernel : decode c_X10_seats 79 = .ok (.iload 8, 2)) rfl rfl, ?_⟩
  refine List.forall_mem_cons.mpr ⟨s_ifne C (by decide +kernel : decode c_X10_seats 81 = .ok (.ifCond .ne 7, 3)) (by decide) rfl rfl rfl, ?_⟩
  refine List.forall_mem_cons.mpr ⟨s_iconst C (by decide +kernel : decode c_X10_seats 84 = .ok (.iconst 0, 1)) rfl rfl (by decide), ?_⟩
  refine List.forall_mem_cons.mpr ⟨s_goto C (by decide +kernel : decode c_X10_seats 85 = .ok (.goto 7, 3)) (by decide) rfl, ?_⟩
  refine List.forall_mem_cons.mpr ⟨s_iload C (by decide +kernel : decode c_X10_seats 88 = .ok (.iload 6, 2)) rfl rfl, ?_⟩
  refine List.forall_mem_cons.mpr ⟨s_iload_n C (by decide +kernel : decode c_X10_seats 90 = .ok (.iload_n 2, 1)) rfl rfl rfl, ?_⟩
  refine List.forall_mem_cons.mpr ⟨s_irem C (by decide +kernel : decode c_X10_seats 91 = .ok (.irem, 1)) rfl rfl, ?_⟩
  refine List.forall_mem_cons.mpr ⟨s_iast C (by decide +kernel : decode c_X10_seats 92 = .ok (.iastore, 1)) rfl rfl, ?_⟩
  refine List.forall_mem_cons.mpr ⟨s_iload C (by decide +kernel : decode c_X10_seats 93 = .ok (.iload 8, 2)) rfl rfl, ?_⟩
  refine List.forall_mem_cons.mpr ⟨s_ifne C (by decide +kernel : decode c_X10_seats 95 = .ok (.ifCond .ne 8, 3)) (by decide) rfl rfl rfl, ?_⟩
  refine List.forall_mem_cons.mpr ⟨s_iload C (by decide +kernel : decode c_X10_seats 98 = .ok (.iload 6, 2)) rfl rfl, ?_⟩
  refine List.forall_mem_cons.mpr ⟨s_goto C (by decide +kernel : decode c_X10_seats 100 = .ok (.goto 7, 3)) (by decide) rfl, ?_⟩
  refine List.forall_mem_cons.mpr ⟨s_iload C (by decide +kernel : decode c_X10_seats 103 = .ok (.iload 6, 2)) rfl rfl, ?_⟩
  refine List.forall_mem_cons.mpr ⟨s_iload_n C (by decide +kernel : decode c_X10_seats 105 = .ok (.iload_n 2, 1)) rfl rfl rfl, ?_⟩
  refine List.forall_mem_cons.mpr ⟨s_idiv C (by decide +kernel : decode c_X10_seats 106 = .ok (.idiv, 1)) rfl rfl, ?_⟩
  refine List.forall_mem_cons.mpr ⟨s_istore C (by decide +kernel : decode c_X10_seats 107 = .ok (.istore 6, 2)) rfl rfl (by decide), ?_⟩
  refine List.forall_mem_cons.mpr ⟨s_iload C (by decide +kernel : decode c_X10_seats 109 = .ok (.iload 7, 2)) rfl rfl, ?_⟩
  refine List.forall_mem_cons.mpr ⟨s_iconst C (by decide +kernel : decode c_X10_seats 111 = .ok (.iconst 1, 1)) rfl rfl (by decide), ?_⟩
  refine List.forall_mem_cons.mpr ⟨s_aload_n C (by decide +kernel : decode c_X10_seats 112 = .ok (.aload_n 0, 1)) rfl rfl rfl, ?_⟩
  refine List.forall_mem_cons.mpr ⟨s_getf C (by decide +kernel : decode c_X10_seats 113 = .ok (.getfield 42, 3)) rfl rfl em_cl_X10 (by decide) ew711 rfl, ?_⟩
  refine List.forall_mem_cons.mpr ⟨s_iload C (by decide +kernel : decode c_X10_seats 116 = .ok (.iload 8, 2)) rfl rfl, ?_⟩
  refine List.forall_mem_cons.mpr ⟨s_iald C (by decide +kernel : decode c_X10_seats 118 = .ok (.iaload, 1)) rfl rfl, ?_⟩
  refine List.forall_mem_cons.mpr ⟨s_ishl C (by decide +kernel : decode c_X10_seats 119 = .ok (.ishl, 1)) rfl rfl, ?_⟩
  refine List.forall_mem_cons.mpr ⟨s_ior C (by decide +kernel : decode c_X10_seats 120 = .ok (.ior, 1)) rfl rfl, ?_⟩
  refine List.forall_mem_cons.mpr ⟨s_istore C (by decide +kernel : decode c_X10_seats 121 = .ok (.istore 7, 2)) rfl rfl (by decide), ?_⟩
  refine List.forall_mem_cons.mpr ⟨s_iinc C (by decide +kernel : decode c_X10_seats 123 = .ok (.iinc 8 (-1), 3)) rfl rfl (by decide) (by decide), ?_⟩
  refine List.forall_mem_cons.mpr ⟨s_goto C (by decide +kernel : decode c_X10_seats 126 = .ok (.goto (-58), 3)) (by decide) rfl, ?_⟩
  refine List.forall_mem_cons.mpr ⟨s_iload C (by decide +kernel : decode c_X10_seats 129 = .ok (.iload 7, 2)) rfl rfl, ?_⟩
  refine List.forall_mem_cons.mpr ⟨s_iconst C (by decide +kernel : decode c_X10_seats 131 = .ok (.iconst 1, 1)) rfl rfl (by decide), ?_⟩
  refine List.forall_mem_cons.mpr ⟨s_iload_n C (by decide +kernel : decode c_X10_seats 132 = .ok (.iload_n 2, 1)) rfl rfl rfl, ?_⟩
  refine List.forall_mem_cons.mpr ⟨s_ishl C (by decide +kernel : decode c_X10_seats 133 = .ok (.ishl, 1)) rfl rfl, ?_⟩
  refine List.forall_mem_cons.mpr ⟨s_iconst C (by decide +kernel : decode c_X10_seats 134 = .ok (.iconst 1, 1)) rfl rfl (by decide), ?_⟩
  refine List.forall_mem_cons.mpr ⟨s_isub C (by decide +kernel : decode c_X10_seats 135 = .ok (.isub, 1)) rfl rfl, ?_⟩
  refine List.forall_mem_cons.mpr ⟨s_icmpne C (by decide +kernel : decode c_X10_seats 136 = .ok (.if_icmp .ne 93, 3)) (by decide) rfl rfl rfl, ?_⟩
  refine List.forall_mem_cons.mpr ⟨s_aload_n C (by decide +kernel : decode c_X10_seats 139 = .ok (.aload_n 0, 1)) rfl rfl rfl, ?_⟩
  refine List.forall_mem_cons.mpr ⟨s_callV C hFok hF (ct_X10_asNow l D dA σ) ⟨rfl, rfl⟩ ew903 em_cl_X10 ew900 ew902 ewp26 ew6 ⟨by decide, by decide, by decide +kernel⟩ ⟨by decide, by decide⟩ (by decide +kernel : decode c_X10_seats 140 = .ok (.invokevirtual 182, 3)) rfl rfl ⟨Nat.zero_le _, Nat.zero_le _⟩, ?_⟩
  refine List.forall_mem_cons.mpr ⟨s_iconst C (by decide +kernel : decode c_X10_seats 143 = .ok (.iconst 0, 1)) rfl rfl (by decide), ?_⟩
  refine List.forall_mem_cons.mpr ⟨s_istore C (by decide +kernel : decode c_X10_seats 144 = .ok (.istore 8, 2)) rfl rfl (by decide), ?_⟩
  refine List.forall_mem_cons.mpr ⟨s_iload C (by decide +kernel : decode c_X10_seats 146 = .ok (.iload 8, 2)) rfl rfl, ?_⟩
  refine List.forall_mem_cons.mpr ⟨s_iload_n C (by decide +kernel : decode c_X10_seats 148 = .ok (.iload_n 2, 1)) rfl rfl rfl, ?_⟩
  refine List.forall_mem_cons.mpr ⟨s_icmpge C (by decide +kernel : decode c_X10_seats 149 = .ok (.if_icmp .ge 36, 3)) (by decide) rfl rfl rfl, ?_⟩
  refine List.forall_mem_cons.mpr ⟨s_iload_n C (by decide +kernel : decode c_X10_seats 152 = .ok (.iload_n 2, 1)) rfl rfl rfl, ?_⟩
  refine List.forall_mem_cons.mpr ⟨s_iconst C (by decide +kernel : decode c_X10_seats 153 = .ok (.iconst 1, 1)) rfl rfl (by decide), ?_⟩
  refine List.forall_mem_cons.mpr ⟨s_icmple C (by decide +kernel : decode c_X10_seats 154 = .ok (.if_icmp .le 31, 3)) (by decide) rfl rfl rfl, ?_⟩
  refine List.forall_mem_cons.mpr ⟨s_aload_n C (by decide +kernel : decode c_X10_seats 157 = .ok (.aload_n 0, 1)) rfl rfl rfl, ?_⟩
  refine List.forall_mem_cons.mpr ⟨s_aload_n C (by decide +kernel : decode c_X10_seats 158 = .ok (.aload_n 0, 1)) rfl rfl rfl, ?_⟩
  refine List.forall_mem_cons.mpr ⟨s_getf C (by decide +kernel : decode c_X10_seats 159 = .ok (.getfield 42, 3)) rfl rfl em_cl_X10 (by decide) ew711 rfl, ?_⟩
  refine List.forall_mem_cons.mpr ⟨s_iload C (by decide +kernel : decode c_X10_seats 162 = .ok (.iload 8, 2)) rfl rfl, ?_⟩
  refine List.forall_mem_cons.mpr ⟨s_iald C (by decide +kernel : decode c_X10_seats 164 = .ok (.iaload, 1)) rfl rfl, ?_⟩
  refine List.forall_mem_cons.mpr ⟨s_aload_n C (by decide +kernel : decode c_X10_seats 165 = .ok (.aload_n 0, 1)) rfl rfl rfl, ?_⟩
  refine List.forall_mem_cons.mpr ⟨s_getf C (by decide +kernel : decode c_X10_seats 166 = .ok (.getfield 42, 3)) rfl rfl em_cl_X10 (by decide) ew711 rfl, ?_⟩
  refine List.forall_mem_cons.mpr ⟨s_iload C (by decide +kernel : decode c_X10_seats 169 = .ok (.iload 8, 2)) rfl rfl, ?_⟩
  refine List.forall_mem_cons.mpr ⟨s_iconst C (by decide +kernel : decode c_X10_seats 171 = .ok (.iconst 1, 1)) rfl rfl (by decide), ?_⟩
  refine List.forall_mem_cons.mpr ⟨s_iadd C (by decide +kernel : decode c_X10_seats 172 = .ok (.iadd, 1)) rfl rfl, ?_⟩
  refine List.forall_mem_cons.mpr ⟨s_iload_n C (by decide +kernel : decode c_X10_seats 173 = .ok (.iload_n 2, 1)) rfl rfl rfl, ?_⟩
  refine List.forall_mem_cons.mpr ⟨s_irem C (by decide +kernel : decode c_X10_seats 174 = .ok (.irem, 1)) rfl rfl, ?_⟩
  refine List.forall_mem_cons.mpr ⟨s_iald C (by decide +kernel : decode c_X10_seats 175 = .ok (.iaload, 1)) rfl rfl, ?_⟩
  refine List.forall_mem_cons.mpr ⟨s_callV C hFok hF (ct_X10_talks l D dA σ) ⟨rfl, rfl⟩ ew927 em_cl_X10 ew924 ew926 ewp30 ew6 ⟨by decide, by decide, by decide +kernel⟩ ⟨by decide, by decide⟩ (by decide +kernel : decode c_X10_seats 176 = .ok (.invokevirtual 192, 3)) rfl rfl ⟨Nat.zero_le _, Nat.zero_le _⟩, ?_⟩
  refine List.forall_mem_cons.mpr ⟨s_iinc C (by decide +kernel : decode c_X10_seats 179 = .ok (.iinc 8 1, 3)) rfl rfl (by decide) (by decide), ?_⟩
  refine List.forall_mem_cons.mpr ⟨s_goto C (by decide +kernel : decode c_X10_seats 182 = .ok (.goto (-36), 3)) (by decide) rfl, ?_⟩
  refine List.forall_mem_cons.mpr ⟨s_aload_n C (by decide +kernel : decode c_X10_seats 185 = .ok (.aload_n 0, 1)) rfl rfl rfl, ?_⟩
  refine List.forall_mem_cons.mpr ⟨s_callV C hFok hF (ct_X10_lawfulPairs l D dA σ) ⟨rfl, rfl⟩ ew1016 em_cl_X10 ew1013 ew1015 ewp38 ew6 ⟨by decide, by decide, by decide +kernel⟩ ⟨by decide, by decide⟩ (by decide +kernel : decode c_X10_seats 186 = .ok (.invokevirtual 233, 3)) rfl rfl ⟨Nat.zero_le _, Nat.zero_le _⟩, ?_⟩
  refine List.forall_mem_cons.mpr ⟨s_istore C (by decide +kernel : decode c_X10_seats 189 = .ok (.istore 8, 2)) rfl rfl (by decide), ?_⟩
  refine List.forall_mem_cons.mpr ⟨s_iload C (by decide +kernel : decode c_X10_seats 191 = .ok (.iload 8, 2)) rfl rfl, ?_⟩
  refine List.forall_mem_cons.mpr ⟨s_iload_n C (by decide +kernel : decode c_X10_seats 193 = .ok (.iload_n 3, 1)) rfl rfl rfl, ?_⟩
  refine List.forall_mem_cons.mpr ⟨s_icmple C (by decide +kernel : decode c_X10_seats 194 = .ok (.if_icmp .le 35, 3)) (by decide) rfl rfl rfl, ?_⟩
  refine List.forall_mem_cons.mpr ⟨s_iload C (by decide +kernel : decode c_X10_seats 197 = .ok (.iload 8, 2)) rfl rfl, ?_⟩
  refine List.forall_mem_cons.mpr ⟨s_istore_n C (by decide +kernel : decode c_X10_seats 199 = .ok (.istore_n 3, 1)) rfl rfl rfl (by decide), ?_⟩
  refine List.forall_mem_cons.mpr ⟨s_iconst C (by decide +kernel : decode c_X10_seats 200 = .ok (.iconst 0, 1)) rfl rfl (by decide), ?_⟩
  refine List.forall_mem_cons.mpr ⟨s_istore C (by decide +kernel : decode c_X10_seats 201 = .ok (.istore 9, 2)) rfl rfl (by decide), ?_⟩
  refine List.forall_mem_cons.mpr ⟨s_iload C (by decide +kernel : decode c_X10_seats 203 = .ok (.iload 9, 2)) rfl rfl, ?_⟩
  refine List.forall_mem_cons.mpr ⟨s_iload_n C (by decide +kernel : decode c_X10_seats 205 = .ok (.iload_n 2, 1)) rfl rfl rfl, ?_⟩
  refine List.forall_mem_cons.mpr ⟨s_icmpge C (by decide +kernel : decode c_X10_seats 206 = .ok (.if_icmp .ge 23, 3)) (by decide) rfl rfl rfl, ?_⟩
  refine List.forall_mem_cons.mpr ⟨s_aload_n C (by decide +kernel : decode c_X10_seats 209 = .ok (.aload_n 0, 1)) rfl rfl rfl, ?_⟩
  refine List.forall_mem_cons.mpr ⟨s_getf C (by decide +kernel : decode c_X10_seats 210 = .ok (.getfield 45, 3)) rfl rfl em_cl_X10 (by decide) ew712 rfl, ?_⟩
  refine List.forall_mem_cons.mpr ⟨s_iload C (by decide +kernel : decode c_X10_seats 213 = .ok (.iload 9, 2)) rfl rfl, ?_⟩
  refine List.forall_mem_cons.mpr ⟨s_aload_n C (by decide +kernel : decode c_X10_seats 215 = .ok (.aload_n 0, 1)) rfl rfl rfl, ?_⟩
  refine List.forall_mem_cons.mpr ⟨s_getf C (by decide +kernel : decode c_X10_seats 216 = .ok (.getfield 42, 3)) rfl rfl em_cl_X10 (by decide) ew711 rfl, ?_⟩
  refine List.forall_mem_cons.mpr ⟨s_iload C (by decide +kernel : decode c_X10_seats 219 = .ok (.iload 9, 2)) rfl rfl, ?_⟩
  refine List.forall_mem_cons.mpr ⟨s_iald C (by decide +kernel : decode c_X10_seats 221 = .ok (.iaload, 1)) rfl rfl, ?_⟩
  refine List.forall_mem_cons.mpr ⟨s_iast C (by decide +kernel : decode c_X10_seats 222 = .ok (.iastore, 1)) rfl rfl, ?_⟩
  refine List.forall_mem_cons.mpr ⟨s_iinc C (by decide +kernel : decode c_X10_seats 223 = .ok (.iinc 9 1, 3)) rfl rfl (by decide) (by decide), ?_⟩
  refine List.forall_mem_cons.mpr ⟨s_goto C (by decide +kernel : decode c_X10_seats 226 = .ok (.goto (-23), 3)) (by decide) rfl, ?_⟩
  refine List.forall_mem_cons.mpr ⟨s_iinc C (by decide +kernel : decode c_X10_seats 229 = .ok (.iinc 5 1, 3)) rfl rfl (by decide) (by decide), ?_⟩
  refine List.forall_mem_cons.mpr ⟨s_goto C (by decide +kernel : decode c_X10_seats 232 = .ok (.goto (-183), 3)) (by decide) rfl, ?_⟩
  refine List.forall_mem_cons.mpr ⟨s_iload_n C (by decide +kernel : decode c_X10_seats 235 = .ok (.iload_n 1, 1)) rfl rfl rfl, ?_⟩
  refine List.forall_mem_cons.mpr ⟨s_iconst C (by decide +kernel : decode c_X10_seats 236 = .ok (.iconst (-1), 1)) rfl rfl (by decide), ?_⟩
  refine List.forall_mem_cons.mpr ⟨s_icmpne C (by decide +kernel : decode c_X10_seats 237 = .ok (.if_icmp .ne 7, 3)) (by decide) rfl rfl rfl, ?_⟩
  refine List.forall_mem_cons.mpr ⟨s_iload_n C (by decide +kernel : decode c_X10_seats 240 = .ok (.iload_n 3, 1)) rfl rfl rfl, ?_⟩
  refine List.forall_mem_cons.mpr ⟨s_goto C (by decide +kernel : decode c_X10_seats 241 = .ok (.goto 19, 3)) (by decide) rfl, ?_⟩
  refine List.forall_mem_cons.mpr ⟨s_iload_n C (by decide +kernel : decode c_X10_seats 244 = .ok (.iload_n 1, 1)) rfl rfl rfl, ?_⟩
  refine List.forall_mem_cons.mpr ⟨s_iload_n C (by decide +kernel : decode c_X10_seats 245 = .ok (.iload_n 2, 1)) rfl rfl rfl, ?_⟩
  refine List.forall_mem_cons.mpr ⟨s_icmpge C (by decide +kernel : decode c_X10_seats 246 = .ok (.if_icmp .ge 12, 3)) (by decide) rfl rfl rfl, ?_⟩
  refine List.forall_mem_cons.mpr ⟨s_aload_n C (by decide +kernel : decode c_X10_seats 249 = .ok (.aload_n 0, 1)) rfl rfl rfl, ?_⟩
  refine List.forall_mem_cons.mpr ⟨s_getf C (by decide +kernel : decode c_X10_seats 250 = .ok (.getfield 45, 3)) rfl rfl em_cl_X10 (by decide) ew712 rfl, ?_⟩
  refine List.forall_mem_cons.mpr ⟨s_iload_n C (by decide +kernel : decode c_X10_seats 253 = .ok (.iload_n 1, 1)) rfl rfl rfl, ?_⟩
  refine List.forall_mem_cons.mpr ⟨s_iald C (by decide +kernel : decode c_X10_seats 254 = .ok (.iaload, 1)) rfl rfl, ?_⟩
  refine List.forall_mem_cons.mpr ⟨s_goto C (by decide +kernel : decode c_X10_seats 255 = .ok (.goto 5, 3)) (by decide) rfl, ?_⟩
  refine List.forall_mem_cons.mpr ⟨s_bipush C (by decide +kernel : decode c_X10_seats 258 = .ok (.bipush (-5), 2)) rfl rfl (by decide), ?_⟩
  refine List.forall_mem_cons.mpr ⟨s_iret C (by decide +kernel : decode c_X10_seats 260 = .ok (.ireturn, 1)) hret hlk ⟨Nat.le_refl 0, Nat.le_refl 0⟩, ?_⟩
  exact fun _ h => absurd h List.not_mem_nil
