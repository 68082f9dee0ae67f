/-! ===== dinners, feigned, seen, swayed ===== -/
def drw (m c k : Nat) : Nat := c / 13 ^ (m - 1 - k) % 13
def dnP (B : Nat → Nat) (a b m c : Nat) : Bool := (dnR B a b (drw m c) m).isSome
theorem cU_fsU {P : Nat → Bool} (k : Nat) : cU P k = 0 ↔ fsU P k = none := (fsU_cU k).symm
def dnI (m : Nat) (o : Option Nat) (i : Int32) : Int32 := match o with
  | none => -1
  | some f => if nI m ≤ i then -5 else nI (drw m f i.toInt.toNat)
theorem le_m1 {i : Int32} (h : -1 ≤ i) (h1 : ¬ i = -1) : ∃ j : Nat, j < 2 ^ 31 ∧ i = nI j := by
  have h2 := Int32.le_iff_toInt_le.mp h
  have e : ((-1 : Int32)).toInt = -1 := by decide
  rw [e] at h2
  have h3 : i.toInt ≠ -1 := fun q => h1 (Int32.toInt_inj.mp (by rw [q, e]))
  exact nI_of (fun q => by
    have q := Int32.lt_iff_toInt_lt.mp q
    have e0 : (0 : Int32).toInt = 0 := by decide
    omega) |>.elim (fun k hk => ⟨k, hk.1, hk.2⟩)
def sp_X10_dinners : em_Sp := fun av hp Q => ∃ B im kp asd rf qt ab be tx ty at9 st9 tk vl wd it mn S sb my we be9 rw fr a b m i, av = [.ref 0, .int a, .int b, .int m, .int i] ∧ hp = (wM (nB B) im kp asd rf qt ab be tx ty at9 st9 tk vl wd it mn (nB S) sb my we be9 rw fr) ∧ GK B ∧ Z6 S ∧ (¬ (h2 (nI (B 0)) a b ∧ din m i) → Q (some (.int (-10))) (wM (nB B) im kp asd (rfM qt rf 0) qt ab be tx ty at9 st9 tk vl wd it mn (nB S) sb my we be9 rw fr)) ∧ (∀ x y k S' rw' fr', Z6 S' → a = nI x → b = nI y → x < B 0 → y < B 0 → x ≠ y → m = nI k → 1 ≤ k → k ≤ 4 → (i = -1 → Q (some (.int (nI (cU (dnP B x y k) (13 ^ k))))) (wM (nB B) im kp asd rf qt ab be tx ty at9 st9 tk vl wd it mn (nB S') sb my we be9 (rw') (fr'))) ∧ ((-1) ≤ i → ¬ i = -1 → Q (some (.int (dnI k (fsU (dnP B x y k) (13 ^ k)) i))) (wM (nB B) im kp asd rf qt ab be tx ty at9 st9 tk vl wd it mn (nB S') sb my we be9 (rw') (fr'))))
def T_X10_dinners : List (Nat × em_Op) := [(0, o_aload 0 1), (1, o_iload 1 2), (2, o_iload 2 3), (3, o_call 3 (some 5) (sp_X10_areTwo) 6), (6, o_ifeq 27 9), (9, o_iload 3 10), (10, o_i2l 11), (11, o_lconst 1 12), (12, o_lconst 4 15), (15, o_call 3 none (sp_X10_in) 18), (18, o_ifeq 27 21), (21, o_iload 4 23), (23, o_iconst (-1) 24), (24, o_icmpge 35 27), (27, o_aload 0 28), (28, o_iconst 0 29), (29, o_iconst (-10) 31), (31, o_call 3 (some 5) (sp_X10_refuses) 34), (34, o_iret), (35, o_iconst 1 36), (36, o_istore 5 38), (38, o_iconst 0 39), (39, o_istore 6 41), (41, o_iload 6 43), (43, o_iload 3 44), (44, o_icmpge 60 47), (47, o_iload 5 49), (49, o_iconst 13 51), (51, o_imul 52), (52, o_istore 5 54), (54, o_iinc 6 1 57), (57, o_goto 41), (60, o_iconst 0 61), (61, o_istore 6 63), (63, o_iconst 0 64), (64, o_istore 7 66), (66, o_iload 7 68), (68, o_iload 5 70), (70, o_icmpge 165 73), (73, o_iload 7 75), (75, o_istore 8 77), (77, o_iload 3 78), (78, o_iconst 1 79), (79, o_isub 80), (80, o_istore 9 82), (82, o_iload 9 84), (84, o_iflt 112 87), (87, o_aload 0 88), (88, o_getf 5 22 91), (91, o_iload 9 93), (93, o_iload 8 95), (95, o_iconst 13 97), (97, o_irem 98), (98, o_iast 99), (99, o_iload 8 101), (101, o_iconst 13 103), (103, o_idiv 104), (104, o_istore 8 106), (106, o_iinc 9 (-1) 109), (109, o_goto 82), (112, o_aload 0 113), (113, o_iload 1 114), (114, o_iload 2 115), (115, o_iload 3 116), (116, o_call 4 (some 5) (sp_X10_dines) 119), (119, o_ifeq 159 122), (122, o_iconst 0 123), (123, o_istore 9 125), (125, o_iload 9 127), (127, o_iload 3 128), (128, o_icmpge 156 131), (131, o_iload 6 133), (133, o_ifne 156 136), (136, o_aload 0 137), (137, o_getf 5 23 140), (140, o_iload 9 142), (142, o_aload 0 143), (143, o_getf 5 22 146), (146, o_iload 9 148), (148, o_aldI 0 149), (149, o_iast 150), (150, o_iinc 9 1 153), (153, o_goto 125), (156, o_iinc 6 1 159), (159, o_iinc 7 1 162), (162, o_goto 66), (165, o_iload 4 167), (167, o_iconst (-1) 168), (168, o_icmpne 176 171), (171, o_iload 6 173), (173, o_goto 203), (176, o_iload 6 178), (178, o_ifne 185 181), (181, o_iconst (-1) 182), (182, o_goto 203), (185, o_iload 4 187), (187, o_iload 3 188), (188, o_icmpge 201 191), (191, o_aload 0 192), (192, o_getf 5 23 195), (195, o_iload 4 197), (197, o_aldI 0 198), (198, o_goto 203), (201, o_iconst (-5) 203), (203, o_iret)]
theorem me_X10_dinners : em_Me T_X10_dinners 10 sp_X10_dinners := by
  intro Q K hK hle av hp hs
  obtain ⟨B, im, kp, asd, rf, qt, ab, be, tx, ty, at9, st9, tk, vl, wd, it, mn, S, sb, my, we, be9, rw, fr, a, b, m, i, rfl, rfl, hB, hz, hbad, hq⟩ := hs
  have h0 := hB.1
  have bad : ¬ (h2 (nI (B 0)) a b ∧ din m i) → K 27 [some (.ref 0), some (.int a), some (.int b), some (.int m), some (.int i), none, none, none, none, none] [] (wM (nB B) im kp asd rf qt ab be tx ty at9 st9 tk vl wd it mn (nB S) sb my we be9 rw fr) := by
    intro h
    exact hK 14 5 27 _ _ _ ⟨_, _, _, _, _, _, _, _, _, _, _, _, _, _, _, _, _, _, _, _, _, _, _, _, 0, _, rfl, rfl, by decide, hbad h⟩
  have good : ∀ x y k, a = nI x → b = nI y → x < B 0 → y < B 0 → x ≠ y → m = nI k → 1 ≤ k → k ≤ 4 → (-1) ≤ i → K 35 [some (.ref 0), some (.int a), some (.int b), some (.int m), some (.int i), none, none, none, none, none] [] (wM (nB B) im kp asd rf qt ab be tx ty at9 st9 tk vl wd it mn (nB S) sb my we be9 rw fr) := by
    intro x y k ha hb hx hy hxy hmk hk1 hk4 hi
    subst ha
    subst hb
    subst hmk
    have hq := fun S' rw' fr' hS' => hq x y k S' rw' fr' hS' rfl rfl hx hy hxy rfl hk1 hk4
    obtain ⟨P, hP⟩ : ∃ P, P = dnP B x y k := ⟨_, rfl⟩
    rw [← hP] at hq
    obtain ⟨W, hW⟩ : ∃ W, W = 13 ^ k := ⟨_, rfl⟩
    rw [← hW] at hq
    have hpw : ∀ i, i ≤ k → 13 ^ i ≤ 28561 := fun i hi => Nat.le_trans (Nat.pow_le_pow_right (n := 13) (by omega) (show i ≤ 4 by omega)) (by decide)
    have hW9 : W ≤ 28561 := by rw [hW]; exact hpw k (Nat.le_refl _)
    have hdg : ∀ c q, drw k c q < 13 := fun c q => Nat.mod_lt _ (by omega)
    have loop : ∀ (r c : Nat) (S2 : Nat → Nat) (rw2 fr2 : Nat → Int32), c + r = W → Z6 S2 → (∀ d, fsU P c = some d → ∀ q, q < k → fr2 q = nI (drw k d q)) → K 66 [some (.ref 0), some (.int (nI x)), some (.int (nI y)), some (.int (nI k)), some (.int i), some (.int (nI W)), some (.int (nI (cU P c))), some (.int (nI c)), none, none] [] (wM (nB B) im kp asd rf qt ab be tx ty at9 st9 tk vl wd it mn (nB S2) sb my we be9 (rw2) (fr2)) := by
      intro r
      induction r with
      | zero =>
        intro c S2 rw2 fr2 hc hS2 hfr
        have hc : c = W := by omega
        subst hc
        have hq := hq S2 rw2 fr2 hS2
        have hcl := cU_le (P := P) (n := c)
        refine hK 36 9999 66 _ _ _ ?_
        refine ⟨fun _ => ⟨fun z => ?_, fun z => ?_⟩, fun z => absurd (nI_le (Nat.le_refl c) (by omega)) z⟩
        · have hq := hq.2 hi z
          obtain ⟨j, hj, e⟩ := le_m1 hi z
          subst e
          have ej : (nI j).toInt.toNat = j := by rw [nI_toInt hj]; rfl
          refine ⟨fun v => ?_, fun v => ?_⟩
          · cases hf : fsU P c with
            | none => rw [(fsU_cU c).mp hf] at v; exact absurd rfl v
            | some f =>
              have hfr := hfr f hf
              rw [hf, dnI, ej] at hq
              refine ⟨fun u => ?_, fun u => ?_⟩
              · rw [if_pos u] at hq; exact hq
              · rw [if_neg u] at hq
                have u : j < k := by
                  rcases Nat.lt_or_ge j k with q | q
                  · exact q
                  · exact absurd (nI_le q hj) u
                rw [← hfr j u] at hq
                exact ⟨j, rfl, by omega, hq⟩
          · have v : cU P c = 0 := (nI_eq (b := 0) (by omega) (by omega)).mp v
            rw [(fsU_cU c).mpr v] at hq
            exact hq
        · exact hq.1 z
      | succ r ih =>
        intro c S2 rw2 fr2 hc hS2 hfr
        have hc9 : c < W := by omega
        have hcl := cU_le (P := P) (n := c)
        have nxt : ∀ (S3 : Nat → Nat) (rw3 fr3 : Nat → Int32) (x8 x9 : Option Value), Z6 S3 → (∀ d, fsU P (c + 1) = some d → ∀ q, q < k → fr3 q = nI (drw k d q)) → K 159 [some (.ref 0), some (.int (nI x)), some (.int (nI y)), some (.int (nI k)), some (.int i), some (.int (nI W)), some (.int (nI (cU P (c + 1)))), some (.int (nI c)), x8, x9] [] (wM (nB B) im kp asd rf qt ab be tx ty at9 st9 tk vl wd it mn (nB S3) sb my we be9 (rw3) (fr3)) := by
          intro S3 rw3 fr3 x8 x9 h3 hf
          have := ih (c + 1) S3 rw3 fr3 (by omega) h3 hf
          rw [← nI_1 c] at this
          exact hK 84 2 159 _ _ _ (hle _ _ _ _ _ (by repeat (first | exact trivial | refine ⟨rfl, ?_⟩)) this)
        have trial : ∀ (rw3 : Nat → Int32) (y8 : Int32) (x9 : Option Value), (∀ q, q < k → rw3 q = nI (drw k c q)) → K 112 [some (.ref 0), some (.int (nI x)), some (.int (nI y)), some (.int (nI k)), some (.int i), some (.int (nI W)), some (.int (nI (cU P c))), some (.int (nI c)), some (.int y8), x9] [] (wM (nB B) im kp asd rf qt ab be tx ty at9 st9 tk vl wd it mn (nB S2) sb my we be9 (rw3) (fr2)) := by
          intro rw3 y8 x9 hrw
          refine hK 60 8 112 _ _ _ ?_
          refine ⟨_, _, _, _, _, _, _, _, _, _, _, _, _, _, _, _, _, _, _, _, _, _, _, _, x, y, k, drw k c, rfl, rfl, hB, hS2, hx, hy, hk4, fun q hq => ⟨hrw q hq, hdg c q⟩, fun S3 hS3 => ?_⟩
          have ep : P c = (dnR B x y (drw k c) k).isSome := by rw [hP]; rfl
          rw [← ep]
          refine ⟨fun z => ?_, fun z => ?_⟩
          · have z := b1_0.mp z
            have e1 : cU P (c + 1) = cU P c := by rw [cU, z]; rfl
            have e2 : fsU P (c + 1) = fsU P c := by
              rw [fsU, z]
              cases fsU P c <;> rfl
            have := nxt S3 rw3 fr2 (some (.int y8)) x9 hS3 (by rw [e2]; exact hfr)
            rw [e1] at this
            exact this
          · have zt : P c = true := by
              cases hc : P c with
              | true => rfl
              | false => exact absurd (b1_0.mpr hc) z
            have e1 : cU P (c + 1) = cU P c + 1 := by rw [cU, if_pos zt]
            have done : ∀ (fr3 : Nat → Int32) (x9 : Option Value), (∀ d, fsU P (c + 1) = some d → ∀ q, q < k → fr3 q = nI (drw k d q)) → K 156 [some (.ref 0), some (.int (nI x)), some (.int (nI y)), some (.int (nI k)), some (.int i), some (.int (nI W)), some (.int (nI (cU P c))), some (.int (nI c)), some (.int y8), x9] [] (wM (nB B) im kp asd rf qt ab be tx ty at9 st9 tk vl wd it mn (nB S3) sb my we be9 (rw3) (fr3)) := by
              intro fr3 x9 hf
              have := nxt S3 rw3 fr3 (some (.int y8)) x9 hS3 hf
              rw [e1, ← nI_1] at this
              exact hK 83 1 156 _ _ _ this
            by_cases hc0 : cU P c = 0
            · have hn := (fsU_cU c).mpr hc0
              have e2 : fsU P (c + 1) = some c := by
                rw [fsU, hn]
                show (if P c = true then some c else none) = _
                rw [if_pos zt]
              have copy : ∀ (r q : Nat) (fr3 : Nat → Int32), q + r = k → (∀ j, j < q → fr3 j = nI (drw k c j)) → K 125 [some (.ref 0), some (.int (nI x)), some (.int (nI y)), some (.int (nI k)), some (.int i), some (.int (nI W)), some (.int (nI (cU P c))), some (.int (nI c)), some (.int y8), some (.int (nI q))] [] (wM (nB B) im kp asd rf qt ab be tx ty at9 st9 tk vl wd it mn (nB S3) sb my we be9 (rw3) (fr3)) := by
                intro r
                induction r with
                | zero =>
                  intro q fr3 hq hj
                  have hq : q = k := by omega
                  subst hq
                  refine hK 68 15 125 _ _ _ ?_
                  refine ⟨fun _ => done fr3 _ (fun d hd j hj2 => ?_), fun z => absurd (nI_le (Nat.le_refl q) (by omega)) z⟩
                  rw [e2] at hd
                  rw [← Option.some.inj hd]
                  exact hj j hj2
                | succ r ihr =>
                  intro q fr3 hq hj
                  have := ihr (q + 1) (upd fr3 q (rw3 q)) (by omega) (fun j hj2 => by
                    by_cases h : j = q
                    · subst h; rw [pk_us]; exact hrw j (by omega)
                    · rw [pk_un h]; exact hj j (by omega))
                  rw [← nI_1 q] at this
                  refine hK 68 15 125 _ _ _ ?_
                  refine ⟨fun z => absurd z (nI_ge (by omega) (by omega)), fun _ => ⟨fun z => absurd (by rw [hc0]; rfl) z, fun _ => ?_⟩⟩
                  exact ⟨q, rfl, by omega, q, rfl, by omega, this⟩
              exact copy k 0 fr2 (by omega) (fun j h => by omega)
            · obtain ⟨f, hf⟩ : ∃ f, fsU P c = some f := by
                cases hf : fsU P c with
                | none => exact absurd ((fsU_cU c).mp hf) hc0
                | some f => exact ⟨f, rfl⟩
              have e2 : fsU P (c + 1) = fsU P c := by rw [fsU, hf]
              have d0 := done fr2 (some (.int (nI 0))) (by rw [e2]; exact hfr)
              have skip : K 125 [some (.ref 0), some (.int (nI x)), some (.int (nI y)), some (.int (nI k)), some (.int i), some (.int (nI W)), some (.int (nI (cU P c))), some (.int (nI c)), some (.int y8), some (.int (nI 0))] [] (wM (nB B) im kp asd rf qt ab be tx ty at9 st9 tk vl wd it mn (nB S3) sb my we be9 (rw3) (fr2)) := by
                refine hK 68 15 125 _ _ _ ?_
                refine ⟨fun _ => d0, fun _ => ⟨fun _ => d0, fun z => ?_⟩⟩
                exact absurd ((nI_eq (b := 0) (by omega) (by omega)).mp z) hc0
              exact skip
        have dig : ∀ (j q : Nat) (rw3 : Nat → Int32), j + q = k → (∀ t, j ≤ t → t < k → rw3 t = nI (drw k c t)) → K 82 [some (.ref 0), some (.int (nI x)), some (.int (nI y)), some (.int (nI k)), some (.int i), some (.int (nI W)), some (.int (nI (cU P c))), some (.int (nI c)), some (.int (nI (c / 13 ^ q))), some (.int (nI j - 1))] [] (wM (nB B) im kp asd rf qt ab be tx ty at9 st9 tk vl wd it mn (nB S2) sb my we be9 (rw3) (fr2)) := by
          intro j
          induction j with
          | zero =>
            intro q rw3 hjq hrw
            refine hK 45 15 82 _ _ _ ?_
            exact ⟨fun _ => trial rw3 _ _ (fun t ht => hrw t (by omega) ht), fun z => absurd (by show nI 0 - 1 < 0; decide) z⟩
          | succ t ihj =>
            intro q rw3 hjq hrw
            have hl : c / 13 ^ q ≤ c := Nat.div_le_self _ _
            have em : nI (c / 13 ^ q) - nI (c / 13 ^ q) / 13 * 13 = nI (c / 13 ^ q % 13) := pk_rem (d := 13) (by omega) (by omega) (by omega)
            have ed : nI (c / 13 ^ q) / 13 = nI (c / 13 ^ (q + 1)) := by
              rw [show nI (c / 13 ^ q) / 13 = nI (c / 13 ^ q / 13) from pk_div (d := 13) (by omega) (by omega) (by omega), Nat.div_div_eq_div_mul, Nat.pow_succ]
            have edg : drw k c t = c / 13 ^ q % 13 := by
              unfold drw; rw [show k - 1 - t = q by omega]
            have := ihj (q + 1) (upd rw3 t (nI (c / 13 ^ q % 13))) (by omega) (fun s h1 h2 => by
              by_cases h : s = t
              · subst h; rw [pk_us, edg]
              · rw [pk_un h]; exact hrw s (by omega) h2)
            rw [← em, ← ed, ← m1s (nI t)] at this
            rw [nI_pred t]
            refine hK 45 15 82 _ _ _ ?_
            refine ⟨fun z => absurd z (nI_pos (by omega)), fun _ => ?_⟩
            exact ⟨by decide, t, rfl, by omega, by decide, this⟩
        have d0 := dig k 0 rw2 (by omega) (fun t h1 h2 => by omega)
        rw [Nat.pow_zero, Nat.div_one] at d0
        refine hK 36 9 66 _ _ _ ?_
        exact ⟨fun z => absurd z (nI_ge (by omega) (by omega)), fun _ => d0⟩
    have ways : ∀ (r j : Nat), j + r = k → K 41 [some (.ref 0), some (.int (nI x)), some (.int (nI y)), some (.int (nI k)), some (.int i), some (.int (nI (13 ^ j))), some (.int (nI j)), none, none, none] [] (wM (nB B) im kp asd rf qt ab be tx ty at9 st9 tk vl wd it mn (nB S) sb my we be9 rw fr) := by
      intro r
      induction r with
      | zero =>
        intro j hj
        have hj : j = k := by omega
        subst hj
        refine hK 23 13 41 _ _ _ ?_
        have := loop W 0 S rw fr (by omega) hz (fun d h => by rw [fsU] at h; cases h)
        rw [hW] at this
        exact ⟨fun _ => hle _ _ _ _ _ (by repeat (first | exact trivial | refine ⟨rfl, ?_⟩)) this, fun z => absurd (nI_le (Nat.le_refl j) (by omega)) z⟩
      | succ r ih =>
        intro j hj
        have := ih (j + 1) (by omega)
        have hpi := hpw j (by omega)
        rw [Nat.pow_succ, ← pk_mul, ← nI_1 j] at this
        refine hK 23 13 41 _ _ _ ?_
        refine ⟨fun z => absurd z (nI_ge (by omega) (by omega)), fun _ => ?_⟩
        exact this
    exact hK 19 4 35 _ _ _ (ways k 0 (by omega))
  refine ⟨Nat.le_of_ble_eq_true rfl, hK 0 14 0 _ _ _ ?_⟩
  refine ⟨_, _, _, _, _, _, _, _, _, _, _, _, _, _, _, _, _, _, _, _, _, _, _, _, _, _, B 0, rfl, rfl, rfl, h0, fun z => ?_, fun z => ?_⟩
  · refine ⟨fun u => absurd u (by decide), fun _ => ?_⟩
    obtain ⟨x, hx, ex⟩ := nI_at rfl z.1
    obtain ⟨y, hy, ey⟩ := nI_at rfl z.2.1
    have hxy : x ≠ y := fun q => z.2.2 (by rw [ex, ey, q])
    refine ⟨_, _, _, rfl, fun z2 => ?_, fun z2 => ?_⟩
    · refine ⟨fun u => absurd u (by decide), fun _ => ?_⟩
      have z3 := in_14.mp z2
      obtain ⟨k, hk, hk1, hk4⟩ : ∃ k, m = nI k ∧ 1 ≤ k ∧ k ≤ 4 := by
        obtain ⟨k, hk, e⟩ := nI_of (x := m) (fun q => z3.1 (by
          have q' := Int32.lt_iff_toInt_lt.mp q
          refine Int32.lt_iff_toInt_lt.mpr ?_
          have e1 : (1 : Int32).toInt = 1 := by decide
          have e0 : (0 : Int32).toInt = 0 := by decide
          omega))
        subst e
        refine ⟨k, rfl, ?_, ?_⟩
        · rcases Nat.lt_or_ge k 1 with q | q
          · exact absurd (nI_lt (b := 1) q (by omega)) z3.1
          · exact q
        · rcases Nat.lt_or_ge 4 k with q | q
          · exact absurd (nI_lt (a := 4) q hk) z3.2
          · exact q
      refine ⟨fun u => ?_, fun u => bad (fun q => u q.2.2.2)⟩
      exact good x y k ex ey hx hy hxy hk hk1 hk4 u
    · exact ⟨fun _ => bad (fun q => z2 (in_14.mpr ⟨q.2.1, q.2.2.1⟩)), fun u => absurd rfl u⟩
  · exact ⟨fun _ => bad (fun q => z q.1), fun u => absurd rfl u⟩
abbrev rm_X10_dinners : Room := { frames := 4, cells := 0, slots := 0, locals := 93 }
set_option maxRecDepth 100000 in
set_option maxHeartbeats 4000000 in
theorem ct_X10_dinners (l : Launch) (D : va_G) (dA : Nat → ClassId) (σ : Nat → Nat) : em_CT l D em_cl dA σ (em_F σ) y_X10_dinners c_X10_dinners 10 (Option.some ClassFile.FieldType.int) rm_X10_dinners (sp_X10_dinners ) := by
  refine em_CT_of (T := T_X10_dinners ) (em_F_ok σ) (by decide) (fun p e s m args below meth c A ρ Q C hFok hF hret hlk hin => ?_) (me_X10_dinners )
  unfold T_X10_dinners
  refine List.forall_mem_cons.mpr ⟨s_aload_n C (by decide +kernel : decode c_X10_dinners 0 = .ok (.aload_n 0, 1)) rfl rfl rfl, ?_⟩
  refine List.forall_mem_cons.mpr ⟨s_iload_n C (by decide +kernel : decode c_X10_dinners 1 = .ok (.iload_n 1, 1)) rfl rfl rfl, ?_⟩
  refine List.forall_mem_cons.mpr ⟨s_iload_n C (by decide +kernel : decode c_X10_dinners 2 = .ok (.iload_n 2, 1)) rfl rfl rfl, ?_⟩
  refine List.forall_mem_cons.mpr ⟨s_callV C hFok hF (ct_X10_areTwo l D dA σ) ⟨rfl, rfl⟩ ew820 em_cl_X10 ew817 ew819 ewp18 ew6 ⟨by decide, by decide, by decide +kernel⟩ ⟨by decide, by decide⟩ (by decide +kernel : decode c_X10_dinners 3 = .ok (.invokevirtual 96, 3)) rfl rfl ⟨Nat.zero_le _, Nat.zero_le _⟩, ?_⟩
  refine List.forall_mem_cons.mpr ⟨s_ifeq C (by decide +kernel : decode c_X10_dinners 6 = .ok (.ifCond .eq 21, 3)) (by decide) rfl rfl rfl, ?_⟩
  refine List.forall_mem_cons.mpr ⟨s_iload_n C (by decide +kernel : decode c_X10_dinners 9 = .ok (.iload_n 3, 1)) rfl rfl rfl, ?_⟩
  refine List.forall_mem_cons.mpr ⟨s_i2l C (by decide +kernel : decode c_X10_dinners 10 = .ok (.i2l, 1)) rfl rfl, ?_⟩
  refine List.forall_mem_cons.mpr ⟨s_lconst C (by decide +kernel : decode c_X10_dinners 11 = .ok (.lconst 1, 1)) rfl rfl (by decide), ?_⟩
  refine List.forall_mem_cons.mpr ⟨s_ldc2 C (by decide +kernel : decode c_X10_dinners 12 = .ok (.ldc2_w 227, 3)) rfl rfl ew992, ?_⟩
  refine List.forall_mem_cons.mpr ⟨s_callS C hFok hF (ct_X10_in l D dA σ) ⟨rfl, rfl⟩ ew771 ew769 ew770 ew6 ⟨by decide, by decide, by decide +kernel⟩ ⟨by decide, by decide⟩ (by decide +kernel : decode c_X10_dinners 15 = .ok (.invokestatic 69, 3)) rfl rfl ⟨Nat.zero_le _, Nat.zero_le _⟩, ?_⟩
  refine List.forall_mem_cons.mpr ⟨s_ifeq C (by decide +kernel : decode c_X10_dinners 18 = .ok (.ifCond .eq 9, 3)) (by decide) rfl rfl rfl, ?_⟩
  refine List.forall_mem_cons.mpr ⟨s_iload C (by decide +kernel : decode c_X10_dinners 21 = .ok (.iload 4, 2)) rfl rfl, ?_⟩
  refine List.forall_mem_cons.mpr ⟨s_iconst C (by decide +kernel : decode c_X10_dinners 23 = .ok (.iconst (-1), 1)) rfl rfl (by decide), ?_⟩
  refine List.forall_mem_cons.mpr ⟨s_icmpge C (by decide +kernel : decode c_X10_dinners 24 = .ok (.if_icmp .ge 11, 3)) (by decide) rfl rfl rfl, ?_⟩
  refine List.forall_mem_cons.mpr ⟨s_aload_n C (by decide +kernel : decode c_X10_dinners 27 = .ok (.aload_n 0, 1)) rfl rfl rfl, ?_⟩
  refine List.forall_mem_cons.mpr ⟨s_iconst C (by decide +kernel : decode c_X10_dinners 28 = .ok (.iconst 0, 1)) rfl rfl (by decide), ?_⟩
  refine List.forall_mem_cons.mpr ⟨s_bipush C (by decide +kernel : decode c_X10_dinners 29 = .ok (.bipush (-10), 2)) rfl rfl (by decide), ?_⟩
  refine List.forall_mem_cons.mpr ⟨s_callV C hFok hF (ct_X10_refuses l D dA σ) ⟨rfl, rfl⟩ ew783 em_cl_X10 ew780 ew782 ewp14 ew6 ⟨by decide, by decide, by decide +kernel⟩ ⟨by decide, by decide⟩ (by decide +kernel : decode c_X10_dinners 31 = .ok (.invokevirtual 65, 3)) rfl rfl ⟨Nat.zero_le _, Nat.zero_le _⟩, ?_⟩
  refine List.forall_mem_cons.mpr ⟨s_iret C (by decide +kernel : decode c_X10_dinners 34 = .ok (.ireturn, 1)) hret hlk ⟨Nat.le_refl 0, Nat.le_refl 0⟩, ?_⟩
  refine List.forall_mem_cons.mpr ⟨s_iconst C (by decide +kernel : decode c_X10_dinners 35 = .ok (.iconst 1, 1)) rfl rfl (by decide), ?_⟩
  refine List.forall_mem_cons.mpr ⟨s_istore C (by decide +kernel : decode c_X10_dinners 36 = .ok (.istore 5, 2)) rfl rfl (by decide), ?_⟩
  refine List.forall_mem_cons.mpr ⟨s_iconst C (by decide +kernel : decode c_X10_dinners 38 = .ok (.iconst 0, 1)) rfl rfl (by decide), ?_⟩
  refine List.forall_mem_cons.mpr ⟨s_istore C (by decide +kernel : decode c_X10_dinners 39 = .ok (.istore 6, 2)) rfl rfl (by decide), ?_⟩
  refine List.forall_mem_cons.mpr ⟨s_iload C (by decide +kernel : decode c_X10_dinners 41 = .ok (.iload 6, 2)) rfl rfl, ?_⟩
  refine List.forall_mem_cons.mpr ⟨s_iload_n C (by decide +kernel : decode c_X10_dinners 43 = .ok (.iload_n 3, 1)) rfl rfl rfl, ?_⟩
  refine List.forall_mem_cons.mpr ⟨s_icmpge C (by decide +kernel : decode c_X10_dinners 44 = .ok (.if_icmp .ge 16, 3)) (by decide) rfl rfl rfl, ?_⟩
  refine List.forall_mem_cons.mpr ⟨s_iload C (by decide +kernel : decode c_X10_dinners 47 = .ok (.iload 5, 2)) rfl rfl, ?_⟩
  refine List.forall_mem_cons.mpr ⟨s_bipush C (by decide +kernel : decode c_X10_dinners 49 = .ok (.bipush 13, 2)) rfl rfl (by decide), ?_⟩
  refine List.forall_mem_cons.mpr ⟨s_imul C (by decide +kernel : decode c_X10_dinners 51 = .ok (.imul, 1)) rfl rfl, ?_⟩
  refine List.forall_mem_cons.mpr ⟨s_istore C (by decide +kernel : decode c_X10_dinners 52 = .ok (.istore 5, 2)) rfl rfl (by decide), ?_⟩
  refine List.forall_mem_cons.mpr ⟨s_iinc C (by decide +kernel : decode c_X10_dinners 54 = .ok (.iinc 6 1, 3)) rfl rfl (by decide) (by decide), ?_⟩
  refine List.forall_mem_cons.mpr ⟨s_goto C (by decide +kernel : decode c_X10_dinners 57 = .ok (.goto (-16), 3)) (by decide) rfl, ?_⟩
  refine List.forall_mem_cons.mpr ⟨s_iconst C (by decide +kernel : decode c_X10_dinners 60 = .ok (.iconst 0, 1)) rfl rfl (by decide), ?_⟩
  refine List.forall_mem_cons.mpr ⟨s_istore C (by decide +kernel : decode c_X10_dinners 61 = .ok (.istore 6, 2)) rfl rfl (by decide), ?_⟩
  refine List.forall_mem_cons.mpr ⟨s_iconst C (by decide +kernel : decode c_X10_dinners 63 = .ok (.iconst 0, 1)) rfl rfl (by decide), ?_⟩
  refine List.forall_mem_cons.mpr ⟨s_istore C (by decide +kernel : decode c_X10_dinners 64 = .ok (.istore 7, 2)) rfl rfl (by decide), ?_⟩
  refine List.forall_mem_cons.mpr ⟨s_iload C (by decide +kernel : decode c_X10_dinners 66 = .ok (.iload 7, 2)) rfl rfl, ?_⟩
  refine List.forall_mem_cons.mpr ⟨s_iload C (by decide +kernel : decode c_X10_dinners 68 = .ok (.iload 5, 2)) rfl rfl, ?_⟩
  refine List.forall_mem_cons.mpr ⟨s_icmpge C (by decide +kernel : decode c_X10_dinners 70 = .ok (.if_icmp .ge 95, 3)) (by decide) rfl rfl rfl, ?_⟩
  refine List.forall_mem_cons.mpr ⟨s_iload C (by decide +kernel : decode c_X10_dinners 73 = .ok (.iload 7, 2)) rfl rfl, ?_⟩
  refine List.forall_mem_cons.mpr ⟨s_istore C (by decide +kernel : decode c_X10_dinners 75 = .ok (.istore 8, 2)) rfl rfl (by decide), ?_⟩
  refine List.forall_mem_cons.mpr ⟨s_iload_n C (by decide +kernel : decode c_X10_dinners 77 = .ok (.iload_n 3, 1)) rfl rfl rfl, ?_⟩
  refine List.forall_mem_cons.mpr ⟨s_iconst C (by decide +kernel : decode c_X10_dinners 78 = .ok (.iconst 1, 1)) rfl rfl (by decide), ?_⟩
  refine List.forall_mem_cons.mpr ⟨s_isub C (by decide +kernel : decode c_X10_dinners 79 = .ok (.isub, 1)) rfl rfl, ?_⟩
  refine List.forall_mem_cons.mpr ⟨s_istore C (by decide +kernel : decode c_X10_dinners 80 = .ok (.istore 9, 2)) rfl rfl (by decide), ?_⟩
  refine List.forall_mem_cons.mpr ⟨s_iload C (by decide +kernel : decode c_X10_dinners 82 = .ok (.iload 9, 2)) rfl rfl, ?_⟩
  refine List.forall_mem_cons.mpr ⟨s_iflt C (by decide +kernel : decode c_X10_dinners 84 = .ok (.ifCond .lt 28, 3)) (by decide) rfl rfl rfl, ?_⟩
  refine List.forall_mem_cons.mpr ⟨s_aload_n C (by decide +kernel : decode c_X10_dinners 87 = .ok (.aload_n 0, 1)) rfl rfl rfl, ?_⟩
  refine List.forall_mem_cons.mpr ⟨s_getf C (by decide +kernel : decode c_X10_dinners 88 = .ok (.getfield 48, 3)) rfl rfl em_cl_X10 (by decide) ew713 rfl, ?_⟩
  refine List.forall_mem_cons.mpr ⟨s_iload C (by decide +kernel : decode c_X10_dinners 91 = .ok (.iload 9, 2)) rfl rfl, ?_⟩
  refine List.forall_mem_cons.mpr ⟨s_iload C (by decide +kernel : decode c_X10_dinners 93 = .ok (.iload 8, 2)) rfl rfl, ?_⟩
  refine List.forall_mem_cons.mpr ⟨s_bipush C (by decide +kernel : decode c_X10_dinners 95 = .ok (.bipush 13, 2)) rfl rfl (by decide), ?_⟩
  refine List.forall_mem_cons.mpr ⟨s_irem C (by decide +kernel : decode c_X10_dinners 97 = .ok (.irem, 1)) rfl rfl, ?_⟩
  refine List.forall_mem_cons.mpr ⟨s_iast C (by decide +kernel : decode c_X10_dinners 98 = .ok (.iastore, 1)) rfl rfl, ?_⟩
  refine List.forall_mem_cons.mpr ⟨s_iload C (by decide +kernel : decode c_X10_dinners 99 = .ok (.iload 8, 2)) rfl rfl, ?_⟩
  refine List.forall_mem_cons.mpr ⟨s_bipush C (by decide +kernel : decode c_X10_dinners 101 = .ok (.bipush 13, 2)) rfl rfl (by decide), ?_⟩
  refine List.forall_mem_cons.mpr ⟨s_idiv C (by decide +kernel : decode c_X10_dinners 103 = .ok (.idiv, 1)) rfl rfl, ?_⟩
  refine List.forall_mem_cons.mpr ⟨s_istore C (by decide +kernel : decode c_X10_dinners 104 = .ok (.istore 8, 2)) rfl rfl (by decide), ?_⟩
  refine List.forall_mem_cons.mpr ⟨s_iinc C (by decide +kernel : decode c_X10_dinners 106 = .ok (.iinc 9 (-1), 3)) rfl rfl (by decide) (by decide), ?_⟩
  refine List.forall_mem_cons.mpr ⟨s_goto C (by decide +kernel : decode c_X10_dinners 109 = .ok (.goto (-27), 3)) (by decide) rfl, ?_⟩
  refine List.forall_mem_cons.mpr ⟨s_aload_n C (by decide +kernel : decode c_X10_dinners 112 = .ok (.aload_n 0, 1)) rfl rfl rfl, ?_⟩
  refine List.forall_mem_cons.mpr ⟨s_iload_n C (by decide +kernel : decode c_X10_dinners 113 = .ok (.iload_n 1, 1)) rfl rfl rfl, ?_⟩
  refine List.forall_mem_cons.mpr ⟨s_iload_n C (by decide +kernel : decode c_X10_dinners 114 = .ok (.iload_n 2, 1)) rfl rfl rfl, ?_⟩
  refine List.forall_mem_cons.mpr ⟨s_iload_n C (by decide +kernel : decode c_X10_dinners 115 = .ok (.iload_n 3, 1)) rfl rfl rfl, ?_⟩
  refine List.forall_mem_cons.mpr ⟨s_callV C hFok hF (ct_X10_dines l D dA σ) ⟨rfl, rfl⟩ ew996 em_cl_X10 ew993 ew995 ewp37 ew6 ⟨by decide, by decide, by decide +kernel⟩ ⟨by decide, by decide⟩ (by decide +kernel : decode c_X10_dinners 116 = .ok (.invokevirtual 229, 3)) rfl rfl ⟨Nat.zero_le _, Nat.zero_le _⟩, ?_⟩
  refine List.forall_mem_cons.mpr ⟨s_ifeq C (by decide +kernel : decode c_X10_dinners 119 = .ok (.ifCond .eq 40, 3)) (by decide) rfl rfl rfl, ?_⟩
  refine List.forall_mem_cons.mpr ⟨s_iconst C (by decide +kernel : decode c_X10_dinners 122 = .ok (.iconst 0, 1)) rfl rfl (by decide), ?_⟩
  refine List.forall_mem_cons.mpr ⟨s_istore C (by decide +kernel : decode c_X10_dinners 123 = .ok (.istore 9, 2)) rfl rfl (by decide), ?_⟩
  refine List.forall_mem_cons.mpr ⟨s_iload C (by decide +kernel : decode c_X10_dinners 125 = .ok (.iload 9, 2)) rfl rfl, ?_⟩
  refine List.forall_mem_cons.mpr ⟨s_iload_n C (by decide +kernel : decode c_X10_dinners 127 = .ok (.iload_n 3, 1)) rfl rfl rfl, ?_⟩
  refine List.forall_mem_cons.mpr ⟨s_icmpge C (by decide +kernel : decode c_X10_dinners 128 = .ok (.if_icmp .ge 28, 3)) (by decide) rfl rfl rfl, ?_⟩
  refine List.forall_mem_cons.mpr ⟨s_iload C (by decide +kernel : decode c_X10_dinners 131 = .ok (.iload 6, 2)) rfl rfl, ?_⟩
  refine List.forall_mem_cons.mpr ⟨s_ifne C (by decide +kernel : decode c_X10_dinners 133 = .ok (.ifCond .ne 23, 3)) (by decide) rfl rfl rfl, ?_⟩
  refine List.forall_mem_cons.mpr ⟨s_aload_n C (by decide +kernel : decode c_X10_dinners 136 = .ok (.aload_n 0, 1)) rfl rfl rfl, ?_⟩
  refine List.forall_mem_cons.mpr ⟨s_getf C (by decide +kernel : decode c_X10_dinners 137 = .ok (.getfield 51, 3)) rfl rfl em_cl_X10 (by decide) ew714 rfl, ?_⟩
  refine List.forall_mem_cons.mpr ⟨s_iload C (by decide +kernel : decode c_X10_dinners 140 = .ok (.iload 9, 2)) rfl rfl, ?_⟩
  refine List.forall_mem_cons.mpr ⟨s_aload_n C (by decide +kernel : decode c_X10_dinners 142 = .ok (.aload_n 0, 1)) rfl rfl rfl, ?_⟩
  refine List.forall_mem_cons.mpr ⟨s_getf C (by decide +kernel : decode c_X10_dinners 143 = .ok (.getfield 48, 3)) rfl rfl em_cl_X10 (by decide) ew713 rfl, ?_⟩
  refine List.forall_mem_cons.mpr ⟨s_iload C (by decide +kernel : decode c_X10_dinners 146 = .ok (.iload 9, 2)) rfl rfl, ?_⟩
  refine List.forall_mem_cons.mpr ⟨s_iald C (by decide +kernel : decode c_X10_dinners 148 = .ok (.iaload, 1)) rfl rfl, ?_⟩
  refine List.forall_mem_cons.mpr ⟨s_iast C (by decide +kernel : decode c_X10_dinners 149 = .ok (.iastore, 1)) rfl rfl, ?_⟩
  refine List.forall_mem_cons.mpr ⟨s_iinc C (by decide +kernel : decode c_X10_dinners 150 = .ok (.iinc 9 1, 3)) rfl rfl (by decide) (by decide), ?_⟩
  refine List.forall_mem_cons.mpr ⟨s_goto C (by decide +kernel : decode c_X10_dinners 153 = .ok (.goto (-28), 3)) (by decide) rfl, ?_⟩
  refine List.forall_mem_cons.mpr ⟨s_iinc C (by decide +kernel : decode c_X10_dinners 156 = .ok (.iinc 6 1, 3)) rfl rfl (by decide) (by decide), ?_⟩
  refine List.forall_mem_cons.mpr ⟨s_iinc C (by decide +kernel : decode c_X10_dinners 159 = .ok (.iinc 7 1, 3)) rfl rfl (by decide) (by decide), ?_⟩
  refine List.forall_mem_cons.mpr ⟨s_goto C (by decide +kernel : decode c_X10_dinners 162 = .ok (.goto (-96), 3)) (by decide) rfl, ?_⟩
  refine List.forall_mem_cons.mpr ⟨s_iload C (by decide +kernel : decode c_X10_dinners 165 = .ok (.iload 4, 2)) rfl rfl, ?_⟩
  refine List.forall_mem_cons.mpr ⟨s_iconst C (by decide +kernel : decode c_X10_dinners 167 = .ok (.iconst (-1), 1)) rfl rfl (by decide), ?_⟩
  refine List.forall_mem_cons.mpr ⟨s_icmpne C (by decide +kernel : decode c_X10_dinners 168 = .ok (.if_icmp .ne 8, 3)) (by decide) rfl rfl rfl, ?_⟩
  refine List.forall_mem_cons.mpr ⟨s_iload C (by decide +kernel : decode c_X10_dinners 171 = .ok (.iload 6, 2)) rfl rfl, ?_⟩
  refine List.forall_mem_cons.mpr ⟨s_goto C (by decide +kernel : decode c_X10_dinners 173 = .ok (.goto 30, 3)) (by decide) rfl, ?_⟩
  refine List.forall_mem_cons.mpr ⟨s_iload C (by decide +kernel : decode c_X10_dinners 176 = .ok (.iload 6, 2)) rfl rfl, ?_⟩
  refine List.forall_mem_cons.mpr ⟨s_ifne C (by decide +kernel : decode c_X10_dinners 178 = .ok (.ifCond .ne 7, 3)) (by decide) rfl rfl rfl, ?_⟩
  refine List.forall_mem_cons.mpr ⟨s_iconst C (by decide +kernel : decode c_X10_dinners 181 = .ok (.iconst (-1), 1)) rfl rfl (by decide), ?_⟩
  refine List.forall_mem_cons.mpr ⟨s_goto C (by decide +kernel : decode c_X10_dinners 182 = .ok (.goto 21, 3)) (by decide) rfl, ?_⟩
  refine List.forall_mem_cons.mpr ⟨s_iload C (by decide +kernel : decode c_X10_dinners 185 = .ok (.iload 4, 2)) rfl rfl, ?_⟩
  refine List.forall_mem_cons.mpr ⟨s_iload_n C (by decide +kernel : decode c_X10_dinners 187 = .ok (.iload_n 3, 1)) rfl rfl rfl, ?_⟩
  refine List.forall_mem_cons.mpr ⟨s_icmpge C (by decide +kernel : decode c_X10_dinners 188 = .ok (.if_icmp .ge 13, 3)) (by decide) rfl rfl rfl, ?_⟩
  refine List.forall_mem_cons.mpr ⟨s_aload_n C (by decide +kernel : decode c_X10_dinners 191 = .ok (.aload_n 0, 1)) rfl rfl rfl, ?_⟩
  refine List.forall_mem_cons.mpr ⟨s_getf C (by decide +kernel : decode c_X10_dinners 192 = .ok (.getfield 51, 3)) rfl rfl em_cl_X10 (by decide) ew714 rfl, ?_⟩
  refine List.forall_mem_cons.mpr ⟨s_iload C (by decide +kernel : decode c_X10_dinners 195 = .ok (.iload 4, 2)) rfl rfl, ?_⟩
  refine List.forall_mem_cons.mpr ⟨s_iald C (by decide +kernel : decode c_X10_dinners 197 = .ok (.iaload, 1)) rfl rfl, ?_⟩
  refine List.forall_mem_cons.mpr ⟨s_goto C (by decide +kernel : decode c_X10_dinners 198 = .ok (.goto 5, 3)) (by decide) rfl, ?_⟩
  refine List.forall_mem_cons.mpr ⟨s_bipush C (by decide +kernel : decode c_X10_dinners 201 = .ok (.bipush (-5), 2)) rfl rfl (by decide), ?_⟩
  refine List.forall_mem_cons.mpr ⟨s_iret C (by decide +kernel : decode c_X10_dinners 203 = .ok (.ireturn, 1)) hret hlk ⟨Nat.le_refl 0, Nat.le_refl 0⟩, ?_⟩
  exact fun _ h => absurd h List.not_mem_nil
/-! feigned, seen -/
def lfN (B : Nat → Nat) (d s : Nat) : Bool := decide (B 6 ≤ cn (B 5) (d ^^^ s) ∧ cn (B 5) (d ^^^ s) ≤ B 7)
def fgM (B : Nat → Nat) (d : Nat) : Nat → Option Nat
  | 0 => none
  | s + 1 => match fgM B d s with
    | none => if lfN B d s = true then some s else none
    | some f => if (lfN B d s && decide (pcN s 10 < pcN f 10)) = true then some s else some f
theorem fgM_lt {B : Nat → Nat} {d : Nat} : ∀ s f, fgM B d s = some f → f < s
  | 0, f, h => by cases h
  | s + 1, f, h => by
    rw [fgM] at h
    cases hf : fgM B d s with
    | none =>
      rw [hf] at h
      by_cases hp : lfN B d s = true
      · have h : (if lfN B d s = true then some s else none) = some f := h
        rw [if_pos hp] at h
        have e : s = f := Option.some.inj h
        omega
      · have h : (if lfN B d s = true then some s else none) = some f := h
        rw [if_neg hp] at h
        cases h
    | some g =>
      rw [hf] at h
      have hg := fgM_lt s g hf
      by_cases hp : (lfN B d s && decide (pcN s 10 < pcN g 10)) = true
      · have h : (if (lfN B d s && decide (pcN s 10 < pcN g 10)) = true then some s else some g) = some f := h
        rw [if_pos hp] at h
        have e : s = f := Option.some.inj h
        omega
      · have h : (if (lfN B d s && decide (pcN s 10 < pcN g 10)) = true then some s else some g) = some f := h
        rw [if_neg hp] at h
        have e : g = f := Option.some.inj h
        omega
def sp_X10_feigned : em_Sp := fun av hp Q => ∃ B im kp asd rf qt ab be tx ty at9 st9 tk vl wd it mn so sb my we be9 rw fr a b, av = [.ref 0, .int a, .int b] ∧ hp = (wM (nB B) im kp asd rf qt ab be tx ty at9 st9 tk vl wd it mn so sb my we be9 rw fr) ∧ GK B ∧ (¬ h2 (nI (B 0)) a b → Q (some (.int (-2))) (wM (nB B) im kp asd (rfM qt rf 0) qt ab be tx ty at9 st9 tk vl wd it mn so sb my we be9 rw fr)) ∧ (∀ x y, a = nI x → b = nI y → x < B 0 → y < B 0 → x ≠ y → Q (some (.int (oI (fgM B (B (14 + x) ^^^ B (14 + y)) 1024)))) hp)
def T_X10_feigned : List (Nat × em_Op) := [(0, o_aload 0 1), (1, o_iload 1 2), (2, o_iload 2 3), (3, o_call 3 (some 5) (sp_X10_areTwo) 6), (6, o_ifne 14 9), (9, o_aload 0 10), (10, o_call 1 (some 5) (sp_X10_bad) 13), (13, o_iret), (14, o_aload 0 15), (15, o_getf 5 0 18), (18, o_iconst 14 20), (20, o_iload 1 21), (21, o_iadd 22), (22, o_aldI 0 23), (23, o_aload 0 24), (24, o_getf 5 0 27), (27, o_iconst 14 29), (29, o_iload 2 30), (30, o_iadd 31), (31, o_aldI 0 32), (32, o_ixor 33), (33, o_istore 3 34), (34, o_iconst (-1) 35), (35, o_istore 4 37), (37, o_iconst 0 38), (38, o_istore 5 40), (40, o_iload 5 42), (42, o_iconst 1024 45), (45, o_icmpge 117 48), (48, o_aload 0 49), (49, o_iload 3 50), (50, o_iload 5 52), (52, o_ixor 53), (53, o_call 2 (some 5) (sp_X10_counted) 56), (56, o_i2l 57), (57, o_aload 0 58), (58, o_getf 5 0 61), (61, o_iconst 6 63), (63, o_aldI 0 64), (64, o_i2l 65), (65, o_aload 0 66), (66, o_getf 5 0 69), (69, o_iconst 7 71), (71, o_aldI 0 72), (72, o_i2l 73), (73, o_call 3 none (sp_X10_in) 76), (76, o_istore 6 78), (78, o_iload 6 80), (80, o_ifeq 107 83), (83, o_iload 4 85), (85, o_iconst (-1) 86), (86, o_icmpeq 102 89), (89, o_iload 5 91), (91, o_call 1 none (sp_X10_bits) 94), (94, o_iload 4 96), (96, o_call 1 none (sp_X10_bits) 99), (99, o_icmpge 107 102), (102, o_iload 5 104), (104, o_goto 109), (107, o_iload 4 109), (109, o_istore 4 111), (111, o_iinc 5 1 114), (114, o_goto 40), (117, o_iload 4 119), (119, o_iret)]
theorem me_X10_feigned : em_Me T_X10_feigned 7 sp_X10_feigned := by
  intro Q K hK hle av hp hs
  obtain ⟨B, im, kp, asd, rf, qt, ab, be, tx, ty, at9, st9, tk, vl, wd, it, mn, so, sb, my, we, be9, rw, fr, a, b, rfl, rfl, hB, hbad, hq⟩ := hs
  have h0 := hB.1
  refine ⟨Nat.le_of_ble_eq_true rfl, hK 0 26 0 _ _ _ ?_⟩
  refine ⟨_, _, _, _, _, _, _, _, _, _, _, _, _, _, _, _, _, _, _, _, _, _, _, _, _, _, B 0, rfl, rfl, rfl, h0, fun z => ?_, fun z1 => ?_⟩
  · refine ⟨fun _ => ?_, fun y => absurd y (by decide)⟩
    obtain ⟨x, hx, rfl⟩ := nI_at rfl z.1
    obtain ⟨y, hy, rfl⟩ := nI_at rfl z.2.1
    have hxy : x ≠ y := fun q => z.2.2 (by rw [q])
    have hq := hq x y rfl rfl hx hy hxy
    have hd := xor_lt (hB.2.2.2.2.2.2.1 x (by omega)) (hB.2.2.2.2.2.2.1 y (by omega))
    have ed : nI (B (14 + x)) ^^^ nI (B (14 + y)) = nI (B (14 + x) ^^^ B (14 + y)) := nI_xor _ _
    generalize B (14 + x) ^^^ B (14 + y) = d at hd hq ed
    obtain ⟨V, hV⟩ : ∃ V, V = fgM B d 1024 := ⟨_, rfl⟩
    rw [← hV] at hq
    have loop : ∀ (r s : Nat) (x6 : Option Value), s + r = 1024 → K 40 [some (.ref 0), some (.int (nI x)), some (.int (nI y)), some (.int (nI d)), some (.int (oI (fgM B d s))), some (.int (nI s)), x6] [] (wM (nB B) im kp asd rf qt ab be tx ty at9 st9 tk vl wd it mn so sb my we be9 rw fr) := by
      intro r
      induction r with
      | zero =>
        intro s x6 hs
        have hs : s = 1024 := by omega
        subst hs
        rw [← hV]
        refine hK 26 9999 40 _ _ _ ?_
        exact ⟨fun _ => hq, fun z => absurd (nI_le (a := 1024) (b := 1024) (by omega) (by omega)) z⟩
      | succ r ih =>
        intro s x6 hs
        have nxt : ∀ v (x6 : Option Value), v = oI (fgM B d (s + 1)) → K 109 [some (.ref 0), some (.int (nI x)), some (.int (nI y)), some (.int (nI d)), some (.int (oI (fgM B d s))), some (.int (nI s)), x6] [.int v] (wM (nB B) im kp asd rf qt ab be tx ty at9 st9 tk vl wd it mn so sb my we be9 rw fr) := by
          intro v x6 hv
          subst hv
          have := ih (s + 1) x6 (by omega)
          rw [← nI_1 s] at this
          exact hK 60 3 109 _ _ _ this
        have hs9 : s < 1024 := by omega
        have hds := xor_lt hd hs9
        have hc := cn_le (w := B 5) (x := d ^^^ s)
        have h6 := hB.2.2.2.1
        have h7 := hB.2.2.2.2.1
        have el : inL (cntd (nI (B 5)) (nI d ^^^ nI s)).toInt64 (nI (B 6)).toInt64 (nI (B 7)).toInt64 ↔ lfN B d s = true := by
          rw [nI_xor, cntd_nI hds, inL_i, Int32.toInt_toInt64, Int32.toInt_toInt64, nI_toInt (by omega), nI_toInt (by omega), nI_toInt (by omega), lfN, decide_eq_true_eq]
          omega
        have hps := pcN_le s 10
        have no : lfN B d s = false → K 107 [some (.ref 0), some (.int (nI x)), some (.int (nI y)), some (.int (nI d)), some (.int (oI (fgM B d s))), some (.int (nI s)), some (.int 0)] [] (wM (nB B) im kp asd rf qt ab be tx ty at9 st9 tk vl wd it mn so sb my we be9 rw fr) := by
          intro h
          refine hK 59 1 107 _ _ _ (nxt _ _ ?_)
          rw [fgM, h]
          cases fgM B d s <;> rfl
        have yes : lfN B d s = true → K 83 [some (.ref 0), some (.int (nI x)), some (.int (nI y)), some (.int (nI d)), some (.int (oI (fgM B d s))), some (.int (nI s)), some (.int 1)] [] (wM (nB B) im kp asd rf qt ab be tx ty at9 st9 tk vl wd it mn so sb my we be9 rw fr) := by
          intro h
          refine hK 49 11 83 _ _ _ ?_
          refine ⟨fun z => ?_, fun z => ?_⟩
          · have z := (oI_m1 (fun f hf => by have := fgM_lt s f hf; omega)).mp z
            refine nxt _ _ ?_
            rw [fgM, z]
            show nI s = oI (if lfN B d s = true then some s else none)
            rw [if_pos h]; rfl
          · cases hf : fgM B d s with
            | none => rw [hf] at z; exact absurd rfl z
            | some f =>
              have hfl := fgM_lt s f hf
              have hpf := pcN_le f 10
              rw [hf] at nxt
              have e2 : fgM B d (s + 1) = if (lfN B d s && decide (pcN s 10 < pcN f 10)) = true then some s else some f := by rw [fgM, hf]
              rw [e2, h, Bool.true_and] at nxt
              refine ⟨_, rfl, nI f, rfl, ?_⟩
              rw [btr_nI (by omega) 10 (by omega), btr_nI (by omega) 10 (by omega)]
              refine ⟨fun y => ?_, fun y => ?_⟩
              · have y := (nI_leI (by omega) (by omega)).mp y
                exact nxt _ _ (by rw [decide_eq_false (by omega)]; rfl)
              · have y : pcN s 10 < pcN f 10 := by
                  rcases Nat.lt_or_ge (pcN s 10) (pcN f 10) with q | q
                  · exact q
                  · exact absurd (nI_le q (by omega)) y
                exact nxt _ _ (by rw [decide_eq_true y]; rfl)
        refine hK 26 23 40 _ _ _ ?_
        refine ⟨fun z => absurd z (nI_ge (a := s) (b := 1024) (by omega) (by omega)), fun _ => ?_⟩
        refine ⟨_, _, _, _, _, _, _, _, _, _, _, _, _, _, _, _, _, _, _, _, _, _, _, _, _, rfl, rfl, 6, rfl, by decide, 7, rfl, by decide, _, _, _, rfl, fun u => ?_, fun u => ?_⟩
        · have u := el.mp u
          exact ⟨fun z => absurd z (by decide), fun _ => yes u⟩
        · have u : lfN B d s = false := by
            cases hc : lfN B d s with
            | false => rfl
            | true => exact absurd (el.mpr hc) u
          exact ⟨fun _ => no u, fun z => absurd rfl z⟩
    have l0 := loop 1024 0 none (by omega)
    rw [← ed] at l0
    exact ⟨14 + x, nI_add 14 x, by omega, 14 + y, nI_add 14 y, by omega, hle _ _ _ _ _ (by repeat (first | exact trivial | refine ⟨rfl, ?_⟩)) l0⟩
  · exact ⟨fun y => absurd rfl y, fun _ => ⟨_, _, _, _, _, _, _, _, _, _, _, _, _, _, _, _, _, _, _, _, _, _, _, _, rfl, rfl, hbad z1⟩⟩
abbrev rm_X10_feigned : Room := { frames := 3, cells := 0, slots := 0, locals := 68 }
set_option maxRecDepth 100000 in
set_option maxHeartbeats 4000000 in
theorem ct_X10_feigned (l : Launch) (D : va_G) (dA : Nat → ClassId) (σ : Nat → Nat) : em_CT l D em_cl dA σ (em_F σ) y_X10_feigned c_X10_feigned 7 (Option.some ClassFile.FieldType.int) rm_X10_feigned (sp_X10_feigned ) := by
  refine em_CT_of (T := T_X10_feigned ) (em_F_ok σ) (by decide) (fun p e s m args below meth c A ρ Q C hFok hF hret hlk hin => ?_) (me_X10_feigned )
  unfold T_X10_feigned
  refine List.forall_mem_cons.mpr ⟨s_aload_n C (by decide +kernel : decode c_X10_feigned 0 = .ok (.aload_n 0, 1)) rfl rfl rfl, ?_⟩
  refine List.forall_mem_cons.mpr ⟨s_iload_n C (by decide +kernel : decode c_X10_feigned 1 = .ok (.iload_n 1, 1)) rfl rfl rfl, ?_⟩
  refine List.forall_mem_cons.mpr ⟨s_iload_n C (by decide +kernel : decode c_X10_feigned 2 = .ok (.iload_n 2, 1)) rfl rfl rfl, ?_⟩
  refine List.forall_mem_cons.mpr ⟨s_callV C hFok hF (ct_X10_areTwo l D dA σ) ⟨rfl, rfl⟩ ew820 em_cl_X10 ew817 ew819 ewp18 ew6 ⟨by decide, by decide, by decide +kernel⟩ ⟨by decide, by decide⟩ (by decide +kernel : decode c_X10_feigned 3 = .ok (.invokevirtual 96, 3)) rfl rfl ⟨Nat.zero_le _, Nat.zero_le _⟩, ?_⟩
  refine List.forall_mem_cons.mpr ⟨s_ifne C (by decide +kernel : decode c_X10_feigned 6 = .ok (.ifCond .ne 8, 3)) (by decide) rfl rfl rfl, ?_⟩
  refine List.forall_mem_cons.mpr ⟨s_aload_n C (by decide +kernel : decode c_X10_feigned 9 = .ok (.aload_n 0, 1)) rfl rfl rfl, ?_⟩
  refine List.forall_mem_cons.mpr ⟨s_callV C hFok hF (ct_X10_bad l D dA σ) ⟨rfl, rfl⟩ ew779 em_cl_X10 ew776 ew778 ewp13 ew6 ⟨by decide, by decide, by decide +kernel⟩ ⟨by decide, by decide⟩ (by decide +kernel : decode c_X10_feigned 10 = .ok (.invokevirtual 84, 3)) rfl rfl ⟨Nat.zero_le _, Nat.zero_le _⟩, ?_⟩
  refine List.forall_mem_cons.mpr ⟨s_iret C (by decide +kernel : decode c_X10_feigned 13 = .ok (.ireturn, 1)) hret hlk ⟨Nat.le_refl 0, Nat.le_refl 0⟩, ?_⟩
  refine List.forall_mem_cons.mpr ⟨s_aload_n C (by decide +kernel : decode c_X10_feigned 14 = .ok (.aload_n 0, 1)) rfl rfl rfl, ?_⟩
  refine List.forall_mem_cons.mpr ⟨s_getf C (by decide +kernel : decode c_X10_feigned 15 = .ok (.getfield 7, 3)) rfl rfl em_cl_X10 (by decide) ew691 rfl, ?_⟩
  refine List.forall_mem_cons.mpr ⟨s_bipush C (by decide +kernel : decode c_X10_feigned 18 = .ok (.bipush 14, 2)) rfl rfl (by decide), ?_⟩
  refine List.forall_mem_cons.mpr ⟨s_iload_n C (by decide +kernel : decode c_X10_feigned 20 = .ok (.iload_n 1, 1)) rfl rfl rfl, ?_⟩
  refine List.forall_mem_cons.mpr ⟨s_iadd C (by decide +kernel : decode c_X10_feigned 21 = .ok (.iadd, 1)) rfl rfl, ?_⟩
  refine List.forall_mem_cons.mpr ⟨s_iald C (by decide +kernel : decode c_X10_feigned 22 = .ok (.iaload, 1)) rfl rfl, ?_⟩
  refine List.forall_mem_cons.mpr ⟨s_aload_n C (by decide +kernel : decode c_X10_feigned 23 = .ok (.aload_n 0, 1)) rfl rfl rfl, ?_⟩
  refine List.forall_mem_cons.mpr ⟨s_getf C (by decide +kernel : decode c_X10_feigned 24 = .ok (.getfield 7, 3)) rfl rfl em_cl_X10 (by decide) ew691 rfl, ?_⟩
  refine List.forall_mem_cons.mpr ⟨s_bipush C (by decide +kernel : decode c_X10_feigned 27 = .ok (.bipush 14, 2)) rfl rfl (by decide), ?_⟩
  refine List.forall_mem_cons.mpr ⟨s_iload_n C (by decide +kernel : decode c_X10_feigned 29 = .ok (.iload_n 2, 1)) rfl rfl rfl, ?_⟩
  refine List.forall_mem_cons.mpr ⟨s_iadd C (by decide +kernel : decode c_X10_feigned 30 = .ok (.iadd, 1)) rfl rfl, ?_⟩
  refine List.forall_mem_cons.mpr ⟨s_iald C (by decide +kernel : decode c_X10_feigned 31 = .ok (.iaload, 1)) rfl rfl, ?_⟩
  refine List.forall_mem_cons.mpr ⟨s_ixor C (by decide +kernel : decode c_X10_feigned 32 = .ok (.ixor, 1)) rfl rfl, ?_⟩
  refine List.forall_mem_cons.mpr ⟨s_istore_n C (by decide +kernel : decode c_X10_feigned 33 = .ok (.istore_n 3, 1)) rfl rfl rfl (by decide), ?_⟩
  refine List.forall_mem_cons.mpr ⟨s_iconst C (by decide +kernel : decode c_X10_feigned 34 = .ok (.iconst (-1), 1)) rfl rfl (by decide), ?_⟩
  refine List.forall_mem_cons.mpr ⟨s_istore C (by decide +kernel : decode c_X10_feigned 35 = .ok (.istore 4, 2)) rfl rfl (by decide), ?_⟩
  refine List.forall_mem_cons.mpr ⟨s_iconst C (by decide +kernel : decode c_X10_feigned 37 = .ok (.iconst 0, 1)) rfl rfl (by decide), ?_⟩
  refine List.forall_mem_cons.mpr ⟨s_istore C (by decide +kernel : decode c_X10_feigned 38 = .ok (.istore 5, 2)) rfl rfl (by decide), ?_⟩
  refine List.forall_mem_cons.mpr ⟨s_iload C (by decide +kernel : decode c_X10_feigned 40 = .ok (.iload 5, 2)) rfl rfl, ?_⟩
  refine List.forall_mem_cons.mpr ⟨s_sipush C (by decide +kernel : decode c_X10_feigned 42 = .ok (.sipush 1024, 3)) rfl rfl (by decide), ?_⟩
  refine List.forall_mem_cons.mpr ⟨s_icmpge C (by decide +kernel : decode c_X10_feigned 45 = .ok (.if_icmp .ge 72, 3)) (by decide) rfl rfl rfl, ?_⟩
  refine List.forall_mem_cons.mpr ⟨s_aload_n C (by decide +kernel : decode c_X10_feigned 48 = .ok (.aload_n 0, 1)) rfl rfl rfl, ?_⟩
  refine List.forall_mem_cons.mpr ⟨s_iload_n C (by decide +kernel : decode c_X10_feigned 49 = .ok (.iload_n 3, 1)) rfl rfl rfl, ?_⟩
  refine List.forall_mem_cons.mpr ⟨s_iload C (by decide +kernel : decode c_X10_feigned 50 = .ok (.iload 5, 2)) rfl rfl, ?_⟩
  refine List.forall_mem_cons.mpr ⟨s_ixor C (by decide +kernel : decode c_X10_feigned 52 = .ok (.ixor, 1)) rfl rfl, ?_⟩
  refine List.forall_mem_cons.mpr ⟨s_callV C hFok hF (ct_X10_counted l D dA σ) ⟨rfl, rfl⟩ ew892 em_cl_X10 ew889 ew891 ewp25 ew6 ⟨by decide, by decide, by decide +kernel⟩ ⟨by decide, by decide⟩ (by decide +kernel : decode c_X10_feigned 53 = .ok (.invokevirtual 179, 3)) rfl rfl ⟨Nat.zero_le _, Nat.zero_le _⟩, ?_⟩
  refine List.forall_mem_cons.mpr ⟨s_i2l C (by decide +kernel : decode c_X10_feigned 56 = .ok (.i2l, 1)) rfl rfl, ?_⟩
  refine List.forall_mem_cons.mpr ⟨s_aload_n C (by decide +kernel : decode c_X10_feigned 57 = .ok (.aload_n 0, 1)) rfl rfl rfl, ?_⟩
  refine List.forall_mem_cons.mpr ⟨s_getf C (by decide +kernel : decode c_X10_feigned 58 = .ok (.getfield 7, 3)) rfl rfl em_cl_X10 (by decide) ew691 rfl, ?_⟩
  refine List.forall_mem_cons.mpr ⟨s_bipush C (by decide +kernel : decode c_X10_feigned 61 = .ok (.bipush 6, 2)) rfl rfl (by decide), ?_⟩
  refine List.forall_mem_cons.mpr ⟨s_iald C (by decide +kernel : decode c_X10_feigned 63 = .ok (.iaload, 1)) rfl rfl, ?_⟩
  refine List.forall_mem_cons.mpr ⟨s_i2l C (by decide +kernel : decode c_X10_feigned 64 = .ok (.i2l, 1)) rfl rfl, ?_⟩
  refine List.forall_mem_cons.mpr ⟨s_aload_n C (by decide +kernel : decode c_X10_feigned 65 = .ok (.aload_n 0, 1)) rfl rfl rfl, ?_⟩
  refine List.forall_mem_cons.mpr ⟨s_getf C (by decide +kernel : decode c_X10_feigned 66 = .ok (.getfield 7, 3)) rfl rfl em_cl_X10 (by decide) ew691 rfl, ?_⟩
  refine List.forall_mem_cons.mpr ⟨s_bipush C (by decide +kernel : decode c_X10_feigned 69 = .ok (.bipush 7, 2)) rfl rfl (by decide), ?_⟩
  refine List.forall_mem_cons.mpr ⟨s_iald C (by decide +kernel : decode c_X10_feigned 71 = .ok (.iaload, 1)) rfl rfl, ?_⟩
  refine List.forall_mem_cons.mpr ⟨s_i2l C (by decide +kernel : decode c_X10_feigned 72 = .ok (.i2l, 1)) rfl rfl, ?_⟩
  refine List.forall_mem_cons.mpr ⟨s_callS C hFok hF (ct_X10_in l D dA σ) ⟨rfl, rfl⟩ ew771 ew769 ew770 ew6 ⟨by decide, by decide, by decide +kernel⟩ ⟨by decide, by decide⟩ (by decide +kernel : decode c_X10_feigned 73 = .ok (.invokestatic 69, 3)) rfl rfl ⟨Nat.zero_le _, Nat.zero_le _⟩, ?_⟩
  refine List.forall_mem_cons.mpr ⟨s_istore C (by decide +kernel : decode c_X10_feigned 76 = .ok (.istore 6, 2)) rfl rfl (by decide), ?_⟩
  refine List.forall_mem_cons.mpr ⟨s_iload C (by decide +kernel : decode c_X10_feigned 78 = .ok (.iload 6, 2)) rfl rfl, ?_⟩
  refine List.forall_mem_cons.mpr ⟨s_ifeq C (by decide +kernel : decode c_X10_feigned 80 = .ok (.ifCond .eq 27, 3)) (by decide) rfl rfl rfl, ?_⟩
  refine List.forall_mem_cons.mpr ⟨s_iload C (by decide +kernel : decode c_X10_feigned 83 = .ok (.iload 4, 2)) rfl rfl, ?_⟩
  refine List.forall_mem_cons.mpr ⟨s_iconst C (by decide +kernel : decode c_X10_feigned 85 = .ok (.iconst (-1), 1)) rfl rfl (by decide), ?_⟩
  refine List.forall_mem_cons.mpr ⟨s_icmpeq C (by decide +kernel : decode c_X10_feigned 86 = .ok (.if_icmp .eq 16, 3)) (by decide) rfl rfl rfl, ?_⟩
  refine List.forall_mem_cons.mpr ⟨s_iload C (by decide +kernel : decode c_X10_feigned 89 = .ok (.iload 5, 2)) rfl rfl, ?_⟩
  refine List.forall_mem_cons.mpr ⟨s_callS C hFok hF (ct_X10_bits l D dA σ) ⟨rfl, rfl⟩ ew895 ew893 ew894 ew6 ⟨by decide, by decide, by decide +kernel⟩ ⟨by decide, by decide⟩ (by decide +kernel : decode c_X10_feigned 91 = .ok (.invokestatic 176, 3)) rfl rfl ⟨Nat.zero_le _, Nat.zero_le _⟩, ?_⟩
  refine List.forall_mem_cons.mpr ⟨s_iload C (by decide +kernel : decode c_X10_feigned 94 = .ok (.iload 4, 2)) rfl rfl, ?_⟩
  refine List.forall_mem_cons.mpr ⟨s_callS C hFok hF (ct_X10_bits l D dA σ) ⟨rfl, rfl⟩ ew895 ew893 ew894 ew6 ⟨by decide, by decide, by decide +kernel⟩ ⟨by decide, by decide⟩ (by decide +kernel : decode c_X10_feigned 96 = .ok (.invokestatic 176, 3)) rfl rfl ⟨Nat.zero_le _, Nat.zero_le _⟩, ?_⟩
  refine List.forall_mem_cons.mpr ⟨s_icmpge C (by decide +kernel : decode c_X10_feigned 99 = .ok (.if_icmp .ge 8, 3)) (by decide) rfl rfl rfl, ?_⟩
  refine List.forall_mem_cons.mpr ⟨s_iload C (by decide +kernel : decode c_X10_feigned 102 = .ok (.iload 5, 2)) rfl rfl, ?_⟩
  refine List.forall_mem_cons.mpr ⟨s_goto C (by decide +kernel : decode c_X10_feigned 104 = .ok (.goto 5, 3)) (by decide) rfl, ?_⟩
  refine List.forall_mem_cons.mpr ⟨s_iload C (by decide +kernel : decode c_X10_feigned 107 = .ok (.iload 4, 2)) rfl rfl, ?_⟩
  refine List.forall_mem_cons.mpr ⟨s_istore C (by decide +kernel : decode c_X10_feigned 109 = .ok (.istore 4, 2)) rfl rfl (by decide), ?_⟩
  refine List.forall_mem_cons.mpr ⟨s_iinc C (by decide +kernel : decode c_X10_feigned 111 = .ok (.iinc 5 1, 3)) rfl rfl (by decide) (by decide), ?_⟩
  refine List.forall_mem_cons.mpr ⟨s_goto C (by decide +kernel : decode c_X10_feigned 114 = .ok (.goto (-74), 3)) (by decide) rfl, ?_⟩
  refine List.forall_mem_cons.mpr ⟨s_iload C (by decide +kernel : decode c_X10_feigned 117 = .ok (.iload 4, 2)) rfl rfl, ?_⟩
  refine List.forall_mem_cons.mpr ⟨s_iret C (by decide +kernel : decode c_X10_feigned 119 = .ok (.ireturn, 1)) hret hlk ⟨Nat.le_refl 0, Nat.le_refl 0⟩, ?_⟩
  exact fun _ h => absurd h List.not_mem_nil
def sp_X10_seen : em_Sp := fun av hp Q => ∃ bk im kp asd rf qt ab be tx ty at9 st9 tk vl wd it mn so sb my we be9 rw fr p o n, av = [.ref 0, .int p, .int o] ∧ hp = (wM bk im kp asd rf qt ab be tx ty at9 st9 tk vl wd it mn so sb my we be9 rw fr) ∧ bk 0 = nI n ∧ n ≤ 6 ∧ (¬ (hs (nI n) p ∧ iss o) → Q (some (.int (-2))) (wM bk im kp asd (rfM qt rf 0) qt ab be tx ty at9 st9 tk vl wd it mn so sb my we be9 rw fr)) ∧ (∀ j, p = nI j → j < n → iss o → Q (some (.int (bk (20 + j)))) (wM (upd bk (20 + j) o) im kp asd rf qt ab be tx ty at9 st9 tk vl wd it mn so sb my we be9 rw fr))
def T_X10_seen : List (Nat × em_Op) := [(0, o_aload 0 1), (1, o_iload 1 2), (2, o_call 2 (some 5) (sp_X10_isPerson) 5), (5, o_ifeq 27 8), (8, o_iload 2 9), (9, o_call 1 none (sp_X10_isSet) 12), (12, o_ifeq 27 15), (15, o_aload 0 16), (16, o_iconst 20 18), (18, o_iload 1 19), (19, o_iadd 20), (20, o_iload 2 21), (21, o_call 3 (some 5) (sp_X10_puts) 24), (24, o_goto 31), (27, o_aload 0 28), (28, o_call 1 (some 5) (sp_X10_bad) 31), (31, o_iret)]
theorem me_X10_seen : em_Me T_X10_seen 3 sp_X10_seen := by
  intro Q K hK hle av hp hs
  obtain ⟨bk, im, kp, asd, rf, qt, ab, be, tx, ty, at9, st9, tk, vl, wd, it, mn, so, sb, my, we, be9, rw, fr, p, o, n, rfl, rfl, hb, hn, hbad, hq⟩ := hs
  refine ⟨Nat.le_of_ble_eq_true rfl, hK 0 9999 0 _ _ _ ?_⟩
  refine ⟨_, _, _, _, _, _, _, _, _, _, _, _, _, _, _, _, _, _, _, _, _, _, _, _, _, n, rfl, rfl, hb, hn, fun z1 => ?_, fun z1 => ?_⟩
  · refine ⟨fun z => absurd z (by decide), fun _ => ?_⟩
    refine ⟨_, rfl, fun z2 => ?_, fun z2 => ?_⟩
    · refine ⟨fun z => absurd z (by decide), fun _ => ?_⟩
      obtain ⟨j, hj, rfl⟩ := nI_at rfl z1
      exact ⟨_, _, _, _, _, _, _, _, _, _, _, _, _, _, _, _, _, _, _, _, _, _, _, _, 20 + j, _, by rw [← nI_add]; rfl, rfl, by omega, hq j rfl hj z2⟩
    · exact ⟨fun _ => ⟨_, _, _, _, _, _, _, _, _, _, _, _, _, _, _, _, _, _, _, _, _, _, _, _, rfl, rfl, hbad (fun q => z2 q.2)⟩, fun z => absurd rfl z⟩
  · exact ⟨fun _ => ⟨_, _, _, _, _, _, _, _, _, _, _, _, _, _, _, _, _, _, _, _, _, _, _, _, rfl, rfl, hbad (fun q => z1 q.1)⟩, fun z => absurd rfl z⟩
abbrev rm_X10_seen : Room := { frames := 2, cells := 0, slots := 0, locals := 46 }
set_option maxRecDepth 100000 in
set_option maxHeartbeats 4000000 in
theorem ct_X10_seen (l : Launch) (D : va_G) (dA : Nat → ClassId) (σ : Nat → Nat) : em_CT l D em_cl dA σ (em_F σ) y_X10_seen c_X10_seen 3 (Option.some ClassFile.FieldType.int) rm_X10_seen (sp_X10_seen ) := by
  refine em_CT_of (T := T_X10_seen ) (em_F_ok σ) (by decide) (fun p e s m args below meth c A ρ Q C hFok hF hret hlk hin => ?_) (me_X10_seen )
  unfold T_X10_seen
  refine List.forall_mem_cons.mpr ⟨s_aload_n C (by decide +kernel : decode c_X10_seen 0 = .ok (.aload_n 0, 1)) rfl rfl rfl, ?_⟩
  refine List.forall_mem_cons.mpr ⟨s_iload_n C (by decide +kernel : decode c_X10_seen 1 = .ok (.iload_n 1, 1)) rfl rfl rfl, ?_⟩
  refine List.forall_mem_cons.mpr ⟨s_callV C hFok hF (ct_X10_isPerson l D dA σ) ⟨rfl, rfl⟩ ew795 em_cl_X10 ew792 ew794 ewp16 ew6 ⟨by decide, by decide, by decide +kernel⟩ ⟨by decide, by decide⟩ (by decide +kernel : decode c_X10_seen 2 = .ok (.invokevirtual 73, 3)) rfl rfl ⟨Nat.zero_le _, Nat.zero_le _⟩, ?_⟩
  refine List.forall_mem_cons.mpr ⟨s_ifeq C (by decide +kernel : decode c_X10_seen 5 = .ok (.ifCond .eq 22, 3)) (by decide) rfl rfl rfl, ?_⟩
  refine List.forall_mem_cons.mpr ⟨s_iload_n C (by decide +kernel : decode c_X10_seen 8 = .ok (.iload_n 2, 1)) rfl rfl rfl, ?_⟩
  refine List.forall_mem_cons.mpr ⟨s_callS C hFok hF (ct_X10_isSet l D dA σ) ⟨rfl, rfl⟩ ew774 ew772 ew773 ew6 ⟨by decide, by decide, by decide +kernel⟩ ⟨by decide, by decide⟩ (by decide +kernel : decode c_X10_seen 9 = .ok (.invokestatic 81, 3)) rfl rfl ⟨Nat.zero_le _, Nat.zero_le _⟩, ?_⟩
  refine List.forall_mem_cons.mpr ⟨s_ifeq C (by decide +kernel : decode c_X10_seen 12 = .ok (.ifCond .eq 15, 3)) (by decide) rfl rfl rfl, ?_⟩
  refine List.forall_mem_cons.mpr ⟨s_aload_n C (by decide +kernel : decode c_X10_seen 15 = .ok (.aload_n 0, 1)) rfl rfl rfl, ?_⟩
  refine List.forall_mem_cons.mpr ⟨s_bipush C (by decide +kernel : decode c_X10_seen 16 = .ok (.bipush 20, 2)) rfl rfl (by decide), ?_⟩
  refine List.forall_mem_cons.mpr ⟨s_iload_n C (by decide +kernel : decode c_X10_seen 18 = .ok (.iload_n 1, 1)) rfl rfl rfl, ?_⟩
  refine List.forall_mem_cons.mpr ⟨s_iadd C (by decide +kernel : decode c_X10_seen 19 = .ok (.iadd, 1)) rfl rfl, ?_⟩
  refine List.forall_mem_cons.mpr ⟨s_iload_n C (by decide +kernel : decode c_X10_seen 20 = .ok (.iload_n 2, 1)) rfl rfl rfl, ?_⟩
  refine List.forall_mem_cons.mpr ⟨s_callV C hFok hF (ct_X10_puts l D dA σ) ⟨rfl, rfl⟩ ew799 em_cl_X10 ew796 ew798 ewp17 ew6 ⟨by decide, by decide, by decide +kernel⟩ ⟨by decide, by decide⟩ (by decide +kernel : decode c_X10_seen 21 = .ok (.invokevirtual 91, 3)) rfl rfl ⟨Nat.zero_le _, Nat.zero_le _⟩, ?_⟩
  refine List.forall_mem_cons.mpr ⟨s_goto C (by decide +kernel : decode c_X10_seen 24 = .ok (.goto 7, 3)) (by decide) rfl, ?_⟩
  refine List.forall_mem_cons.mpr ⟨s_aload_n C (by decide +kernel : decode c_X10_seen 27 = .ok (.aload_n 0, 1)) rfl rfl rfl, ?_⟩
  refine List.forall_mem_cons.mpr ⟨s_callV C hFok hF (ct_X10_bad l D dA σ) ⟨rfl, rfl⟩ ew779 em_cl_X10 ew776 ew778 ewp13 ew6 ⟨by decide, by decide, by decide +kernel⟩ ⟨by decide, by decide⟩ (by decide +kernel : decode c_X10_seen 28 = .ok (.invokevirtual 84, 3)) rfl rfl ⟨Nat.zero_le _, Nat.zero_le _⟩, ?_⟩
  refine List.forall_mem_cons.mpr ⟨s_iret C (by decide +kernel : decode c_X10_seen 31 = .ok (.ireturn, 1)) hret hlk ⟨Nat.le_refl 0, Nat.le_refl 0⟩, ?_⟩
  exact fun _ h => absurd h List.not_mem_nil
