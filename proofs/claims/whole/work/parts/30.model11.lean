/-! ===== swayed, seats ===== -/
def sjI (P : Nat → Nat → Bool) (a : Nat) (s : Nat × Option Nat) : Nat → Nat × Option Nat
  | 0 => s
  | k + 1 => if P a (a + 1 + k) = true then ((sjI P a s k).1 + 1, match (sjI P a s k).2 with | none => some (10 * a + (a + 1 + k)) | some x => some x) else sjI P a s k
def sjO (P : Nat → Nat → Bool) (n : Nat) : Nat → Nat × Option Nat
  | 0 => (0, none)
  | a + 1 => sjI P a (sjO P n a) (n - (a + 1))
theorem sjI_sw {P : Nat → Nat → Bool} {a : Nat} {s : Nat × Option Nat} (h : s.1 = 0 ↔ s.2 = none) : ∀ k, sjI P a s k = swI P a s k ∧ ((sjI P a s k).1 = 0 ↔ (sjI P a s k).2 = none)
  | 0 => ⟨rfl, h⟩
  | k + 1 => by
    obtain ⟨e, i⟩ := sjI_sw h k
    rw [sjI, swI, ← e]
    by_cases hp : P a (a + 1 + k) = true
    · rw [if_pos hp, if_pos hp]
      cases hf : (sjI P a s k).2 with
      | none =>
        rw [if_pos (i.mpr hf)]
        exact ⟨rfl, ⟨fun q => absurd q (Nat.succ_ne_zero _), fun q => by cases q⟩⟩
      | some x =>
        rw [if_neg (fun q => by rw [i.mp q] at hf; cases hf)]
        exact ⟨rfl, ⟨fun q => absurd q (Nat.succ_ne_zero _), fun q => by cases q⟩⟩
    · rw [if_neg hp, if_neg hp]
      exact ⟨rfl, i⟩
theorem sjO_sw {P : Nat → Nat → Bool} {n : Nat} : ∀ a, sjO P n a = swO P n a ∧ ((sjO P n a).1 = 0 ↔ (sjO P n a).2 = none)
  | 0 => ⟨rfl, ⟨fun _ => rfl, fun _ => rfl⟩⟩
  | a + 1 => by
    obtain ⟨e, i⟩ := sjO_sw (P := P) (n := n) a
    obtain ⟨e2, i2⟩ := sjI_sw (P := P) (a := a) i (n - (a + 1))
    rw [sjO, swO, ← e]
    exact ⟨e2, i2⟩
theorem sjI_lt {P : Nat → Nat → Bool} {a : Nat} {s : Nat × Option Nat} {N : Nat} (h : ∀ x, s.2 = some x → x < 100) (ha : a < 6) (hN : a + 1 + N ≤ 6) : ∀ k, k ≤ N → ∀ x, (sjI P a s k).2 = some x → x < 100
  | 0, _, x, hx => h x hx
  | k + 1, hk, x, hx => by
    have ih := sjI_lt (P := P) h ha hN k (by omega)
    rw [sjI] at hx
    by_cases hp : P a (a + 1 + k) = true
    · rw [if_pos hp] at hx
      cases hf : (sjI P a s k).2 with
      | none =>
        rw [hf] at hx
        have e : 10 * a + (a + 1 + k) = x := Option.some.inj hx
        omega
      | some y =>
        rw [hf] at hx
        have e : y = x := Option.some.inj hx
        rw [← e]; exact ih y hf
    · rw [if_neg hp] at hx
      exact ih x hx
theorem sjO_lt {P : Nat → Nat → Bool} {n : Nat} (hn : n ≤ 6) : ∀ a, a ≤ n → ∀ x, (sjO P n a).2 = some x → x < 100
  | 0, _, x, hx => by cases hx
  | a + 1, ha, x, hx => by
    rw [sjO] at hx
    exact sjI_lt (N := n - (a + 1)) (sjO_lt hn a (by omega)) (by omega) (by omega) _ (Nat.le_refl _) x hx
def jsR (B T : Nat → Nat) : Nat → Bool
  | 0 => true
  | p + 1 => jsR B T p && decide (T p = B (20 + p))
def syP (B : Nat → Nat) (a b : Nat) : Bool := jsR B (tlN B (nw B) a b) (B 0)
def sp_X10_swayed : em_Sp := fun av hp Q => ∃ B im kp asd rf qt ab be tx ty at9 st9 tk vl wd it mn S sb my we be9 rw fr k, av = [.ref 0, .int k] ∧ hp = (wM (nB B) im kp asd rf qt ab be tx ty at9 st9 tk vl wd it mn (nB S) sb my we be9 rw fr) ∧ GK B ∧ Z6 S ∧ (∀ p, p < 6 → B (20 + p) < 1024) ∧ (¬ k = 0 → ¬ k = 1 → Q (some (.int (-10))) (wM (nB B) im kp asd (rfM qt rf 0) qt ab be tx ty at9 st9 tk vl wd it mn (nB S) sb my we be9 rw fr)) ∧ (∀ S', Z6 S' → k = 0 → Q (some (.int (nI (swO (syP B) (B 0) (B 0)).1))) (wM (nB B) im kp asd rf qt ab be tx ty at9 st9 tk vl wd it mn (nB S') sb my we be9 rw fr)) ∧ (∀ S', Z6 S' → k = 1 → Q (some (.int (oI (swO (syP B) (B 0) (B 0)).2))) (wM (nB B) im kp asd rf qt ab be tx ty at9 st9 tk vl wd it mn (nB S') sb my we be9 rw fr))
def T_X10_swayed : List (Nat × em_Op) := [(0, o_iload 1 1), (1, o_i2l 2), (2, o_lconst 0 3), (3, o_lconst 1 4), (4, o_call 3 none (sp_X10_in) 7), (7, o_ifne 18 10), (10, o_aload 0 11), (11, o_iconst 0 12), (12, o_iconst (-10) 14), (14, o_call 3 (some 5) (sp_X10_refuses) 17), (17, o_iret), (18, o_iconst 0 19), (19, o_istore 2 20), (20, o_iconst (-1) 21), (21, o_istore 3 22), (22, o_iconst 0 23), (23, o_istore 4 25), (25, o_iload 4 27), (27, o_aload 0 28), (28, o_getf 5 0 31), (31, o_iconst 0 32), (32, o_aldI 0 33), (33, o_icmpge 168 36), (36, o_iload 4 38), (38, o_iconst 1 39), (39, o_iadd 40), (40, o_istore 5 42), (42, o_iload 5 44), (44, o_aload 0 45), (45, o_getf 5 0 48), (48, o_iconst 0 49), (49, o_aldI 0 50), (50, o_icmpge 162 53), (53, o_aload 0 54), (54, o_call 1 (some 5) (sp_X10_asNow) 57), (57, o_aload 0 58), (58, o_iload 4 60), (60, o_iload 5 62), (62, o_call 3 (some 5) (sp_X10_talks) 65), (65, o_iconst 1 66), (66, o_istore 6 68), (68, o_iconst 0 69), (69, o_istore 7 71), (71, o_iload 7 73), (73, o_aload 0 74), (74, o_getf 5 0 77), (77, o_iconst 0 78), (78, o_aldI 0 79), (79, o_icmpge 120 82), (82, o_iload 6 84), (84, o_ifeq 111 87), (87, o_aload 0 88), (88, o_getf 5 17 91), (91, o_iload 7 93), (93, o_aldI 0 94), (94, o_aload 0 95), (95, o_getf 5 0 98), (98, o_iconst 20 100), (100, o_iload 7 102), (102, o_iadd 103), (103, o_aldI 0 104), (104, o_icmpne 111 107), (107, o_iconst 1 108), (108, o_goto 112), (111, o_iconst 0 112), (112, o_istore 6 114), (114, o_iinc 7 1 117), (117, o_goto 71), (120, o_iload 2 121), (121, o_iload 6 123), (123, o_ifeq 130 126), (126, o_iconst 1 127), (127, o_goto 131), (130, o_iconst 0 131), (131, o_iadd 132), (132, o_istore 2 133), (133, o_iload 6 135), (135, o_ifeq 154 138), (138, o_iload 3 139), (139, o_iconst (-1) 140), (140, o_icmpne 154 143), (143, o_iconst 10 145), (145, o_iload 4 147), (147, o_imul 148), (148, o_iload 5 150), (150, o_iadd 151), (151, o_goto 155), (154, o_iload 3 155), (155, o_istore 3 156), (156, o_iinc 5 1 159), (159, o_goto 42), (162, o_iinc 4 1 165), (165, o_goto 25), (168, o_iload 1 169), (169, o_ifne 176 172), (172, o_iload 2 173), (173, o_goto 177), (176, o_iload 3 177), (177, o_iret)]
theorem me_X10_swayed : em_Me T_X10_swayed 8 sp_X10_swayed := by
  intro Q K hK hle av hp hs
  obtain ⟨B, im, kp, asd, rf, qt, ab, be, tx, ty, at9, st9, tk, vl, wd, it, mn, S, sb, my, we, be9, rw, fr, k, rfl, rfl, hB, hz, h20, hbad, hq0, hq1⟩ := hs
  have h0 := hB.1
  refine ⟨Nat.le_of_ble_eq_true rfl, hK 0 17 0 _ _ _ ?_⟩
  refine ⟨_, _, _, rfl, fun z1 => ?_, fun z1 => ?_⟩
  · refine ⟨fun _ => ?_, fun y => absurd y (by decide)⟩
    have hk := in_01.mp z1
    generalize hP : syP B = P at hq0 hq1
    rw [← (sjO_sw (P := P) (n := B 0) (B 0)).1] at hq0 hq1
    have outer : ∀ (r a : Nat) (S2 : Nat → Nat), a + r = B 0 → Z6 S2 → K 25 [some (.ref 0), some (.int k), some (.int (nI (sjO P (B 0) a).1)), some (.int (oI (sjO P (B 0) a).2)), some (.int (nI a)), none, none, none] [] (wM (nB B) im kp asd rf qt ab be tx ty at9 st9 tk vl wd it mn (nB S2) sb my we be9 rw fr) := by
      intro r
      induction r with
      | zero =>
        intro a S2 ha hS2
        have ha : a = B 0 := by omega
        subst ha
        refine hK 17 9999 25 _ _ _ ?_
        refine ⟨0, rfl, by decide, fun _ => ⟨fun z => ?_, fun z => ?_⟩, fun y => absurd (nI_le (Nat.le_refl (B 0)) (by omega)) y⟩
        · rcases hk with q | q
          · exact absurd q z
          · exact hq1 S2 hS2 q
        · exact hq0 S2 hS2 z
      | succ r ih =>
        intro a S2 ha hS2
        have hnx : ∀ S3, Z6 S3 → K 25 [some (.ref 0), some (.int k), some (.int (nI (sjI P a (sjO P (B 0) a) (B 0 - (a + 1))).1)), some (.int (oI (sjI P a (sjO P (B 0) a) (B 0 - (a + 1))).2)), some (.int (nI a + 1)), none, none, none] [] (wM (nB B) im kp asd rf qt ab be tx ty at9 st9 tk vl wd it mn (nB S3) sb my we be9 rw fr) := by
          intro S3 h3
          have := ih (a + 1) S3 (by omega) h3
          rw [sjO, ← nI_1 a] at this
          exact this
        have hsl := sjO_lt (P := P) (n := B 0) h0 a (by omega)
        generalize sjO P (B 0) a = s at hnx hsl
        have inner : ∀ (w j : Nat) (S3 : Nat → Nat), a + 1 + j + w = B 0 → Z6 S3 → K 42 [some (.ref 0), some (.int k), some (.int (nI (sjI P a s j).1)), some (.int (oI (sjI P a s j).2)), some (.int (nI a)), some (.int (nI (a + 1 + j))), none, none] [] (wM (nB B) im kp asd rf qt ab be tx ty at9 st9 tk vl wd it mn (nB S3) sb my we be9 rw fr) := by
          intro w
          induction w with
          | zero =>
            intro j S3 hj h3
            have hj : j = B 0 - (a + 1) := by omega
            subst hj
            refine hK 27 66 42 _ _ _ ?_
            exact ⟨0, rfl, by decide, fun _ => hle _ _ _ _ _ (by repeat (first | exact trivial | refine ⟨rfl, ?_⟩)) (hnx S3 h3), fun y => absurd (show nI (B 0) ≤ nI (a + 1 + (B 0 - (a + 1))) from nI_le (by omega) (by omega)) y⟩
          | succ w ihw =>
            intro j S3 hj h3
            have hlt := sjI_lt (P := P) (a := a) (s := s) (N := B 0 - (a + 1)) hsl (by omega) (by omega) j (by omega)
            have hT := tlN_ok (B := B) (S := nw B) (i := a) (j := a + 1 + j) (by omega) (by omega) (nw_ok hB)
            have hTZ := tlN_Z (B := B) (S := nw B) (i := a) (j := a + 1 + j) (by omega) (by omega) (nw_Z B)
            have et := tlk_nB (B := B) (S := nw B) (i := a) (j := a + 1 + j) (by omega) (by omega) (nw_ok hB) hB.2.2.2.2.2.1
            have eP : P a (a + 1 + j) = jsR B (tlN B (nw B) a (a + 1 + j)) (B 0) := by rw [← hP]; rfl
            generalize tlN B (nw B) a (a + 1 + j) = T at hT hTZ et eP
            have nx : ∀ v, v = oI (sjI P a s (j + 1)).2 → K 155 [some (.ref 0), some (.int k), some (.int (nI (sjI P a s (j + 1)).1)), some (.int (oI (sjI P a s j).2)), some (.int (nI a)), some (.int (nI (a + 1 + j))), some (.int (b1 (P a (a + 1 + j)))), some (.int (nI (B 0)))] [.int v] (wM (nB B) im kp asd rf qt ab be tx ty at9 st9 tk vl wd it mn (nB T) sb my we be9 rw fr) := by
              intro v hv
              subst hv
              have := ihw (j + 1) T (by omega) hTZ
              rw [show a + 1 + (j + 1) = (a + 1 + j) + 1 by omega, ← nI_1 (a + 1 + j)] at this
              exact hK 88 3 155 _ _ _ (hle _ _ _ _ _ (by repeat (first | exact trivial | refine ⟨rfl, ?_⟩)) this)
            have nx2 : ∀ v, nI (sjI P a s j).1 + v = nI (sjI P a s (j + 1)).1 → K 131 [some (.ref 0), some (.int k), some (.int (nI (sjI P a s j).1)), some (.int (oI (sjI P a s j).2)), some (.int (nI a)), some (.int (nI (a + 1 + j))), some (.int (b1 (P a (a + 1 + j)))), some (.int (nI (B 0)))] [.int v, .int (nI (sjI P a s j).1)] (wM (nB B) im kp asd rf qt ab be tx ty at9 st9 tk vl wd it mn (nB T) sb my we be9 rw fr) := by
              intro v hv
              rw [← hv] at nx
              refine hK 74 14 131 _ _ _ ?_
              refine ⟨fun z => ?_, fun z => ?_⟩
              · have z := b1_0.mp z
                exact nx _ (by rw [sjI, z]; rfl)
              · have zt : P a (a + 1 + j) = true := by
                  cases hc : P a (a + 1 + j) with
                  | true => rfl
                  | false => exact absurd (b1_0.mpr hc) z
                refine ⟨fun y => ?_, fun y => ?_⟩
                · refine nx _ ?_
                  rw [sjI, if_pos zt]
                  cases hf : (sjI P a s j).2 with
                  | none => rw [hf] at y; exact absurd rfl y
                  | some x => rfl
                · have y := (oI_m1 (fun d hd => by have := hlt d hd; omega)).mp y
                  refine nx _ ?_
                  rw [sjI, if_pos zt, y]
                  show (10 : Int32) * nI a + nI (a + 1 + j) = nI (10 * a + (a + 1 + j))
                  rw [show (10 : Int32) = nI 10 from rfl, pk_mul, nI_add]
            have fin : K 120 [some (.ref 0), some (.int k), some (.int (nI (sjI P a s j).1)), some (.int (oI (sjI P a s j).2)), some (.int (nI a)), some (.int (nI (a + 1 + j))), some (.int (b1 (jsR B T (B 0)))), some (.int (nI (B 0)))] [] (wM (nB B) im kp asd rf qt ab be tx ty at9 st9 tk vl wd it mn (nB T) sb my we be9 rw fr) := by
              rw [← eP]
              refine hK 68 6 120 _ _ _ ?_
              refine ⟨fun z => ?_, fun z => ?_⟩
              · have z := b1_0.mp z
                exact nx2 _ (by rw [sjI, z]; exact Int32.add_zero _)
              · have zt : P a (a + 1 + j) = true := by
                  cases hc : P a (a + 1 + j) with
                  | true => rfl
                  | false => exact absurd (b1_0.mpr hc) z
                exact nx2 _ (by rw [sjI, if_pos zt]; exact nI_1 _)
            have just : ∀ (u p : Nat), p + u = B 0 → K 71 [some (.ref 0), some (.int k), some (.int (nI (sjI P a s j).1)), some (.int (oI (sjI P a s j).2)), some (.int (nI a)), some (.int (nI (a + 1 + j))), some (.int (b1 (jsR B T p))), some (.int (nI p))] [] (wM (nB B) im kp asd rf qt ab be tx ty at9 st9 tk vl wd it mn (nB T) sb my we be9 rw fr) := by
              intro u
              induction u with
              | zero =>
                intro p hp
                have hp : p = B 0 := by omega
                subst hp
                refine hK 43 25 71 _ _ _ ?_
                exact ⟨0, rfl, by decide, fun _ => fin, fun y => absurd (nI_le (Nat.le_refl (B 0)) (by omega)) y⟩
              | succ u ihu =>
                intro p hp
                have next : ∀ v, v = b1 (jsR B T (p + 1)) → K 112 [some (.ref 0), some (.int k), some (.int (nI (sjI P a s j).1)), some (.int (oI (sjI P a s j).2)), some (.int (nI a)), some (.int (nI (a + 1 + j))), some (.int (b1 (jsR B T p))), some (.int (nI p))] [.int v] (wM (nB B) im kp asd rf qt ab be tx ty at9 st9 tk vl wd it mn (nB T) sb my we be9 rw fr) := by
                  intro v hv
                  subst hv
                  have := ihu (p + 1) (by omega)
                  rw [← nI_1 p] at this
                  exact hK 65 3 112 _ _ _ this
                refine hK 43 22 71 _ _ _ ?_
                refine ⟨0, rfl, by decide, fun z => absurd z (by show ¬ nI (B 0) ≤ nI p; exact nI_ge (by omega) (by omega)), fun _ => ⟨fun z => ?_, fun z => ?_⟩⟩
                · have z := b1_0.mp z
                  exact next _ (by rw [jsR, z]; rfl)
                · have zt : jsR B T p = true := by
                    cases hc : jsR B T p with
                    | true => rfl
                    | false => exact absurd (b1_0.mpr hc) z
                  refine ⟨p, rfl, by omega, 20 + p, nI_add 20 p, by omega, fun y => ?_, fun y => ?_⟩
                  · have y : ¬ T p = B (20 + p) := fun q => y (by show nI (T p) = nI (B (20 + p)); rw [q])
                    exact next _ (by rw [jsR, decide_eq_false y, Bool.and_false]; rfl)
                  · have h1 := hT p (by omega)
                    have h2 := h20 p (by omega)
                    have y : T p = B (20 + p) := (nI_eq (by omega) (by omega)).mp y
                    exact next _ (by rw [jsR, decide_eq_true y, zt]; rfl)
            have j0 := just (B 0) 0 (by omega)
            refine hK 27 16 42 _ _ _ ?_
            refine ⟨0, rfl, by decide, fun z => absurd z (by show ¬ nI (B 0) ≤ nI (a + 1 + j); exact nI_ge (by omega) (by omega)), fun _ => ?_⟩
            refine ⟨_, _, _, _, _, _, _, _, _, _, _, _, _, _, _, _, _, _, _, _, _, _, _, _, rfl, rfl, fun so' h1 h2 => ?_⟩
            have e := nw_eq h3 h1 h2
            subst e
            refine ⟨_, _, _, _, _, _, _, _, _, _, _, _, _, _, _, _, _, _, _, _, _, _, _, _, a, a + 1 + j, B 5, nw B a, nw B (a + 1 + j), rfl, rfl, by omega, by omega, rfl, rfl, rfl, nw_ok hB a (by omega), nw_ok hB _ (by omega), ?_⟩
            rw [et]
            exact hle _ _ _ _ _ (by repeat (first | exact trivial | refine ⟨rfl, ?_⟩)) j0
        have i0 := inner (B 0 - (a + 1)) 0 S2 (by omega) hS2
        rw [Nat.add_zero, ← nI_1 a] at i0
        refine hK 17 10 25 _ _ _ ?_
        refine ⟨0, rfl, by decide, fun z => absurd z (by show ¬ nI (B 0) ≤ nI a; exact nI_ge (by omega) (by omega)), fun _ => ?_⟩
        exact hle _ _ _ _ _ (by repeat (first | exact trivial | refine ⟨rfl, ?_⟩)) i0
    exact outer (B 0) 0 S (by omega) hz
  · exact ⟨fun y => absurd rfl y, fun _ => ⟨_, _, _, _, _, _, _, _, _, _, _, _, _, _, _, _, _, _, _, _, _, _, _, _, 0, _, rfl, rfl, by decide, hbad (fun q => z1 (in_01.mpr (Or.inl q))) (fun q => z1 (in_01.mpr (Or.inr q)))⟩⟩
abbrev rm_X10_swayed : Room := { frames := 2, cells := 0, slots := 0, locals := 61 }
set_option maxRecDepth 100000 in
set_option maxHeartbeats 4000000 in
theorem ct_X10_swayed (l : Launch) (D : va_G) (dA : Nat → ClassId) (σ : Nat → Nat) : em_CT l D em_cl dA σ (em_F σ) y_X10_swayed c_X10_swayed 8 (Option.some ClassFile.FieldType.int) rm_X10_swayed (sp_X10_swayed ) := by
  refine em_CT_of (T := T_X10_swayed ) (em_F_ok σ) (by decide) (fun p e s m args below meth c A ρ Q C hFok hF hret hlk hin => ?_) (me_X10_swayed )
  unfold T_X10_swayed
  refine List.forall_mem_cons.mpr ⟨s_iload_n C (by decide +kernel : decode c_X10_swayed 0 = .ok (.iload_n 1, 1)) rfl rfl rfl, ?_⟩
  refine List.forall_mem_cons.mpr ⟨s_i2l C (by decide +kernel : decode c_X10_swayed 1 = .ok (.i2l, 1)) rfl rfl, ?_⟩
  refine List.forall_mem_cons.mpr ⟨s_lconst C (by decide +kernel : decode c_X10_swayed 2 = .ok (.lconst 0, 1)) rfl rfl (by decide), ?_⟩
  refine List.forall_mem_cons.mpr ⟨s_lconst C (by decide +kernel : decode c_X10_swayed 3 = .ok (.lconst 1, 1)) rfl rfl (by decide), ?_⟩
  refine List.forall_mem_cons.mpr ⟨s_callS C hFok hF (ct_X10_in l D dA σ) ⟨rfl, rfl⟩ ew771 ew769 ew770 ew6 ⟨by decide, by decide, by decide +kernel⟩ ⟨by decide, by decide⟩ (by decide +kernel : decode c_X10_swayed 4 = .ok (.invokestatic 69, 3)) rfl rfl ⟨Nat.zero_le _, Nat.zero_le _⟩, ?_⟩
  refine List.forall_mem_cons.mpr ⟨s_ifne C (by decide +kernel : decode c_X10_swayed 7 = .ok (.ifCond .ne 11, 3)) (by decide) rfl rfl rfl, ?_⟩
  refine List.forall_mem_cons.mpr ⟨s_aload_n C (by decide +kernel : decode c_X10_swayed 10 = .ok (.aload_n 0, 1)) rfl rfl rfl, ?_⟩
  refine List.forall_mem_cons.mpr ⟨s_iconst C (by decide +kernel : decode c_X10_swayed 11 = .ok (.iconst 0, 1)) rfl rfl (by decide), ?_⟩
  refine List.forall_mem_cons.mpr ⟨s_bipush C (by decide +kernel : decode c_X10_swayed 12 = .ok (.bipush (-10), 2)) rfl rfl (by decide), ?_⟩
  refine List.forall_mem_cons.mpr ⟨s_callV C hFok hF (ct_X10_refuses l D dA σ) ⟨rfl, rfl⟩ ew783 em_cl_X10 ew780 ew782 ewp14 ew6 ⟨by decide, by decide, by decide +kernel⟩ ⟨by decide, by decide⟩ (by decide +kernel : decode c_X10_swayed 14 = .ok (.invokevirtual 65, 3)) rfl rfl ⟨Nat.zero_le _, Nat.zero_le _⟩, ?_⟩
  refine List.forall_mem_cons.mpr ⟨s_iret C (by decide +kernel : decode c_X10_swayed 17 = .ok (.ireturn, 1)) hret hlk ⟨Nat.le_refl 0, Nat.le_refl 0⟩, ?_⟩
  refine List.forall_mem_cons.mpr ⟨s_iconst C (by decide +kernel : decode c_X10_swayed 18 = .ok (.iconst 0, 1)) rfl rfl (by decide), ?_⟩
  refine List.forall_mem_cons.mpr ⟨s_istore_n C (by decide +kernel : decode c_X10_swayed 19 = .ok (.istore_n 2, 1)) rfl rfl rfl (by decide), ?_⟩
  refine List.forall_mem_cons.mpr ⟨s_iconst C (by decide +kernel : decode c_X10_swayed 20 = .ok (.iconst (-1), 1)) rfl rfl (by decide), ?_⟩
  refine List.forall_mem_cons.mpr ⟨s_istore_n C (by decide +kernel : decode c_X10_swayed 21 = .ok (.istore_n 3, 1)) rfl rfl rfl (by decide), ?_⟩
  refine List.forall_mem_cons.mpr ⟨s_iconst C (by decide +kernel : decode c_X10_swayed 22 = .ok (.iconst 0, 1)) rfl rfl (by decide), ?_⟩
  refine List.forall_mem_cons.mpr ⟨s_istore C (by decide +kernel : decode c_X10_swayed 23 = .ok (.istore 4, 2)) rfl rfl (by decide), ?_⟩
  refine List.forall_mem_cons.mpr ⟨s_iload C (by decide +kernel : decode c_X10_swayed 25 = .ok (.iload 4, 2)) rfl rfl, ?_⟩
  refine List.forall_mem_cons.mpr ⟨s_aload_n C (by decide +kernel : decode c_X10_swayed 27 = .ok (.aload_n 0, 1)) rfl rfl rfl, ?_⟩
  refine List.forall_mem_cons.mpr ⟨s_getf C (by decide +kernel : decode c_X10_swayed 28 = .ok (.getfield 7, 3)) rfl rfl em_cl_X10 (by decide) ew691 rfl, ?_⟩
  refine List.forall_mem_cons.mpr ⟨s_iconst C (by decide +kernel : decode c_X10_swayed 31 = .ok (.iconst 0, 1)) rfl rfl (by decide), ?_⟩
  refine List.forall_mem_cons.mpr ⟨s_iald C (by decide +kernel : decode c_X10_swayed 32 = .ok (.iaload, 1)) rfl rfl, ?_⟩
  refine List.forall_mem_cons.mpr ⟨s_icmpge C (by decide +kernel : decode c_X10_swayed 33 = .ok (.if_icmp .ge 135, 3)) (by decide) rfl rfl rfl, ?_⟩
  refine List.forall_mem_cons.mpr ⟨s_iload C (by decide +kernel : decode c_X10_swayed 36 = .ok (.iload 4, 2)) rfl rfl, ?_⟩
  refine List.forall_mem_cons.mpr ⟨s_iconst C (by decide +kernel : decode c_X10_swayed 38 = .ok (.iconst 1, 1)) rfl rfl (by decide), ?_⟩
  refine List.forall_mem_cons.mpr ⟨s_iadd C (by decide +kernel : decode c_X10_swayed 39 = .ok (.iadd, 1)) rfl rfl, ?_⟩
  refine List.forall_mem_cons.mpr ⟨s_istore C (by decide +kernel : decode c_X10_swayed 40 = .ok (.istore 5, 2)) rfl rfl (by decide), ?_⟩
  refine List.forall_mem_cons.mpr ⟨s_iload C (by decide +kernel : decode c_X10_swayed 42 = .ok (.iload 5, 2)) rfl rfl, ?_⟩
  refine List.forall_mem_cons.mpr ⟨s_aload_n C (by decide +kernel : decode c_X10_swayed 44 = .ok (.aload_n 0, 1)) rfl rfl rfl, ?_⟩
  refine List.forall_mem_cons.mpr ⟨s_getf C (by decide +kernel : decode c_X10_swayed 45 = .ok (.getfield 7, 3)) rfl rfl em_cl_X10 (by decide) ew691 rfl, ?_⟩
  refine List.forall_mem_cons.mpr ⟨s_iconst C (by decide +kernel : decode c_X10_swayed 48 = .ok (.iconst 0, 1)) rfl rfl (by decide), ?_⟩
  refine List.forall_mem_cons.mpr ⟨s_iald C (by decide +kernel : decode c_X10_swayed 49 = .ok (.iaload, 1)) rfl rfl, ?_⟩
  refine List.forall_mem_cons.mpr ⟨s_icmpge C (by decide +kernel : decode c_X10_swayed 50 = .ok (.if_icmp .ge 112, 3)) (by decide) rfl rfl rfl, ?_⟩
  refine List.forall_mem_cons.mpr ⟨s_aload_n C (by decide +kernel : decode c_X10_swayed 53 = .ok (.aload_n 0, 1)) rfl rfl rfl, ?_⟩
  refine List.forall_mem_cons.mpr ⟨s_callV C hFok hF (ct_X10_asNow l D dA σ) ⟨rfl, rfl⟩ ew903 em_cl_X10 ew900 ew902 ewp26 ew6 ⟨by decide, by decide, by decide +kernel⟩ ⟨by decide, by decide⟩ (by decide +kernel : decode c_X10_swayed 54 = .ok (.invokevirtual 182, 3)) rfl rfl ⟨Nat.zero_le _, Nat.zero_le _⟩, ?_⟩
  refine List.forall_mem_cons.mpr ⟨s_aload_n C (by decide +kernel : decode c_X10_swayed 57 = .ok (.aload_n 0, 1)) rfl rfl rfl, ?_⟩
  refine List.forall_mem_cons.mpr ⟨s_iload C (by decide +kernel : decode c_X10_swayed 58 = .ok (.iload 4, 2)) rfl rfl, ?_⟩
  refine List.forall_mem_cons.mpr ⟨s_iload C (by decide +kernel : decode c_X10_swayed 60 = .ok (.iload 5, 2)) rfl rfl, ?_⟩
  refine List.forall_mem_cons.mpr ⟨s_callV C hFok hF (ct_X10_talks l D dA σ) ⟨rfl, rfl⟩ ew927 em_cl_X10 ew924 ew926 ewp30 ew6 ⟨by decide, by decide, by decide +kernel⟩ ⟨by decide, by decide⟩ (by decide +kernel : decode c_X10_swayed 62 = .ok (.invokevirtual 192, 3)) rfl rfl ⟨Nat.zero_le _, Nat.zero_le _⟩, ?_⟩
  refine List.forall_mem_cons.mpr ⟨s_iconst C (by decide +kernel : decode c_X10_swayed 65 = .ok (.iconst 1, 1)) rfl rfl (by decide), ?_⟩
  refine List.forall_mem_cons.mpr ⟨s_istore C (by decide +kernel : decode c_X10_swayed 66 = .ok (.istore 6, 2)) rfl rfl (by decide), ?_⟩
  refine List.forall_mem_cons.mpr ⟨s_iconst C (by decide +kernel : decode c_X10_swayed 68 = .ok (.iconst 0, 1)) rfl rfl (by decide), ?_⟩
  refine List.forall_mem_cons.mpr ⟨s_istore C (by decide +kernel : decode c_X10_swayed 69 = .ok (.istore 7, 2)) rfl rfl (by decide), ?_⟩
  refine List.forall_mem_cons.mpr ⟨s_iload C (by decide +kernel : decode c_X10_swayed 71 = .ok (.iload 7, 2)) rfl rfl, ?_⟩
  refine List.forall_mem_cons.mpr ⟨s_aload_n C (by decide +kernel : decode c_X10_swayed 73 = .ok (.aload_n 0, 1)) rfl rfl rfl, ?_⟩
  refine List.forall_mem_cons.mpr ⟨s_getf C (by decide +kernel : decode c_X10_swayed 74 = .ok (.getfield 7, 3)) rfl rfl em_cl_X10 (by decide) ew691 rfl, ?_⟩
  refine List.forall_mem_cons.mpr ⟨s_iconst C (by decide +kernel : decode c_X10_swayed 77 = .ok (.iconst 0, 1)) rfl rfl (by decide), ?_⟩
  refine List.forall_mem_cons.mpr ⟨s_iald C (by decide +kernel : decode c_X10_swayed 78 = .ok (.iaload, 1)) rfl rfl, ?_⟩
  refine List.forall_mem_cons.mpr ⟨s_icmpge C (by decide +kernel : decode c_X10_swayed 79 = .ok (.if_icmp .ge 41, 3)) (by decide) rfl rfl rfl, ?_⟩
  refine List.forall_mem_cons.mpr ⟨s_iload C (by decide +kernel : decode c_X10_swayed 82 = .ok (.iload 6, 2)) rfl rfl, ?_⟩
  refine List.forall_mem_cons.mpr ⟨s_ifeq C (by decide +kernel : decode c_X10_swayed 84 = .ok (.ifCond .eq 27, 3)) (by decide) rfl rfl rfl, ?_⟩
  refine List.forall_mem_cons.mpr ⟨s_aload_n C (by decide +kernel : decode c_X10_swayed 87 = .ok (.aload_n 0, 1)) rfl rfl rfl, ?_⟩
  refine List.forall_mem_cons.mpr ⟨s_getf C (by decide +kernel : decode c_X10_swayed 88 = .ok (.getfield 32, 3)) rfl rfl em_cl_X10 (by decide) ew708 rfl, ?_⟩
  refine List.forall_mem_cons.mpr ⟨s_iload C (by decide +kernel : decode c_X10_swayed 91 = .ok (.iload 7, 2)) rfl rfl, ?_⟩
  refine List.forall_mem_cons.mpr ⟨s_iald C (by decide +kernel : decode c_X10_swayed 93 = .ok (.iaload, 1)) rfl rfl, ?_⟩
  refine List.forall_mem_cons.mpr ⟨s_aload_n C (by decide +kernel : decode c_X10_swayed 94 = .ok (.aload_n 0, 1)) rfl rfl rfl, ?_⟩
  refine List.forall_mem_cons.mpr ⟨s_getf C (by decide +kernel : decode c_X10_swayed 95 = .ok (.getfield 7, 3)) rfl rfl em_cl_X10 (by decide) ew691 rfl, ?_⟩
  refine List.forall_mem_cons.mpr ⟨s_bipush C (by decide +kernel : decode c_X10_swayed 98 = .ok (.bipush 20, 2)) rfl rfl (by decide), ?_⟩
  refine List.forall_mem_cons.mpr ⟨s_iload C (by decide +kernel : decode c_X10_swayed 100 = .ok (.iload 7, 2)) rfl rfl, ?_⟩
  refine List.forall_mem_cons.mpr ⟨s_iadd C (by decide +kernel : decode c_X10_swayed 102 = .ok (.iadd, 1)) rfl rfl, ?_⟩
  refine List.forall_mem_cons.mpr ⟨s_iald C (by decide +kernel : decode c_X10_swayed 103 = .ok (.iaload, 1)) rfl rfl, ?_⟩
  refine List.forall_mem_cons.mpr ⟨s_icmpne C (by decide +kernel : decode c_X10_swayed 104 = .ok (.if_icmp .ne 7, 3)) (by decide) rfl rfl rfl, ?_⟩
  refine List.forall_mem_cons.mpr ⟨s_iconst C (by decide +kernel : decode c_X10_swayed 107 = .ok (.iconst 1, 1)) rfl rfl (by decide), ?_⟩
  refine List.forall_mem_cons.mpr ⟨s_goto C (by decide +kernel : decode c_X10_swayed 108 = .ok (.goto 4, 3)) (by decide) rfl, ?_⟩
  refine List.forall_mem_cons.mpr ⟨s_iconst C (by decide +kernel : decode c_X10_swayed 111 = .ok (.iconst 0, 1)) rfl rfl (by decide), ?_⟩
  refine List.forall_mem_cons.mpr ⟨s_istore C (by decide +kernel : decode c_X10_swayed 112 = .ok (.istore 6, 2)) rfl rfl (by decide), ?_⟩
  refine List.forall_mem_cons.mpr ⟨s_iinc C (by decide +kernel : decode c_X10_swayed 114 = .ok (.iinc 7 1, 3)) rfl rfl (by decide) (by decide), ?_⟩
  refine List.forall_mem_cons.mpr ⟨s_goto C (by decide +kernel : decode c_X10_swayed 117 = .ok (.goto (-46), 3)) (by decide) rfl, ?_⟩
  refine List.forall_mem_cons.mpr ⟨s_iload_n C (by decide +kernel : decode c_X10_swayed 120 = .ok (.iload_n 2, 1)) rfl rfl rfl, ?_⟩
  refine List.forall_mem_cons.mpr ⟨s_iload C (by decide +kernel : decode c_X10_swayed 121 = .ok (.iload 6, 2)) rfl rfl, ?_⟩
  refine List.forall_mem_cons.mpr ⟨s_ifeq C (by decide +kernel : decode c_X10_swayed 123 = .ok (.ifCond .eq 7, 3)) (by decide) rfl rfl rfl, ?_⟩
  refine List.forall_mem_cons.mpr ⟨s_iconst C (by decide +kernel : decode c_X10_swayed 126 = .ok (.iconst 1, 1)) rfl rfl (by decide), ?_⟩
  refine List.forall_mem_cons.mpr ⟨s_goto C (by decide +kernel : decode c_X10_swayed 127 = .ok (.goto 4, 3)) (by decide) rfl, ?_⟩
  refine List.forall_mem_cons.mpr ⟨s_iconst C (by decide +kernel : decode c_X10_swayed 130 = .ok (.iconst 0, 1)) rfl rfl (by decide), ?_⟩
  refine List.forall_mem_cons.mpr ⟨s_iadd C (by decide +kernel : decode c_X10_swayed 131 = .ok (.iadd, 1)) rfl rfl, ?_⟩
  refine List.forall_mem_cons.mpr ⟨s_istore_n C (by decide +kernel : decode c_X10_swayed 132 = .ok (.istore_n 2, 1)) rfl rfl rfl (by decide), ?_⟩
  refine List.forall_mem_cons.mpr ⟨s_iload C (by decide +kernel : decode c_X10_swayed 133 = .ok (.iload 6, 2)) rfl rfl, ?_⟩
  refine List.forall_mem_cons.mpr ⟨s_ifeq C (by decide +kernel : decode c_X10_swayed 135 = .ok (.ifCond .eq 19, 3)) (by decide) rfl rfl rfl, ?_⟩
  refine List.forall_mem_cons.mpr ⟨s_iload_n C (by decide +kernel : decode c_X10_swayed 138 = .ok (.iload_n 3, 1)) rfl rfl rfl, ?_⟩
  refine List.forall_mem_cons.mpr ⟨s_iconst C (by decide +kernel : decode c_X10_swayed 139 = .ok (.iconst (-1), 1)) rfl rfl (by decide), ?_⟩
  refine List.forall_mem_cons.mpr ⟨s_icmpne C (by decide +kernel : decode c_X10_swayed 140 = .ok (.if_icmp .ne 14, 3)) (by decide) rfl rfl rfl, ?_⟩
  refine List.forall_mem_cons.mpr ⟨s_bipush C (by decide +kernel : decode c_X10_swayed 143 = .ok (.bipush 10, 2)) rfl rfl (by decide), ?_⟩
  refine List.forall_mem_cons.mpr ⟨s_iload C (by decide +kernel : decode c_X10_swayed 145 = .ok (.iload 4, 2)) rfl rfl, ?_⟩
  refine List.forall_mem_cons.mpr ⟨s_imul C (by decide +kernel : decode c_X10_swayed 147 = .ok (.imul, 1)) rfl rfl, ?_⟩
  refine List.forall_mem_cons.mpr ⟨s_iload C (by decide +kernel : decode c_X10_swayed 148 = .ok (.iload 5, 2)) rfl rfl, ?_⟩
  refine List.forall_mem_cons.mpr ⟨s_iadd C (by decide +kernel : decode c_X10_swayed 150 = .ok (.iadd, 1)) rfl rfl, ?_⟩
  refine List.forall_mem_cons.mpr ⟨s_goto C (by decide +kernel : decode c_X10_swayed 151 = .ok (.goto 4, 3)) (by decide) rfl, ?_⟩
  refine List.forall_mem_cons.mpr ⟨s_iload_n C (by decide +kernel : decode c_X10_swayed 154 = .ok (.iload_n 3, 1)) rfl rfl rfl, ?_⟩
  refine List.forall_mem_cons.mpr ⟨s_istore_n C (by decide +kernel : decode c_X10_swayed 155 = .ok (.istore_n 3, 1)) rfl rfl rfl (by decide), ?_⟩
  refine List.forall_mem_cons.mpr ⟨s_iinc C (by decide +kernel : decode c_X10_swayed 156 = .ok (.iinc 5 1, 3)) rfl rfl (by decide) (by decide), ?_⟩
  refine List.forall_mem_cons.mpr ⟨s_goto C (by decide +kernel : decode c_X10_swayed 159 = .ok (.goto (-117), 3)) (by decide) rfl, ?_⟩
  refine List.forall_mem_cons.mpr ⟨s_iinc C (by decide +kernel : decode c_X10_swayed 162 = .ok (.iinc 4 1, 3)) rfl rfl (by decide) (by decide), ?_⟩
  refine List.forall_mem_cons.mpr ⟨s_goto C (by decide +kernel : decode c_X10_swayed 165 = .ok (.goto (-140), 3)) (by decide) rfl, ?_⟩
  refine List.forall_mem_cons.mpr ⟨s_iload_n C (by decide +kernel : decode c_X10_swayed 168 = .ok (.iload_n 1, 1)) rfl rfl rfl, ?_⟩
  refine List.forall_mem_cons.mpr ⟨s_ifne C (by decide +kernel : decode c_X10_swayed 169 = .ok (.ifCond .ne 7, 3)) (by decide) rfl rfl rfl, ?_⟩
  refine List.forall_mem_cons.mpr ⟨s_iload_n C (by decide +kernel : decode c_X10_swayed 172 = .ok (.iload_n 2, 1)) rfl rfl rfl, ?_⟩
  refine List.forall_mem_cons.mpr ⟨s_goto C (by decide +kernel : decode c_X10_swayed 173 = .ok (.goto 4, 3)) (by decide) rfl, ?_⟩
  refine List.forall_mem_cons.mpr ⟨s_iload_n C (by decide +kernel : decode c_X10_swayed 176 = .ok (.iload_n 3, 1)) rfl rfl rfl, ?_⟩
  refine List.forall_mem_cons.mpr ⟨s_iret C (by decide +kernel : decode c_X10_swayed 177 = .ok (.ireturn, 1)) hret hlk ⟨Nat.le_refl 0, Nat.le_refl 0⟩, ?_⟩
  exact fun _ h => absurd h List.not_mem_nil
def lpM (B S : Nat → Nat) : Nat → Nat
  | 0 => 0
  | a + 1 => lpM B S a + cU (fun b => isL B S a b) a
theorem lpM_le {B S : Nat → Nat} : ∀ a, a ≤ 6 → lpM B S a ≤ 6 * a
  | 0, _ => Nat.le_refl _
  | a + 1, h => by
    have h1 := lpM_le (B := B) (S := S) a (by omega)
    have h2 := cU_le (P := fun b => isL B S a b) (n := a)
    rw [lpM]; omega
def sp_X10_lawfulPairs : em_Sp := fun av hp Q => ∃ B im kp asd rf qt ab be tx ty at9 st9 tk vl wd it mn S sb my we be9 rw fr, av = [.ref 0] ∧ hp = (wM (nB B) im kp asd rf qt ab be tx ty at9 st9 tk vl wd it mn (nB S) sb my we be9 rw fr) ∧ GK B ∧ SOK S ∧ Q (some (.int (nI (lpM B S (B 0))))) hp
def T_X10_lawfulPairs : List (Nat × em_Op) := [(0, o_iconst 0 1), (1, o_istore 1 2), (2, o_iconst 0 3), (3, o_istore 2 4), (4, o_iload 2 5), (5, o_aload 0 6), (6, o_getf 5 0 9), (9, o_iconst 0 10), (10, o_aldI 0 11), (11, o_icmpge 50 14), (14, o_iconst 0 15), (15, o_istore 3 16), (16, o_iload 3 17), (17, o_iload 2 18), (18, o_icmpge 44 21), (21, o_iload 1 22), (22, o_aload 0 23), (23, o_iload 2 24), (24, o_iload 3 25), (25, o_call 3 (some 5) (sp_X10_isLawful) 28), (28, o_ifeq 35 31), (31, o_iconst 1 32), (32, o_goto 36), (35, o_iconst 0 36), (36, o_iadd 37), (37, o_istore 1 38), (38, o_iinc 3 1 41), (41, o_goto 16), (44, o_iinc 2 1 47), (47, o_goto 4), (50, o_iload 1 51), (51, o_iret)]
theorem me_X10_lawfulPairs : em_Me T_X10_lawfulPairs 4 sp_X10_lawfulPairs := by
  intro Q K hK hle av hp hs
  obtain ⟨B, im, kp, asd, rf, qt, ab, be, tx, ty, at9, st9, tk, vl, wd, it, mn, S, sb, my, we, be9, rw, fr, rfl, rfl, hB, hS, hq⟩ := hs
  have h0 := hB.1
  refine ⟨Nat.le_of_ble_eq_true rfl, ?_⟩
  have outer : ∀ (r a : Nat), a + r = B 0 → K 4 [some (.ref 0), some (.int (nI (lpM B S a))), some (.int (nI a)), none] [] (wM (nB B) im kp asd rf qt ab be tx ty at9 st9 tk vl wd it mn (nB S) sb my we be9 rw fr) := by
    intro r
    induction r with
    | zero =>
      intro a ha
      have ha : a = B 0 := by omega
      subst ha
      refine hK 4 9999 4 _ _ _ ?_
      exact ⟨0, rfl, by decide, fun _ => hq, fun y => absurd (nI_le (Nat.le_refl (B 0)) (by omega)) y⟩
    | succ r ih =>
      intro a ha
      have hnx := ih (a + 1) (by omega)
      rw [lpM, ← nI_1 a] at hnx
      have inner : ∀ (w b : Nat), b + w = a → K 16 [some (.ref 0), some (.int (nI (lpM B S a + cU (fun b => isL B S a b) b))), some (.int (nI a)), some (.int (nI b))] [] (wM (nB B) im kp asd rf qt ab be tx ty at9 st9 tk vl wd it mn (nB S) sb my we be9 rw fr) := by
        intro w
        induction w with
        | zero =>
          intro b hb
          have hb : b = a := by omega
          subst hb
          refine hK 12 18 16 _ _ _ ?_
          exact ⟨fun _ => hle _ _ _ _ _ (by repeat (first | exact trivial | refine ⟨rfl, ?_⟩)) hnx, fun y => absurd (nI_le (Nat.le_refl b) (by omega)) y⟩
        | succ w ihw =>
          intro b hb
          have nx : ∀ v, nI (lpM B S a + cU (fun b => isL B S a b) b) + v = nI (lpM B S a + cU (fun b => isL B S a b) (b + 1)) → K 36 [some (.ref 0), some (.int (nI (lpM B S a + cU (fun b => isL B S a b) b))), some (.int (nI a)), some (.int (nI b))] [.int v, .int (nI (lpM B S a + cU (fun b => isL B S a b) b))] (wM (nB B) im kp asd rf qt ab be tx ty at9 st9 tk vl wd it mn (nB S) sb my we be9 rw fr) := by
            intro v hv
            have := ihw (b + 1) (by omega)
            rw [← hv, ← nI_1 b] at this
            exact hK 24 4 36 _ _ _ this
          refine hK 12 12 16 _ _ _ ?_
          refine ⟨fun z => absurd z (nI_ge (a := b) (b := a) (by omega) (by omega)), fun _ => ?_⟩
          refine ⟨_, _, _, _, _, _, _, _, _, _, _, _, _, _, _, _, _, _, _, _, _, _, _, _, a, b, rfl, rfl, by omega, by omega, fun u => ?_, fun u => ?_⟩
          · have u := (lw_isL hB.2.2.2.1 hB.2.2.2.2.1 (hS a (by omega)) (hS b (by omega))).mp u
            refine ⟨fun t => absurd t (by decide), fun _ => ?_⟩
            exact nx _ (by rw [cU, if_pos u, nI_1, ← Nat.add_assoc])
          · have u := isL_f hB.2.2.2.1 hB.2.2.2.2.1 (hS a (by omega)) (hS b (by omega)) u
            refine ⟨fun _ => ?_, fun t => absurd rfl t⟩
            exact nx _ (by rw [cU, if_neg (by rw [u]; exact Bool.false_ne_true)]; exact Int32.add_zero _)
      have i0 := inner a 0 (by omega)
      refine hK 4 8 4 _ _ _ ?_
      refine ⟨0, rfl, by decide, fun z => absurd z (by show ¬ nI (B 0) ≤ nI a; exact nI_ge (by omega) (by omega)), fun _ => ?_⟩
      exact i0
  exact hK 0 4 0 _ _ _ (outer (B 0) 0 (by omega))
abbrev rm_X10_lawfulPairs : Room := { frames := 3, cells := 0, slots := 0, locals := 65 }
set_option maxRecDepth 100000 in
set_option maxHeartbeats 4000000 in
theorem ct_X10_lawfulPairs (l : Launch) (D : va_G) (dA : Nat → ClassId) (σ : Nat → Nat) : em_CT l D em_cl dA σ (em_F σ) y_X10_lawfulPairs c_X10_lawfulPairs 4 (Option.some ClassFile.FieldType.int) rm_X10_lawfulPairs (sp_X10_lawfulPairs ) := by
  refine em_CT_of (T := T_X10_lawfulPairs ) (em_F_ok σ) (by decide) (fun p e s m args below meth c A ρ Q C hFok hF hret hlk hin => ?_) (me_X10_lawfulPairs )
  unfold T_X10_lawfulPairs
  refine List.forall_mem_cons.mpr ⟨s_iconst C (by decide +kernel : decode c_X10_lawfulPairs 0 = .ok (.iconst 0, 1)) rfl rfl (by decide), ?_⟩
  refine List.forall_mem_cons.mpr ⟨s_istore_n C (by decide +kernel : decode c_X10_lawfulPairs 1 = .ok (.istore_n 1, 1)) rfl rfl rfl (by decide), ?_⟩
  refine List.forall_mem_cons.mpr ⟨s_iconst C (by decide +kernel : decode c_X10_lawfulPairs 2 = .ok (.iconst 0, 1)) rfl rfl (by decide), ?_⟩
  refine List.forall_mem_cons.mpr ⟨s_istore_n C (by decide +kernel : decode c_X10_lawfulPairs 3 = .ok (.istore_n 2, 1)) rfl rfl rfl (by decide), ?_⟩
  refine List.forall_mem_cons.mpr ⟨s_iload_n C (by decide +kernel : decode c_X10_lawfulPairs 4 = .ok (.iload_n 2, 1)) rfl rfl rfl, ?_⟩
  refine List.forall_mem_cons.mpr ⟨s_aload_n C (by decide +kernel : decode c_X10_lawfulPairs 5 = .ok (.aload_n 0, 1)) rfl rfl rfl, ?_⟩
  refine List.forall_mem_cons.mpr ⟨s_getf C (by decide +kernel : decode c_X10_lawfulPairs 6 = .ok (.getfield 7, 3)) rfl rfl em_cl_X10 (by decide) ew691 rfl, ?_⟩
  refine List.forall_mem_cons.mpr ⟨s_iconst C (by decide +kernel : decode c_X10_lawfulPairs 9 = .ok (.iconst 0, 1)) rfl rfl (by decide), ?_⟩
  refine List.forall_mem_cons.mpr ⟨s_iald C (by decide +kernel : decode c_X10_lawfulPairs 10 = .ok (.iaload, 1)) rfl rfl, ?_⟩
  refine List.forall_mem_cons.mpr ⟨s_icmpge C (by decide +kernel : decode c_X10_lawfulPairs 11 = .ok (.if_icmp .ge 39, 3)) (by decide) rfl rfl rfl, ?_⟩
  refine List.forall_mem_cons.mpr ⟨s_iconst C (by decide +kernel : decode c_X10_lawfulPairs 14 = .ok (.iconst 0, 1)) rfl rfl (by decide), ?_⟩
  refine List.forall_mem_cons.mpr ⟨s_istore_n C (by decide +kernel : decode c_X10_lawfulPairs 15 = .ok (.istore_n 3, 1)) rfl rfl rfl (by decide), ?_⟩
  refine List.forall_mem_cons.mpr ⟨s_iload_n C (by decide +kernel : decode c_X10_lawfulPairs 16 = .ok (.iload_n 3, 1)) rfl rfl rfl, ?_⟩
  refine List.forall_mem_cons.mpr ⟨s_iload_n C (by decide +kernel : decode c_X10_lawfulPairs 17 = .ok (.iload_n 2, 1)) rfl rfl rfl, ?_⟩
  refine List.forall_mem_cons.mpr ⟨s_icmpge C (by decide +kernel : decode c_X10_lawfulPairs 18 = .ok (.if_icmp .ge 26, 3)) (by decide) rfl rfl rfl, ?_⟩
  refine List.forall_mem_cons.mpr ⟨s_iload_n C (by decide +kernel : decode c_X10_lawfulPairs 21 = .ok (.iload_n 1, 1)) rfl rfl rfl, ?_⟩
  refine List.forall_mem_cons.mpr ⟨s_aload_n C (by decide +kernel : decode c_X10_lawfulPairs 22 = .ok (.aload_n 0, 1)) rfl rfl rfl, ?_⟩
  refine List.forall_mem_cons.mpr ⟨s_iload_n C (by decide +kernel : decode c_X10_lawfulPairs 23 = .ok (.iload_n 2, 1)) rfl rfl rfl, ?_⟩
  refine List.forall_mem_cons.mpr ⟨s_iload_n C (by decide +kernel : decode c_X10_lawfulPairs 24 = .ok (.iload_n 3, 1)) rfl rfl rfl, ?_⟩
  refine List.forall_mem_cons.mpr ⟨s_callV C hFok hF (ct_X10_isLawful l D dA σ) ⟨rfl, rfl⟩ ew907 em_cl_X10 ew904 ew906 ewp27 ew6 ⟨by decide, by decide, by decide +kernel⟩ ⟨by decide, by decide⟩ (by decide +kernel : decode c_X10_lawfulPairs 25 = .ok (.invokevirtual 185, 3)) rfl rfl ⟨Nat.zero_le _, Nat.zero_le _⟩, ?_⟩
  refine List.forall_mem_cons.mpr ⟨s_ifeq C (by decide +kernel : decode c_X10_lawfulPairs 28 = .ok (.ifCond .eq 7, 3)) (by decide) rfl rfl rfl, ?_⟩
  refine List.forall_mem_cons.mpr ⟨s_iconst C (by decide +kernel : decode c_X10_lawfulPairs 31 = .ok (.iconst 1, 1)) rfl rfl (by decide), ?_⟩
  refine List.forall_mem_cons.mpr ⟨s_goto C (by decide +kernel : decode c_X10_lawfulPairs 32 = .ok (.goto 4, 3)) (by decide) rfl, ?_⟩
  refine List.forall_mem_cons.mpr ⟨s_iconst C (by decide +kernel : decode c_X10_lawfulPairs 35 = .ok (.iconst 0, 1)) rfl rfl (by decide), ?_⟩
  refine List.forall_mem_cons.mpr ⟨s_iadd C (by decide +kernel : decode c_X10_lawfulPairs 36 = .ok (.iadd, 1)) rfl rfl, ?_⟩
  refine List.forall_mem_cons.mpr ⟨s_istore_n C (by decide +kernel : decode c_X10_lawfulPairs 37 = .ok (.istore_n 1, 1)) rfl rfl rfl (by decide), ?_⟩
  refine List.forall_mem_cons.mpr ⟨s_iinc C (by decide +kernel : decode c_X10_lawfulPairs 38 = .ok (.iinc 3 1, 3)) rfl rfl (by decide) (by decide), ?_⟩
  refine List.forall_mem_cons.mpr ⟨s_goto C (by decide +kernel : decode c_X10_lawfulPairs 41 = .ok (.goto (-25), 3)) (by decide) rfl, ?_⟩
  refine List.forall_mem_cons.mpr ⟨s_iinc C (by decide +kernel : decode c_X10_lawfulPairs 44 = .ok (.iinc 2 1, 3)) rfl rfl (by decide) (by decide), ?_⟩
  refine List.forall_mem_cons.mpr ⟨s_goto C (by decide +kernel : decode c_X10_lawfulPairs 47 = .ok (.goto (-43), 3)) (by decide) rfl, ?_⟩
  refine List.forall_mem_cons.mpr ⟨s_iload_n C (by decide +kernel : decode c_X10_lawfulPairs 50 = .ok (.iload_n 1, 1)) rfl rfl rfl, ?_⟩
  refine List.forall_mem_cons.mpr ⟨s_iret C (by decide +kernel : decode c_X10_lawfulPairs 51 = .ok (.ireturn, 1)) hret hlk ⟨Nat.le_refl 0, Nat.le_refl 0⟩, ?_⟩
  exact fun _ h => absurd h List.not_mem_nil
