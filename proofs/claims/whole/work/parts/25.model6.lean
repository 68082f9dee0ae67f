/-! ===== who may wed whom; all three ===== -/
def lwN (B S : Nat → Nat) (p : Nat) : Nat → Int32
  | 0 => 0
  | i + 1 => if i ≠ p ∧ isL B S p i = true then bor (lwN B S p i) i else lwN B S p i
def sp_X10_lawful : em_Sp := fun av hp Q => ∃ B im kp asd rf qt ab be tx ty at9 st9 tk vl wd it mn S sb my we be9 rw fr p, av = [.ref 0, .int p] ∧ hp = (wM (nB B) im kp asd rf qt ab be tx ty at9 st9 tk vl wd it mn (nB S) sb my we be9 rw fr) ∧ GK B ∧ Z6 S ∧ (¬ hs (nI (B 0)) p → Q (some (.int (-2))) (wM (nB B) im kp asd (rfM qt rf 0) qt ab be tx ty at9 st9 tk vl wd it mn (nB S) sb my we be9 rw fr)) ∧ (∀ j, p = nI j → j < B 0 → Q (some (.int (lwN B (nw B) j (B 0)))) (wM (nB B) im kp asd rf qt ab be tx ty at9 st9 tk vl wd it mn (nB (nw B)) sb my we be9 rw fr))
def T_X10_lawful : List (Nat × em_Op) := [(0, o_aload 0 1), (1, o_iload 1 2), (2, o_call 2 (some 5) (sp_X10_isPerson) 5), (5, o_ifne 13 8), (8, o_aload 0 9), (9, o_call 1 (some 5) (sp_X10_bad) 12), (12, o_iret), (13, o_aload 0 14), (14, o_call 1 (some 5) (sp_X10_asNow) 17), (17, o_iconst 0 18), (18, o_istore 2 19), (19, o_iconst 0 20), (20, o_istore 3 21), (21, o_iload 3 22), (22, o_aload 0 23), (23, o_getf 5 0 26), (26, o_iconst 0 27), (27, o_aldI 0 28), (28, o_icmpge 61 31), (31, o_iload 2 32), (32, o_iload 3 33), (33, o_iload 1 34), (34, o_icmpeq 52 37), (37, o_aload 0 38), (38, o_iload 1 39), (39, o_iload 3 40), (40, o_call 3 (some 5) (sp_X10_isLawful) 43), (43, o_ifeq 52 46), (46, o_iconst 1 47), (47, o_iload 3 48), (48, o_ishl 49), (49, o_goto 53), (52, o_iconst 0 53), (53, o_ior 54), (54, o_istore 2 55), (55, o_iinc 3 1 58), (58, o_goto 21), (61, o_iload 2 62), (62, o_iret)]
theorem me_X10_lawful : em_Me T_X10_lawful 4 sp_X10_lawful := by
  intro Q K hK hle av hp hs
  obtain ⟨B, im, kp, asd, rf, qt, ab, be, tx, ty, at9, st9, tk, vl, wd, it, mn, S, sb, my, we, be9, rw, fr, p, rfl, rfl, hB, hz, hbad, hq⟩ := hs
  have h0 := hB.1
  have hT := nw_ok hB
  refine ⟨Nat.le_of_ble_eq_true rfl, hK 0 13 0 _ _ _ ?_⟩
  refine ⟨_, _, _, _, _, _, _, _, _, _, _, _, _, _, _, _, _, _, _, _, _, _, _, _, _, B 0, rfl, rfl, rfl, h0, fun z1 => ?_, fun z1 => ?_⟩
  · refine ⟨fun _ => ?_, fun y => absurd y (by decide)⟩
    obtain ⟨j, hj, rfl⟩ := nI_at rfl z1
    have hq := hq j rfl hj
    refine ⟨_, _, _, _, _, _, _, _, _, _, _, _, _, _, _, _, _, _, _, _, _, _, _, _, rfl, rfl, fun so' h1 h2 => ?_⟩
    have e := nw_eq hz h1 h2
    subst e
    have loop : ∀ (r i : Nat), i + r = B 0 → K 21 [some (.ref 0), some (.int (nI j)), some (.int (lwN B (nw B) j i)), some (.int (nI i))] [] (wM (nB B) im kp asd rf qt ab be tx ty at9 st9 tk vl wd it mn (nB (nw B)) sb my we be9 rw fr) := by
      intro r
      induction r with
      | zero =>
        intro i hi
        have hi : i = B 0 := by omega
        subst hi
        refine hK 13 9999 21 _ _ _ ?_
        exact ⟨0, rfl, by decide, fun _ => hq, fun y => absurd (nI_le (Nat.le_refl (B 0)) (by omega)) y⟩
      | succ r ih =>
        intro i hi
        have next : ∀ v, lwN B (nw B) j i ||| v = lwN B (nw B) j (i + 1) → K 53 [some (.ref 0), some (.int (nI j)), some (.int (lwN B (nw B) j i)), some (.int (nI i))] [.int v, .int (lwN B (nw B) j i)] (wM (nB B) im kp asd rf qt ab be tx ty at9 st9 tk vl wd it mn (nB (nw B)) sb my we be9 rw fr) := by
          intro v hv
          have := ih (i + 1) (by omega)
          rw [← nI_1 i, ← hv] at this
          exact hK 33 4 53 _ _ _ this
        refine hK 13 20 21 _ _ _ ?_
        refine ⟨0, rfl, by decide, fun z => absurd z (by show ¬ nI (B 0) ≤ nI i; exact nI_ge (by omega) (by omega)), fun _ => ?_⟩
        refine ⟨fun y => ?_, fun y => ?_⟩
        · have y := (nI_eq (by omega) (by omega)).mp y
          exact next _ (by rw [lwN, if_neg (fun q => q.1 y)]; exact Int32.or_zero)
        · have y : i ≠ j := fun q => y (by rw [q])
          refine ⟨_, _, _, _, _, _, _, _, _, _, _, _, _, _, _, _, _, _, _, _, _, _, _, _, j, i, rfl, rfl, by omega, by omega, fun z => ?_, fun z => ?_⟩
          · have z := (lw_isL hB.2.2.2.1 hB.2.2.2.2.1 (hT j (by omega)) (hT i (by omega))).mp z
            refine ⟨fun q => absurd q (by decide), fun _ => ?_⟩
            exact next _ (by rw [lwN, if_pos ⟨y, z⟩]; rfl)
          · have z := isL_f hB.2.2.2.1 hB.2.2.2.2.1 (hT j (by omega)) (hT i (by omega)) z
            refine ⟨fun _ => ?_, fun q => absurd rfl q⟩
            exact next _ (by rw [lwN, if_neg (fun q => by rw [z] at q; exact Bool.false_ne_true q.2)]; exact Int32.or_zero)
    exact loop (B 0) 0 (by omega)
  · exact ⟨fun y => absurd rfl y, fun _ => ⟨_, _, _, _, _, _, _, _, _, _, _, _, _, _, _, _, _, _, _, _, _, _, _, _, rfl, rfl, hbad z1⟩⟩
abbrev rm_X10_lawful : Room := { frames := 3, cells := 0, slots := 0, locals := 65 }
set_option maxRecDepth 100000 in
set_option maxHeartbeats 4000000 in
theorem ct_X10_lawful (l : Launch) (D : va_G) (dA : Nat → ClassId) (σ : Nat → Nat) : em_CT l D em_cl dA σ (em_F σ) y_X10_lawful c_X10_lawful 4 (Option.some ClassFile.FieldType.int) rm_X10_lawful (sp_X10_lawful ) := by
  refine em_CT_of (T := T_X10_lawful ) (em_F_ok σ) (by decide) (fun p e s m args below meth c A ρ Q C hFok hF hret hlk hin => ?_) (me_X10_lawful )
  unfold T_X10_lawful
  refine List.forall_mem_cons.mpr ⟨s_aload_n C (by decide +kernel : decode c_X10_lawful 0 = .ok (.aload_n 0, 1)) rfl rfl rfl, ?_⟩
  refine List.forall_mem_cons.mpr ⟨s_iload_n C (by decide +kernel : decode c_X10_lawful 1 = .ok (.iload_n 1, 1)) rfl rfl rfl, ?_⟩
  refine List.forall_mem_cons.mpr ⟨s_callV C hFok hF (ct_X10_isPerson l D dA σ) ⟨rfl, rfl⟩ ew795 em_cl_X10 ew792 ew794 ewp16 ew6 ⟨by decide, by decide, by decide +kernel⟩ ⟨by decide, by decide⟩ (by decide +kernel : decode c_X10_lawful 2 = .ok (.invokevirtual 73, 3)) rfl rfl ⟨Nat.zero_le _, Nat.zero_le _⟩, ?_⟩
  refine List.forall_mem_cons.mpr ⟨s_ifne C (by decide +kernel : decode c_X10_lawful 5 = .ok (.ifCond .ne 8, 3)) (by decide) rfl rfl rfl, ?_⟩
  refine List.forall_mem_cons.mpr ⟨s_aload_n C (by decide +kernel : decode c_X10_lawful 8 = .ok (.aload_n 0, 1)) rfl rfl rfl, ?_⟩
  refine List.forall_mem_cons.mpr ⟨s_callV C hFok hF (ct_X10_bad l D dA σ) ⟨rfl, rfl⟩ ew779 em_cl_X10 ew776 ew778 ewp13 ew6 ⟨by decide, by decide, by decide +kernel⟩ ⟨by decide, by decide⟩ (by decide +kernel : decode c_X10_lawful 9 = .ok (.invokevirtual 84, 3)) rfl rfl ⟨Nat.zero_le _, Nat.zero_le _⟩, ?_⟩
  refine List.forall_mem_cons.mpr ⟨s_iret C (by decide +kernel : decode c_X10_lawful 12 = .ok (.ireturn, 1)) hret hlk ⟨Nat.le_refl 0, Nat.le_refl 0⟩, ?_⟩
  refine List.forall_mem_cons.mpr ⟨s_aload_n C (by decide +kernel : decode c_X10_lawful 13 = .ok (.aload_n 0, 1)) rfl rfl rfl, ?_⟩
  refine List.forall_mem_cons.mpr ⟨s_callV C hFok hF (ct_X10_asNow l D dA σ) ⟨rfl, rfl⟩ ew903 em_cl_X10 ew900 ew902 ewp26 ew6 ⟨by decide, by decide, by decide +kernel⟩ ⟨by decide, by decide⟩ (by decide +kernel : decode c_X10_lawful 14 = .ok (.invokevirtual 182, 3)) rfl rfl ⟨Nat.zero_le _, Nat.zero_le _⟩, ?_⟩
  refine List.forall_mem_cons.mpr ⟨s_iconst C (by decide +kernel : decode c_X10_lawful 17 = .ok (.iconst 0, 1)) rfl rfl (by decide), ?_⟩
  refine List.forall_mem_cons.mpr ⟨s_istore_n C (by decide +kernel : decode c_X10_lawful 18 = .ok (.istore_n 2, 1)) rfl rfl rfl (by decide), ?_⟩
  refine List.forall_mem_cons.mpr ⟨s_iconst C (by decide +kernel : decode c_X10_lawful 19 = .ok (.iconst 0, 1)) rfl rfl (by decide), ?_⟩
  refine List.forall_mem_cons.mpr ⟨s_istore_n C (by decide +kernel : decode c_X10_lawful 20 = .ok (.istore_n 3, 1)) rfl rfl rfl (by decide), ?_⟩
  refine List.forall_mem_cons.mpr ⟨s_iload_n C (by decide +kernel : decode c_X10_lawful 21 = .ok (.iload_n 3, 1)) rfl rfl rfl, ?_⟩
  refine List.forall_mem_cons.mpr ⟨s_aload_n C (by decide +kernel : decode c_X10_lawful 22 = .ok (.aload_n 0, 1)) rfl rfl rfl, ?_⟩
  refine List.forall_mem_cons.mpr ⟨s_getf C (by decide +kernel : decode c_X10_lawful 23 = .ok (.getfield 7, 3)) rfl rfl em_cl_X10 (by decide) ew691 rfl, ?_⟩
  refine List.forall_mem_cons.mpr ⟨s_iconst C (by decide +kernel : decode c_X10_lawful 26 = .ok (.iconst 0, 1)) rfl rfl (by decide), ?_⟩
  refine List.forall_mem_cons.mpr ⟨s_iald C (by decide +kernel : decode c_X10_lawful 27 = .ok (.iaload, 1)) rfl rfl, ?_⟩
  refine List.forall_mem_cons.mpr ⟨s_icmpge C (by decide +kernel : decode c_X10_lawful 28 = .ok (.if_icmp .ge 33, 3)) (by decide) rfl rfl rfl, ?_⟩
  refine List.forall_mem_cons.mpr ⟨s_iload_n C (by decide +kernel : decode c_X10_lawful 31 = .ok (.iload_n 2, 1)) rfl rfl rfl, ?_⟩
  refine List.forall_mem_cons.mpr ⟨s_iload_n C (by decide +kernel : decode c_X10_lawful 32 = .ok (.iload_n 3, 1)) rfl rfl rfl, ?_⟩
  refine List.forall_mem_cons.mpr ⟨s_iload_n C (by decide +kernel : decode c_X10_lawful 33 = .ok (.iload_n 1, 1)) rfl rfl rfl, ?_⟩
  refine List.forall_mem_cons.mpr ⟨s_icmpeq C (by decide +kernel : decode c_X10_lawful 34 = .ok (.if_icmp .eq 18, 3)) (by decide) rfl rfl rfl, ?_⟩
  refine List.forall_mem_cons.mpr ⟨s_aload_n C (by decide +kernel : decode c_X10_lawful 37 = .ok (.aload_n 0, 1)) rfl rfl rfl, ?_⟩
  refine List.forall_mem_cons.mpr ⟨s_iload_n C (by decide +kernel : decode c_X10_lawful 38 = .ok (.iload_n 1, 1)) rfl rfl rfl, ?_⟩
  refine List.forall_mem_cons.mpr ⟨s_iload_n C (by decide +kernel : decode c_X10_lawful 39 = .ok (.iload_n 3, 1)) rfl rfl rfl, ?_⟩
  refine List.forall_mem_cons.mpr ⟨s_callV C hFok hF (ct_X10_isLawful l D dA σ) ⟨rfl, rfl⟩ ew907 em_cl_X10 ew904 ew906 ewp27 ew6 ⟨by decide, by decide, by decide +kernel⟩ ⟨by decide, by decide⟩ (by decide +kernel : decode c_X10_lawful 40 = .ok (.invokevirtual 185, 3)) rfl rfl ⟨Nat.zero_le _, Nat.zero_le _⟩, ?_⟩
  refine List.forall_mem_cons.mpr ⟨s_ifeq C (by decide +kernel : decode c_X10_lawful 43 = .ok (.ifCond .eq 9, 3)) (by decide) rfl rfl rfl, ?_⟩
  refine List.forall_mem_cons.mpr ⟨s_iconst C (by decide +kernel : decode c_X10_lawful 46 = .ok (.iconst 1, 1)) rfl rfl (by decide), ?_⟩
  refine List.forall_mem_cons.mpr ⟨s_iload_n C (by decide +kernel : decode c_X10_lawful 47 = .ok (.iload_n 3, 1)) rfl rfl rfl, ?_⟩
  refine List.forall_mem_cons.mpr ⟨s_ishl C (by decide +kernel : decode c_X10_lawful 48 = .ok (.ishl, 1)) rfl rfl, ?_⟩
  refine List.forall_mem_cons.mpr ⟨s_goto C (by decide +kernel : decode c_X10_lawful 49 = .ok (.goto 4, 3)) (by decide) rfl, ?_⟩
  refine List.forall_mem_cons.mpr ⟨s_iconst C (by decide +kernel : decode c_X10_lawful 52 = .ok (.iconst 0, 1)) rfl rfl (by decide), ?_⟩
  refine List.forall_mem_cons.mpr ⟨s_ior C (by decide +kernel : decode c_X10_lawful 53 = .ok (.ior, 1)) rfl rfl, ?_⟩
  refine List.forall_mem_cons.mpr ⟨s_istore_n C (by decide +kernel : decode c_X10_lawful 54 = .ok (.istore_n 2, 1)) rfl rfl rfl (by decide), ?_⟩
  refine List.forall_mem_cons.mpr ⟨s_iinc C (by decide +kernel : decode c_X10_lawful 55 = .ok (.iinc 3 1, 3)) rfl rfl (by decide) (by decide), ?_⟩
  refine List.forall_mem_cons.mpr ⟨s_goto C (by decide +kernel : decode c_X10_lawful 58 = .ok (.goto (-37), 3)) (by decide) rfl, ?_⟩
  refine List.forall_mem_cons.mpr ⟨s_iload_n C (by decide +kernel : decode c_X10_lawful 61 = .ok (.iload_n 2, 1)) rfl rfl rfl, ?_⟩
  refine List.forall_mem_cons.mpr ⟨s_iret C (by decide +kernel : decode c_X10_lawful 62 = .ok (.ireturn, 1)) hret hlk ⟨Nat.le_refl 0, Nat.le_refl 0⟩, ?_⟩
  exact fun _ h => absurd h List.not_mem_nil
def thI (ok : Nat → Nat → Bool) (a : Nat) (s : Bool) : Nat → Bool
  | 0 => s
  | b + 1 => thI ok a s b && ok a b
def thO (ok : Nat → Nat → Bool) (s : Bool) : Nat → Bool
  | 0 => s
  | a + 1 => thI ok a (thO ok s a) a
def okS (B S : Nat → Nat) (set a b : Nat) : Bool := !set.testBit a || !set.testBit b || isL B S a b
def thM (B S : Nat → Nat) (set : Nat) : Bool := thO (okS B S set) (decide (pcN set 10 = 3)) (B 0)
theorem fsU_lt {P : Nat → Bool} : ∀ k x, fsU P k = some x → x < k
  | 0, x, h => by cases h
  | k + 1, x, h => by
    rw [fsU] at h
    cases hf : fsU P k with
    | some y =>
      rw [hf] at h
      have := fsU_lt k y hf
      have e : y = x := Option.some.inj h
      omega
    | none =>
      rw [hf] at h
      by_cases hp : P k = true
      · have h : (if P k = true then some k else none) = some x := h
        rw [if_pos hp] at h
        have e : k = x := Option.some.inj h
        omega
      · have h : (if P k = true then some k else none) = some x := h
        rw [if_neg hp] at h
        cases h
def sp_X10_three : em_Sp := fun av hp Q => ∃ B im kp asd rf qt ab be tx ty at9 st9 tk vl wd it mn S sb my we be9 rw fr k, av = [.ref 0, .int k] ∧ hp = (wM (nB B) im kp asd rf qt ab be tx ty at9 st9 tk vl wd it mn (nB S) sb my we be9 rw fr) ∧ GK B ∧ Z6 S ∧ (¬ k = 0 → ¬ k = 1 → Q (some (.int (-2))) (wM (nB B) im kp asd (rfM qt rf 0) qt ab be tx ty at9 st9 tk vl wd it mn (nB S) sb my we be9 rw fr)) ∧ (k = 0 → Q (some (.int (nI (cU (thM B (nw B)) (2 ^ B 0))))) (wM (nB B) im kp asd rf qt ab be tx ty at9 st9 tk vl wd it mn (nB (nw B)) sb my we be9 rw fr)) ∧ (k = 1 → Q (some (.int (oI (fsU (thM B (nw B)) (2 ^ B 0))))) (wM (nB B) im kp asd rf qt ab be tx ty at9 st9 tk vl wd it mn (nB (nw B)) sb my we be9 rw fr))
def T_X10_three : List (Nat × em_Op) := [(0, o_iload 1 1), (1, o_i2l 2), (2, o_lconst 0 3), (3, o_lconst 1 4), (4, o_call 3 none (sp_X10_in) 7), (7, o_ifne 15 10), (10, o_aload 0 11), (11, o_call 1 (some 5) (sp_X10_bad) 14), (14, o_iret), (15, o_aload 0 16), (16, o_call 1 (some 5) (sp_X10_asNow) 19), (19, o_iconst 0 20), (20, o_istore 2 21), (21, o_iconst (-1) 22), (22, o_istore 3 23), (23, o_iconst 0 24), (24, o_istore 4 26), (26, o_iload 4 28), (28, o_iconst 1 29), (29, o_aload 0 30), (30, o_getf 5 0 33), (33, o_iconst 0 34), (34, o_aldI 0 35), (35, o_ishl 36), (36, o_icmpge 170 39), (39, o_iload 4 41), (41, o_call 1 none (sp_X10_bits) 44), (44, o_iconst 3 45), (45, o_icmpne 52 48), (48, o_iconst 1 49), (49, o_goto 53), (52, o_iconst 0 53), (53, o_istore 5 55), (55, o_iconst 0 56), (56, o_istore 6 58), (58, o_iload 6 60), (60, o_aload 0 61), (61, o_getf 5 0 64), (64, o_iconst 0 65), (65, o_aldI 0 66), (66, o_icmpge 134 69), (69, o_iconst 0 70), (70, o_istore 7 72), (72, o_iload 7 74), (74, o_iload 6 76), (76, o_icmpge 128 79), (79, o_iload 5 81), (81, o_ifeq 119 84), (84, o_iload 4 86), (86, o_iload 6 88), (88, o_ishr 89), (89, o_iconst 1 90), (90, o_iand 91), (91, o_ifeq 115 94), (94, o_iload 4 96), (96, o_iload 7 98), (98, o_ishr 99), (99, o_iconst 1 100), (100, o_iand 101), (101, o_ifeq 115 104), (104, o_aload 0 105), (105, o_iload 6 107), (107, o_iload 7 109), (109, o_call 3 (some 5) (sp_X10_isLawful) 112), (112, o_ifeq 119 115), (115, o_iconst 1 116), (116, o_goto 120), (119, o_iconst 0 120), (120, o_istore 5 122), (122, o_iinc 7 1 125), (125, o_goto 72), (128, o_iinc 6 1 131), (131, o_goto 58), (134, o_iload 2 135), (135, o_iload 5 137), (137, o_ifeq 144 140), (140, o_iconst 1 141), (141, o_goto 145), (144, o_iconst 0 145), (145, o_iadd 146), (146, o_istore 2 147), (147, o_iload 5 149), (149, o_ifeq 162 152), (152, o_iload 3 153), (153, o_iconst (-1) 154), (154, o_icmpne 162 157), (157, o_iload 4 159), (159, o_goto 163), (162, o_iload 3 163), (163, o_istore 3 164), (164, o_iinc 4 1 167), (167, o_goto 26), (170, o_iload 1 171), (171, o_ifne 178 174), (174, o_iload 2 175), (175, o_goto 179), (178, o_iload 3 179), (179, o_iret)]
theorem me_X10_three : em_Me T_X10_three 8 sp_X10_three := by
  intro Q K hK hle av hp hs
  obtain ⟨B, im, kp, asd, rf, qt, ab, be, tx, ty, at9, st9, tk, vl, wd, it, mn, S, sb, my, we, be9, rw, fr, k, rfl, rfl, hB, hz, hbad, hq0, hq1⟩ := hs
  have h0 := hB.1
  have hT := nw_ok hB
  have h64 : 2 ^ B 0 ≤ 64 := Nat.pow_le_pow_right (n := 2) (by omega) h0
  refine ⟨Nat.le_of_ble_eq_true rfl, hK 0 17 0 _ _ _ ?_⟩
  refine ⟨_, _, _, rfl, fun z1 => ?_, fun z1 => ?_⟩
  · refine ⟨fun _ => ?_, fun y => absurd y (by decide)⟩
    have hk := in_01.mp z1
    refine ⟨_, _, _, _, _, _, _, _, _, _, _, _, _, _, _, _, _, _, _, _, _, _, _, _, rfl, rfl, fun so' h1 h2 => ?_⟩
    have e := nw_eq hz h1 h2
    subst e
    generalize hP : thM B (nw B) = P at hq0 hq1
    have loop : ∀ (r i : Nat), i + r = 2 ^ B 0 → K 26 [some (.ref 0), some (.int k), some (.int (nI (cU P i))), some (.int (oI (fsU P i))), some (.int (nI i)), none, none, none] [] (wM (nB B) im kp asd rf qt ab be tx ty at9 st9 tk vl wd it mn (nB (nw B)) sb my we be9 rw fr) := by
      intro r
      induction r with
      | zero =>
        intro i hi
        have hi : i = 2 ^ B 0 := by omega
        rw [hi]
        refine hK 17 9999 26 _ _ _ ?_
        refine ⟨0, rfl, by decide, fun _ => ⟨fun z => ?_, fun z => ?_⟩, fun y => absurd (show (1 : Int32) <<< (nI (B 0) &&& 31) ≤ nI (2 ^ B 0) by rw [shln _ (by omega)]; exact nI_le (Nat.le_refl _) (by omega)) y⟩
        · rcases hk with q | q
          · exact absurd q z
          · exact hq1 q
        · exact hq0 z
      | succ r ih =>
        intro i hi
        have hi64 : i < 64 := by omega
        have ep : P i = thO (okS B (nw B) i) (decide (pcN i 10 = 3)) (B 0) := by rw [← hP]; rfl
        generalize hok : okS B (nw B) i = ok at ep
        generalize hs0 : decide (pcN i 10 = 3) = s0 at ep
        have hcu := cU_le (P := P) (n := i)
        have fin : ∀ c, c = P i → K 134 [some (.ref 0), some (.int k), some (.int (nI (cU P i))), some (.int (oI (fsU P i))), some (.int (nI i)), some (.int (b1 c)), none, none] [] (wM (nB B) im kp asd rf qt ab be tx ty at9 st9 tk vl wd it mn (nB (nw B)) sb my we be9 rw fr) := by
          intro c hc
          subst hc
          have nx2 : ∀ v, v = oI (fsU P (i + 1)) → K 163 [some (.ref 0), some (.int k), some (.int (nI (cU P (i + 1)))), some (.int (oI (fsU P i))), some (.int (nI i)), some (.int (b1 (P i))), none, none] [.int v] (wM (nB B) im kp asd rf qt ab be tx ty at9 st9 tk vl wd it mn (nB (nw B)) sb my we be9 rw fr) := by
            intro v hv
            subst hv
            have := ih (i + 1) (by omega)
            rw [← nI_1 i] at this
            exact hK 89 3 163 _ _ _ (hle _ _ _ _ _ (by repeat (first | exact trivial | refine ⟨rfl, ?_⟩)) this)
          have nx1 : ∀ v, nI (cU P i) + v = nI (cU P (i + 1)) → K 145 [some (.ref 0), some (.int k), some (.int (nI (cU P i))), some (.int (oI (fsU P i))), some (.int (nI i)), some (.int (b1 (P i))), none, none] [.int v, .int (nI (cU P i))] (wM (nB B) im kp asd rf qt ab be tx ty at9 st9 tk vl wd it mn (nB (nw B)) sb my we be9 rw fr) := by
            intro v hv
            rw [← hv] at nx2
            refine hK 79 10 145 _ _ _ ?_
            refine ⟨fun z => ?_, fun z => ⟨fun y => ?_, fun y => ?_⟩⟩
            · have z := b1_0.mp z
              refine nx2 _ ?_
              rw [fsU, z]
              cases fsU P i <;> rfl
            · refine nx2 _ ?_
              rw [fsU]
              cases hf : fsU P i with
              | none => rw [hf] at y; exact absurd rfl y
              | some x => rfl
            · have zt : P i = true := by
                cases hc : P i with
                | true => rfl
                | false => exact absurd (b1_0.mpr hc) z
              refine nx2 _ ?_
              have hn : fsU P i = none := by
                cases hf : fsU P i with
                | none => rfl
                | some x =>
                  rw [hf] at y
                  have := fsU_lt i x hf
                  exact absurd y (nI_m1 (by omega))
              rw [fsU, hn]
              show nI i = oI (if P i = true then some i else none)
              rw [if_pos zt]; rfl
          refine hK 73 6 134 _ _ _ ?_
          refine ⟨fun z => ?_, fun z => ?_⟩
          · have z := b1_0.mp z
            exact nx1 _ (by rw [cU, z]; exact Int32.add_zero _)
          · have zt : P i = true := by
              cases hc : P i with
              | true => rfl
              | false => exact absurd (b1_0.mpr hc) z
            exact nx1 _ (by rw [cU, if_pos zt]; exact nI_1 _)
        have outer : ∀ (q a : Nat), a + q = B 0 → K 58 [some (.ref 0), some (.int k), some (.int (nI (cU P i))), some (.int (oI (fsU P i))), some (.int (nI i)), some (.int (b1 (thO ok s0 a))), some (.int (nI a)), none] [] (wM (nB B) im kp asd rf qt ab be tx ty at9 st9 tk vl wd it mn (nB (nw B)) sb my we be9 rw fr) := by
          intro q
          induction q with
          | zero =>
            intro a ha
            have ha : a = B 0 := by omega
            subst ha
            refine hK 35 38 58 _ _ _ ?_
            exact ⟨0, rfl, by decide, fun _ => hle _ _ _ _ _ (by repeat (first | exact trivial | refine ⟨rfl, ?_⟩)) (fin _ ep.symm), fun y => absurd (nI_le (Nat.le_refl (B 0)) (by omega)) y⟩
          | succ q ihq =>
            intro a ha
            have hnx := ihq (a + 1) (by omega)
            rw [thO, ← nI_1 a] at hnx
            have inner : ∀ (w b : Nat), b + w = a → K 72 [some (.ref 0), some (.int k), some (.int (nI (cU P i))), some (.int (oI (fsU P i))), some (.int (nI i)), some (.int (b1 (thI ok a (thO ok s0 a) b))), some (.int (nI a)), some (.int (nI b))] [] (wM (nB B) im kp asd rf qt ab be tx ty at9 st9 tk vl wd it mn (nB (nw B)) sb my we be9 rw fr) := by
              intro w
              induction w with
              | zero =>
                intro b hb
                have hb : b = a := by omega
                subst hb
                refine hK 43 30 72 _ _ _ ?_
                exact ⟨fun _ => hle _ _ _ _ _ (by repeat (first | exact trivial | refine ⟨rfl, ?_⟩)) hnx, fun y => absurd (nI_le (Nat.le_refl b) (by omega)) y⟩
              | succ w ihw =>
                intro b hb
                have nx : ∀ v, v = b1 (thI ok a (thO ok s0 a) (b + 1)) → K 120 [some (.ref 0), some (.int k), some (.int (nI (cU P i))), some (.int (oI (fsU P i))), some (.int (nI i)), some (.int (b1 (thI ok a (thO ok s0 a) b))), some (.int (nI a)), some (.int (nI b))] [.int v] (wM (nB B) im kp asd rf qt ab be tx ty at9 st9 tk vl wd it mn (nB (nw B)) sb my we be9 rw fr) := by
                  intro v hv
                  subst hv
                  have := ihw (b + 1) (by omega)
                  rw [← nI_1 b] at this
                  exact hK 68 3 120 _ _ _ this
                have eo : ok a b = (!i.testBit a || !i.testBit b || isL B (nw B) a b) := by rw [← hok]; rfl
                refine hK 43 25 72 _ _ _ ?_
                refine ⟨fun z => absurd z (nI_ge (a := b) (b := a) (by omega) (by omega)), fun _ => ?_⟩
                refine ⟨fun z => ?_, fun z => ?_⟩
                · have z := b1_0.mp z
                  exact nx _ (by rw [thI, z]; rfl)
                · have zt : thI ok a (thO ok s0 a) b = true := by
                    cases hc : thI ok a (thO ok s0 a) b with
                    | true => rfl
                    | false => exact absurd (b1_0.mpr hc) z
                  refine ⟨fun y => ?_, fun y => ⟨fun x => ?_, fun x => ?_⟩⟩
                  · have y := (bit0 (by omega) (by omega)).mp y
                    exact nx _ (by rw [thI, zt, eo, y]; rfl)
                  · have x := (bit0 (by omega) (by omega)).mp x
                    exact nx _ (by rw [thI, zt, eo, x, Bool.not_false, Bool.or_true]; rfl)
                  · refine ⟨_, _, _, _, _, _, _, _, _, _, _, _, _, _, _, _, _, _, _, _, _, _, _, _, a, b, rfl, rfl, by omega, by omega, fun u => ?_, fun u => ?_⟩
                    · have u := (lw_isL hB.2.2.2.1 hB.2.2.2.2.1 (hT a (by omega)) (hT b (by omega))).mp u
                      refine ⟨fun t => absurd t (by decide), fun _ => ?_⟩
                      exact nx _ (by rw [thI, zt, eo, u, Bool.or_true]; rfl)
                    · have u := isL_f hB.2.2.2.1 hB.2.2.2.2.1 (hT a (by omega)) (hT b (by omega)) u
                      have y1 : i.testBit a = true := by
                        cases hc : i.testBit a with
                        | true => rfl
                        | false => exact absurd ((bit0 (by omega) (by omega)).mpr hc) y
                      have x1 : i.testBit b = true := by
                        cases hc : i.testBit b with
                        | true => rfl
                        | false => exact absurd ((bit0 (by omega) (by omega)).mpr hc) x
                      refine ⟨fun _ => ?_, fun t => absurd rfl t⟩
                      exact nx _ (by rw [thI, zt, eo, u, y1, x1]; rfl)
            refine hK 35 8 58 _ _ _ ?_
            refine ⟨0, rfl, by decide, fun z => absurd z (by show ¬ nI (B 0) ≤ nI a; exact nI_ge (by omega) (by omega)), fun _ => ?_⟩
            exact hle _ _ _ _ _ (by repeat (first | exact trivial | refine ⟨rfl, ?_⟩)) (inner a 0 (by omega))
        have o0 := outer (B 0) 0 (by omega)
        rw [thO] at o0
        refine hK 17 18 26 _ _ _ ?_
        refine ⟨0, rfl, by decide, fun z => absurd z (by show ¬ (1 : Int32) <<< (nI (B 0) &&& 31) ≤ nI i; rw [shln _ (by omega)]; exact nI_ge (by omega) (by omega)), fun _ => ?_⟩
        have hpc := pcN_le i 10
        refine ⟨_, rfl, ?_⟩
        rw [btr_nI (by omega) 10 (by omega)]
        refine ⟨fun y => ?_, fun y => ?_⟩
        · have y : ¬ pcN i 10 = 3 := fun q => y (by rw [q]; rfl)
          rw [← hs0, decide_eq_false y] at o0
          exact hle _ _ _ _ _ (by repeat (first | exact trivial | refine ⟨rfl, ?_⟩)) o0
        · have y : pcN i 10 = 3 := (nI_eq (b := 3) (by omega) (by omega)).mp y
          rw [← hs0, decide_eq_true y] at o0
          exact hle _ _ _ _ _ (by repeat (first | exact trivial | refine ⟨rfl, ?_⟩)) o0
    exact hle _ _ _ _ _ (by repeat (first | exact trivial | refine ⟨rfl, ?_⟩)) (loop (2 ^ B 0) 0 (by omega))
  · exact ⟨fun y => absurd rfl y, fun _ => ⟨_, _, _, _, _, _, _, _, _, _, _, _, _, _, _, _, _, _, _, _, _, _, _, _, rfl, rfl, hbad (fun q => z1 (in_01.mpr (Or.inl q))) (fun q => z1 (in_01.mpr (Or.inr q)))⟩⟩
abbrev rm_X10_three : Room := { frames := 3, cells := 0, slots := 0, locals := 65 }
set_option maxRecDepth 100000 in
set_option maxHeartbeats 4000000 in
theorem ct_X10_three (l : Launch) (D : va_G) (dA : Nat → ClassId) (σ : Nat → Nat) : em_CT l D em_cl dA σ (em_F σ) y_X10_three c_X10_three 8 (Option.some ClassFile.FieldType.int) rm_X10_three (sp_X10_three ) := by
  refine em_CT_of (T := T_X10_three ) (em_F_ok σ) (by decide) (fun p e s m args below meth c A ρ Q C hFok hF hret hlk hin => ?_) (me_X10_three )
  unfold T_X10_three
  refine List.forall_mem_cons.mpr ⟨s_iload_n C (by decide +kernel : decode c_X10_three 0 = .ok (.iload_n 1, 1)) rfl rfl rfl, ?_⟩
  refine List.forall_mem_cons.mpr ⟨s_i2l C (by decide +kernel : decode c_X10_three 1 = .ok (.i2l, 1)) rfl rfl, ?_⟩
  refine List.forall_mem_cons.mpr ⟨s_lconst C (by decide +kernel : decode c_X10_three 2 = .ok (.lconst 0, 1)) rfl rfl (by decide), ?_⟩
  refine List.forall_mem_cons.mpr ⟨s_lconst C (by decide +kernel : decode c_X10_three 3 = .ok (.lconst 1, 1)) rfl rfl (by decide), ?_⟩
  refine List.forall_mem_cons.mpr ⟨s_callS C hFok hF (ct_X10_in l D dA σ) ⟨rfl, rfl⟩ ew771 ew769 ew770 ew6 ⟨by decide, by decide, by decide +kernel⟩ ⟨by decide, by decide⟩ (by decide +kernel : decode c_X10_three 4 = .ok (.invokestatic 69, 3)) rfl rfl ⟨Nat.zero_le _, Nat.zero_le _⟩, ?_⟩
  refine List.forall_mem_cons.mpr ⟨s_ifne C (by decide +kernel : decode c_X10_three 7 = .ok (.ifCond .ne 8, 3)) (by decide) rfl rfl rfl, ?_⟩
  refine List.forall_mem_cons.mpr ⟨s_aload_n C (by decide +kernel : decode c_X10_three 10 = .ok (.aload_n 0, 1)) rfl rfl rfl, ?_⟩
  refine List.forall_mem_cons.mpr ⟨s_callV C hFok hF (ct_X10_bad l D dA σ) ⟨rfl, rfl⟩ ew779 em_cl_X10 ew776 ew778 ewp13 ew6 ⟨by decide, by decide, by decide +kernel⟩ ⟨by decide, by decide⟩ (by decide +kernel : decode c_X10_three 11 = .ok (.invokevirtual 84, 3)) rfl rfl ⟨Nat.zero_le _, Nat.zero_le _⟩, ?_⟩
  refine List.forall_mem_cons.mpr ⟨s_iret C (by decide +kernel : decode c_X10_three 14 = .ok (.ireturn, 1)) hret hlk ⟨Nat.le_refl 0, Nat.le_refl 0⟩, ?_⟩
  refine List.forall_mem_cons.mpr ⟨s_aload_n C (by decide +kernel : decode c_X10_three 15 = .ok (.aload_n 0, 1)) rfl rfl rfl, ?_⟩
  refine List.forall_mem_cons.mpr ⟨s_callV C hFok hF (ct_X10_asNow l D dA σ) ⟨rfl, rfl⟩ ew903 em_cl_X10 ew900 ew902 ewp26 ew6 ⟨by decide, by decide, by decide +kernel⟩ ⟨by decide, by decide⟩ (by decide +kernel : decode c_X10_three 16 = .ok (.invokevirtual 182, 3)) rfl rfl ⟨Nat.zero_le _, Nat.zero_le _⟩, ?_⟩
  refine List.forall_mem_cons.mpr ⟨s_iconst C (by decide +kernel : decode c_X10_three 19 = .ok (.iconst 0, 1)) rfl rfl (by decide), ?_⟩
  refine List.forall_mem_cons.mpr ⟨s_istore_n C (by decide +kernel : decode c_X10_three 20 = .ok (.istore_n 2, 1)) rfl rfl rfl (by decide), ?_⟩
  refine List.forall_mem_cons.mpr ⟨s_iconst C (by decide +kernel : decode c_X10_three 21 = .ok (.iconst (-1), 1)) rfl rfl (by decide), ?_⟩
  refine List.forall_mem_cons.mpr ⟨s_istore_n C (by decide +kernel : decode c_X10_three 22 = .ok (.istore_n 3, 1)) rfl rfl rfl (by decide), ?_⟩
  refine List.forall_mem_cons.mpr ⟨s_iconst C (by decide +kernel : decode c_X10_three 23 = .ok (.iconst 0, 1)) rfl rfl (by decide), ?_⟩
  refine List.forall_mem_cons.mpr ⟨s_istore C (by decide +kernel : decode c_X10_three 24 = .ok (.istore 4, 2)) rfl rfl (by decide), ?_⟩
  refine List.forall_mem_cons.mpr ⟨s_iload C (by decide +kernel : decode c_X10_three 26 = .ok (.iload 4, 2)) rfl rfl, ?_⟩
  refine List.forall_mem_cons.mpr ⟨s_iconst C (by decide +kernel : decode c_X10_three 28 = .ok (.iconst 1, 1)) rfl rfl (by decide), ?_⟩
  refine List.forall_mem_cons.mpr ⟨s_aload_n C (by decide +kernel : decode c_X10_three 29 = .ok (.aload_n 0, 1)) rfl rfl rfl, ?_⟩
  refine List.forall_mem_cons.mpr ⟨s_getf C (by decide +kernel : decode c_X10_three 30 = .ok (.getfield 7, 3)) rfl rfl em_cl_X10 (by decide) ew691 rfl, ?_⟩
  refine List.forall_mem_cons.mpr ⟨s_iconst C (by decide +kernel : decode c_X10_three 33 = .ok (.iconst 0, 1)) rfl rfl (by decide), ?_⟩
  refine List.forall_mem_cons.mpr ⟨s_iald C (by decide +kernel : decode c_X10_three 34 = .ok (.iaload, 1)) rfl rfl, ?_⟩
  refine List.forall_mem_cons.mpr ⟨s_ishl C (by decide +kernel : decode c_X10_three 35 = .ok (.ishl, 1)) rfl rfl, ?_⟩
  refine List.forall_mem_cons.mpr ⟨s_icmpge C (by decide +kernel : decode c_X10_three 36 = .ok (.if_icmp .ge 134, 3)) (by decide) rfl rfl rfl, ?_⟩
  refine List.forall_mem_cons.mpr ⟨s_iload C (by decide +kernel : decode c_X10_three 39 = .ok (.iload 4, 2)) rfl rfl, ?_⟩
  refine List.forall_mem_cons.mpr ⟨s_callS C hFok hF (ct_X10_bits l D dA σ) ⟨rfl, rfl⟩ ew895 ew893 ew894 ew6 ⟨by decide, by decide, by decide +kernel⟩ ⟨by decide, by decide⟩ (by decide +kernel : decode c_X10_three 41 = .ok (.invokestatic 176, 3)) rfl rfl ⟨Nat.zero_le _, Nat.zero_le _⟩, ?_⟩
  refine List.forall_mem_cons.mpr ⟨s_iconst C (by decide +kernel : decode c_X10_three 44 = .ok (.iconst 3, 1)) rfl rfl (by decide), ?_⟩
  refine List.forall_mem_cons.mpr ⟨s_icmpne C (by decide +kernel : decode c_X10_three 45 = .ok (.if_icmp .ne 7, 3)) (by decide) rfl rfl rfl, ?_⟩
  refine List.forall_mem_cons.mpr ⟨s_iconst C (by decide +kernel : decode c_X10_three 48 = .ok (.iconst 1, 1)) rfl rfl (by decide), ?_⟩
  refine List.forall_mem_cons.mpr ⟨s_goto C (by decide +kernel : decode c_X10_three 49 = .ok (.goto 4, 3)) (by decide) rfl, ?_⟩
  refine List.forall_mem_cons.mpr ⟨s_iconst C (by decide +kernel : decode c_X10_three 52 = .ok (.iconst 0, 1)) rfl rfl (by decide), ?_⟩
  refine List.forall_mem_cons.mpr ⟨s_istore C (by decide +kernel : decode c_X10_three 53 = .ok (.istore 5, 2)) rfl rfl (by decide), ?_⟩
  refine List.forall_mem_cons.mpr ⟨s_iconst C (by decide +kernel : decode c_X10_three 55 = .ok (.iconst 0, 1)) rfl rfl (by decide), ?_⟩
  refine List.forall_mem_cons.mpr ⟨s_istore C (by decide +kernel : decode c_X10_three 56 = .ok (.istore 6, 2)) rfl rfl (by decide), ?_⟩
  refine List.forall_mem_cons.mpr ⟨s_iload C (by decide +kernel : decode c_X10_three 58 = .ok (.iload 6, 2)) rfl rfl, ?_⟩
  refine List.forall_mem_cons.mpr ⟨s_aload_n C (by decide +kernel : decode c_X10_three 60 = .ok (.aload_n 0, 1)) rfl rfl rfl, ?_⟩
  refine List.forall_mem_cons.mpr ⟨s_getf C (by decide +kernel : decode c_X10_three 61 = .ok (.getfield 7, 3)) rfl rfl em_cl_X10 (by decide) ew691 rfl, ?_⟩
  refine List.forall_mem_cons.mpr ⟨s_iconst C (by decide +kernel : decode c_X10_three 64 = .ok (.iconst 0, 1)) rfl rfl (by decide), ?_⟩
  refine List.forall_mem_cons.mpr ⟨s_iald C (by decide +kernel : decode c_X10_three 65 = .ok (.iaload, 1)) rfl rfl, ?_⟩
  refine List.forall_mem_cons.mpr ⟨s_icmpge C (by decide +kernel : decode c_X10_three 66 = .ok (.if_icmp .ge 68, 3)) (by decide) rfl rfl rfl, ?_⟩
  refine List.forall_mem_cons.mpr ⟨s_iconst C (by decide +kernel : decode c_X10_three 69 = .ok (.iconst 0, 1)) rfl rfl (by decide), ?_⟩
  refine List.forall_mem_cons.mpr ⟨s_istore C (by decide +kernel : decode c_X10_three 70 = .ok (.istore 7, 2)) rfl rfl (by decide), ?_⟩
  refine List.forall_mem_cons.mpr ⟨s_iload C (by decide +kernel : decode c_X10_three 72 = .ok (.iload 7, 2)) rfl rfl, ?_⟩
  refine List.forall_mem_cons.mpr ⟨s_iload C (by decide +kernel : decode c_X10_three 74 = .ok (.iload 6, 2)) rfl rfl, ?_⟩
  refine List.forall_mem_cons.mpr ⟨s_icmpge C (by decide +kernel : decode c_X10_three 76 = .ok (.if_icmp .ge 52, 3)) (by decide) rfl rfl rfl, ?_⟩
  refine List.forall_mem_cons.mpr ⟨s_iload C (by decide +kernel : decode c_X10_three 79 = .ok (.iload 5, 2)) rfl rfl, ?_⟩
  refine List.forall_mem_cons.mpr ⟨s_ifeq C (by decide +kernel : decode c_X10_three 81 = .ok (.ifCond .eq 38, 3)) (by decide) rfl rfl rfl, ?_⟩
  refine List.forall_mem_cons.mpr ⟨s_iload C (by decide +kernel : decode c_X10_three 84 = .ok (.iload 4, 2)) rfl rfl, ?_⟩
  refine List.forall_mem_cons.mpr ⟨s_iload C (by decide +kernel : decode c_X10_three 86 = .ok (.iload 6, 2)) rfl rfl, ?_⟩
  refine List.forall_mem_cons.mpr ⟨s_ishr C (by decide +kernel : decode c_X10_three 88 = .ok (.ishr, 1)) rfl rfl, ?_⟩
  refine List.forall_mem_cons.mpr ⟨s_iconst C (by decide +kernel : decode c_X10_three 89 = .ok (.iconst 1, 1)) rfl rfl (by decide), ?_⟩
  refine List.forall_mem_cons.mpr ⟨s_iand C (by decide +kernel : decode c_X10_three 90 = .ok (.iand, 1)) rfl rfl, ?_⟩
  refine List.forall_mem_cons.mpr ⟨s_ifeq C (by decide +kernel : decode c_X10_three 91 = .ok (.ifCond .eq 24, 3)) (by decide) rfl rfl rfl, ?_⟩
  refine List.forall_mem_cons.mpr ⟨s_iload C (by decide +kernel : decode c_X10_three 94 = .ok (.iload 4, 2)) rfl rfl, ?_⟩
  refine List.forall_mem_cons.mpr ⟨s_iload C (by decide +kernel : decode c_X10_three 96 = .ok (.iload 7, 2)) rfl rfl, ?_⟩
  refine List.forall_mem_cons.mpr ⟨s_ishr C (by decide +kernel : decode c_X10_three 98 = .ok (.ishr, 1)) rfl rfl, ?_⟩
  refine List.forall_mem_cons.mpr ⟨s_iconst C (by decide +kernel : decode c_X10_three 99 = .ok (.iconst 1, 1)) rfl rfl (by decide), ?_⟩
  refine List.forall_mem_cons.mpr ⟨s_iand C (by decide +kernel : decode c_X10_three 100 = .ok (.iand, 1)) rfl rfl, ?_⟩
  refine List.forall_mem_cons.mpr ⟨s_ifeq C (by decide +kernel : decode c_X10_three 101 = .ok (.ifCond .eq 14, 3)) (by decide) rfl rfl rfl, ?_⟩
  refine List.forall_mem_cons.mpr ⟨s_aload_n C (by decide +kernel : decode c_X10_three 104 = .ok (.aload_n 0, 1)) rfl rfl rfl, ?_⟩
  refine List.forall_mem_cons.mpr ⟨s_iload C (by decide +kernel : decode c_X10_three 105 = .ok (.iload 6, 2)) rfl rfl, ?_⟩
  refine List.forall_mem_cons.mpr ⟨s_iload C (by decide +kernel : decode c_X10_three 107 = .ok (.iload 7, 2)) rfl rfl, ?_⟩
  refine List.forall_mem_cons.mpr ⟨s_callV C hFok hF (ct_X10_isLawful l D dA σ) ⟨rfl, rfl⟩ ew907 em_cl_X10 ew904 ew906 ewp27 ew6 ⟨by decide, by decide, by decide +kernel⟩ ⟨by decide, by decide⟩ (by decide +kernel : decode c_X10_three 109 = .ok (.invokevirtual 185, 3)) rfl rfl ⟨Nat.zero_le _, Nat.zero_le _⟩, ?_⟩
  refine List.forall_mem_cons.mpr ⟨s_ifeq C (by decide +kernel : decode c_X10_three 112 = .ok (.ifCond .eq 7, 3)) (by decide) rfl rfl rfl, ?_⟩
  refine List.forall_mem_cons.mpr ⟨s_iconst C (by decide +kernel : decode c_X10_three 115 = .ok (.iconst 1, 1)) rfl rfl (by decide), ?_⟩
  refine List.forall_mem_cons.mpr ⟨s_goto C (by decide +kernel : decode c_X10_three 116 = .ok (.goto 4, 3)) (by decide) rfl, ?_⟩
  refine List.forall_mem_cons.mpr ⟨s_iconst C (by decide +kernel : decode c_X10_three 119 = .ok (.iconst 0, 1)) rfl rfl (by decide), ?_⟩
  refine List.forall_mem_cons.mpr ⟨s_istore C (by decide +kernel : decode c_X10_three 120 = .ok (.istore 5, 2)) rfl rfl (by decide), ?_⟩
  refine List.forall_mem_cons.mpr ⟨s_iinc C (by decide +kernel : decode c_X10_three 122 = .ok (.iinc 7 1, 3)) rfl rfl (by decide) (by decide), ?_⟩
  refine List.forall_mem_cons.mpr ⟨s_goto C (by decide +kernel : decode c_X10_three 125 = .ok (.goto (-53), 3)) (by decide) rfl, ?_⟩
  refine List.forall_mem_cons.mpr ⟨s_iinc C (by decide +kernel : decode c_X10_three 128 = .ok (.iinc 6 1, 3)) rfl rfl (by decide) (by decide), ?_⟩
  refine List.forall_mem_cons.mpr ⟨s_goto C (by decide +kernel : decode c_X10_three 131 = .ok (.goto (-73), 3)) (by decide) rfl, ?_⟩
  refine List.forall_mem_cons.mpr ⟨s_iload_n C (by decide +kernel : decode c_X10_three 134 = .ok (.iload_n 2, 1)) rfl rfl rfl, ?_⟩
  refine List.forall_mem_cons.mpr ⟨s_iload C (by decide +kernel : decode c_X10_three 135 = .ok (.iload 5, 2)) rfl rfl, ?_⟩
  refine List.forall_mem_cons.mpr ⟨s_ifeq C (by decide +kernel : decode c_X10_three 137 = .ok (.ifCond .eq 7, 3)) (by decide) rfl rfl rfl, ?_⟩
  refine List.forall_mem_cons.mpr ⟨s_iconst C (by decide +kernel : decode c_X10_three 140 = .ok (.iconst 1, 1)) rfl rfl (by decide), ?_⟩
  refine List.forall_mem_cons.mpr ⟨s_goto C (by decide +kernel : decode c_X10_three 141 = .ok (.goto 4, 3)) (by decide) rfl, ?_⟩
  refine List.forall_mem_cons.mpr ⟨s_iconst C (by decide +kernel : decode c_X10_three 144 = .ok (.iconst 0, 1)) rfl rfl (by decide), ?_⟩
  refine List.forall_mem_cons.mpr ⟨s_iadd C (by decide +kernel : decode c_X10_three 145 = .ok (.iadd, 1)) rfl rfl, ?_⟩
  refine List.forall_mem_cons.mpr ⟨s_istore_n C (by decide +kernel : decode c_X10_three 146 = .ok (.istore_n 2, 1)) rfl rfl rfl (by decide), ?_⟩
  refine List.forall_mem_cons.mpr ⟨s_iload C (by decide +kernel : decode c_X10_three 147 = .ok (.iload 5, 2)) rfl rfl, ?_⟩
  refine List.forall_mem_cons.mpr ⟨s_ifeq C (by decide +kernel : decode c_X10_three 149 = .ok (.ifCond .eq 13, 3)) (by decide) rfl rfl rfl, ?_⟩
  refine List.forall_mem_cons.mpr ⟨s_iload_n C (by decide +kernel : decode c_X10_three 152 = .ok (.iload_n 3, 1)) rfl rfl rfl, ?_⟩
  refine List.forall_mem_cons.mpr ⟨s_iconst C (by decide +kernel : decode c_X10_three 153 = .ok (.iconst (-1), 1)) rfl rfl (by decide), ?_⟩
  refine List.forall_mem_cons.mpr ⟨s_icmpne C (by decide +kernel : decode c_X10_three 154 = .ok (.if_icmp .ne 8, 3)) (by decide) rfl rfl rfl, ?_⟩
  refine List.forall_mem_cons.mpr ⟨s_iload C (by decide +kernel : decode c_X10_three 157 = .ok (.iload 4, 2)) rfl rfl, ?_⟩
  refine List.forall_mem_cons.mpr ⟨s_goto C (by decide +kernel : decode c_X10_three 159 = .ok (.goto 4, 3)) (by decide) rfl, ?_⟩
  refine List.forall_mem_cons.mpr ⟨s_iload_n C (by decide +kernel : decode c_X10_three 162 = .ok (.iload_n 3, 1)) rfl rfl rfl, ?_⟩
  refine List.forall_mem_cons.mpr ⟨s_istore_n C (by decide +kernel : decode c_X10_three 163 = .ok (.istore_n 3, 1)) rfl rfl rfl (by decide), ?_⟩
  refine List.forall_mem_cons.mpr ⟨s_iinc C (by decide +kernel : decode c_X10_three 164 = .ok (.iinc 4 1, 3)) rfl rfl (by decide) (by decide), ?_⟩
  refine List.forall_mem_cons.mpr ⟨s_goto C (by decide +kernel : decode c_X10_three 167 = .ok (.goto (-141), 3)) (by decide) rfl, ?_⟩
  refine List.forall_mem_cons.mpr ⟨s_iload_n C (by decide +kernel : decode c_X10_three 170 = .ok (.iload_n 1, 1)) rfl rfl rfl, ?_⟩
  refine List.forall_mem_cons.mpr ⟨s_ifne C (by decide +kernel : decode c_X10_three 171 = .ok (.ifCond .ne 7, 3)) (by decide) rfl rfl rfl, ?_⟩
  refine List.forall_mem_cons.mpr ⟨s_iload_n C (by decide +kernel : decode c_X10_three 174 = .ok (.iload_n 2, 1)) rfl rfl rfl, ?_⟩
  refine List.forall_mem_cons.mpr ⟨s_goto C (by decide +kernel : decode c_X10_three 175 = .ok (.goto 4, 3)) (by decide) rfl, ?_⟩
  refine List.forall_mem_cons.mpr ⟨s_iload_n C (by decide +kernel : decode c_X10_three 178 = .ok (.iload_n 3, 1)) rfl rfl rfl, ?_⟩
  refine List.forall_mem_cons.mpr ⟨s_iret C (by decide +kernel : decode c_X10_three 179 = .ok (.ireturn, 1)) hret hlk ⟨Nat.le_refl 0, Nat.le_refl 0⟩, ?_⟩
  exact fun _ h => absurd h List.not_mem_nil
