/-! ===== children; what there is ===== -/
def gcR : Nat → Nat → Nat → Nat
  | 0, a, _ => a
  | f + 1, a, b => if b = 0 then a else gcR f b (a % b)
def sp_X10_divisor : em_Sp := fun av hp Q => ∃ a b, av = [.long (nL a), .long (nL b)] ∧ a ≤ 1024 ∧ b ≤ 1024 ∧ Q (some (.long (nL (gcR 2000 a b)))) hp
def T_X10_divisor : List (Nat × em_Op) := [(0, o_lload 0 1), (1, o_lstore 4 3), (3, o_lload 2 4), (4, o_lstore 6 6), (6, o_lload 6 8), (8, o_lconst 0 9), (9, o_lcmp 10), (10, o_ifeq 31 13), (13, o_lload 4 15), (15, o_lload 6 17), (17, o_lrem 18), (18, o_lstore 8 20), (20, o_lload 6 22), (22, o_lstore 4 24), (24, o_lload 8 26), (26, o_lstore 6 28), (28, o_goto 6), (31, o_lload 4 33), (33, o_lret)]
theorem gcR_0 (a : Nat) : ∀ f, gcR f a 0 = a
  | 0 => rfl
  | f + 1 => by rw [gcR, if_pos rfl]
theorem me_X10_divisor : em_Me T_X10_divisor 10 sp_X10_divisor := by
  intro Q K hK hle av hp hs
  obtain ⟨a0, b0, rfl, ha0, hb0, hq⟩ := hs
  refine ⟨Nat.le_of_ble_eq_true rfl, ?_⟩
  have loop : ∀ (f x y : Nat) (x8 x9 : Option Value), x ≤ 1024 → y ≤ 1024 → y < f → gcR f x y = gcR 2000 a0 b0 → K 6 [some (.long (nL a0)), none, some (.long (nL b0)), none, some (.long (nL x)), none, some (.long (nL y)), none, none, none] [] hp := by
    intro f
    induction f with
    | zero => intro x y x8 x9 hx hy hf; omega
    | succ f ih =>
      intro x y x8 x9 hx hy hf he
      refine hK 4 9999 6 _ _ _ ?_
      refine ⟨fun z => ?_, fun z => ?_⟩
      · have z := (nL_0 (by omega)).mp (lg_cmp0.mp z)
        rw [z, gcR_0] at he
        rw [← he] at hq
        exact hq
      · have z : ¬ y = 0 := fun q => z (lg_cmp0.mpr (by rw [q]; rfl))
        rw [gcR, if_neg z] at he
        have hm := Nat.mod_lt x (show y > 0 by omega)
        have := ih y (x % y) none none hy (by omega) (by omega) he
        have er := nL_rem (a := x) (b := y) (by omega) (by omega)
        rw [← er] at this
        exact ⟨fun q => z ((nL_0 (by omega)).mp q), hle _ _ _ _ _ (by repeat (first | exact trivial | refine ⟨rfl, ?_⟩)) this⟩
  exact hK 0 4 0 _ _ _ (loop 2000 a0 b0 none none ha0 hb0 (by omega) rfl)
abbrev rm_X10_divisor : Room := { frames := 0, cells := 0, slots := 0, locals := 0 }
set_option maxRecDepth 100000 in
set_option maxHeartbeats 4000000 in
theorem ct_X10_divisor (l : Launch) (D : va_G) (dA : Nat → ClassId) (σ : Nat → Nat) : em_CT l D em_cl dA σ (em_F σ) y_X10_divisor c_X10_divisor 10 (Option.some ClassFile.FieldType.long) rm_X10_divisor (sp_X10_divisor ) := by
  refine em_CT_of (T := T_X10_divisor ) (em_F_ok σ) (by decide) (fun p e s m args below meth c A ρ Q C hFok hF hret hlk hin => ?_) (me_X10_divisor )
  unfold T_X10_divisor
  refine List.forall_mem_cons.mpr ⟨s_lload_n C (by decide +kernel : decode c_X10_divisor 0 = .ok (.lload_n 0, 1)) rfl rfl rfl, ?_⟩
  refine List.forall_mem_cons.mpr ⟨s_lstore C (by decide +kernel : decode c_X10_divisor 1 = .ok (.lstore 4, 2)) rfl rfl (by decide), ?_⟩
  refine List.forall_mem_cons.mpr ⟨s_lload_n C (by decide +kernel : decode c_X10_divisor 3 = .ok (.lload_n 2, 1)) rfl rfl rfl, ?_⟩
  refine List.forall_mem_cons.mpr ⟨s_lstore C (by decide +kernel : decode c_X10_divisor 4 = .ok (.lstore 6, 2)) rfl rfl (by decide), ?_⟩
  refine List.forall_mem_cons.mpr ⟨s_lload C (by decide +kernel : decode c_X10_divisor 6 = .ok (.lload 6, 2)) rfl rfl, ?_⟩
  refine List.forall_mem_cons.mpr ⟨s_lconst C (by decide +kernel : decode c_X10_divisor 8 = .ok (.lconst 0, 1)) rfl rfl (by decide), ?_⟩
  refine List.forall_mem_cons.mpr ⟨s_lcmp C (by decide +kernel : decode c_X10_divisor 9 = .ok (.lcmp, 1)) rfl rfl, ?_⟩
  refine List.forall_mem_cons.mpr ⟨s_ifeq C (by decide +kernel : decode c_X10_divisor 10 = .ok (.ifCond .eq 21, 3)) (by decide) rfl rfl rfl, ?_⟩
  refine List.forall_mem_cons.mpr ⟨s_lload C (by decide +kernel : decode c_X10_divisor 13 = .ok (.lload 4, 2)) rfl rfl, ?_⟩
  refine List.forall_mem_cons.mpr ⟨s_lload C (by decide +kernel : decode c_X10_divisor 15 = .ok (.lload 6, 2)) rfl rfl, ?_⟩
  refine List.forall_mem_cons.mpr ⟨s_lrem C (by decide +kernel : decode c_X10_divisor 17 = .ok (.lrem, 1)) rfl rfl, ?_⟩
  refine List.forall_mem_cons.mpr ⟨s_lstore C (by decide +kernel : decode c_X10_divisor 18 = .ok (.lstore 8, 2)) rfl rfl (by decide), ?_⟩
  refine List.forall_mem_cons.mpr ⟨s_lload C (by decide +kernel : decode c_X10_divisor 20 = .ok (.lload 6, 2)) rfl rfl, ?_⟩
  refine List.forall_mem_cons.mpr ⟨s_lstore C (by decide +kernel : decode c_X10_divisor 22 = .ok (.lstore 4, 2)) rfl rfl (by decide), ?_⟩
  refine List.forall_mem_cons.mpr ⟨s_lload C (by decide +kernel : decode c_X10_divisor 24 = .ok (.lload 8, 2)) rfl rfl, ?_⟩
  refine List.forall_mem_cons.mpr ⟨s_lstore C (by decide +kernel : decode c_X10_divisor 26 = .ok (.lstore 6, 2)) rfl rfl (by decide), ?_⟩
  refine List.forall_mem_cons.mpr ⟨s_goto C (by decide +kernel : decode c_X10_divisor 28 = .ok (.goto (-22), 3)) (by decide) rfl, ?_⟩
  refine List.forall_mem_cons.mpr ⟨s_lload C (by decide +kernel : decode c_X10_divisor 31 = .ok (.lload 4, 2)) rfl rfl, ?_⟩
  refine List.forall_mem_cons.mpr ⟨s_lret C (by decide +kernel : decode c_X10_divisor 33 = .ok (.lreturn, 1)) hret hlk ⟨Nat.le_refl 0, Nat.le_refl 0⟩, ?_⟩
  exact fun _ h => absurd h List.not_mem_nil
def suB (d s : Nat) : Bool := decide (s &&& c10 d = 0)
def faB (w d x t k s : Nat) : Bool := suB d s && decide (k ≤ cn w ((x ^^^ s) ^^^ t))
theorem cU_pos {P : Nat → Bool} : ∀ {n : Nat} (j : Nat), j < n → P j = true → 0 < cU P n
  | 0, j, h, _ => by omega
  | n + 1, j, h, hp => by
    rw [cU]
    by_cases e : j = n
    · subst e; rw [if_pos hp]; omega
    · have := cU_pos (P := P) (n := n) j (by omega) hp
      omega
def sp_X10_child : em_Sp := fun av hp Q => ∃ B im kp asd rf qt ab be tx ty at9 st9 tk vl wd it mn so sb my we be9 rw fr a b t k, av = [.ref 0, .int a, .int b, .int t, .int k] ∧ hp = (wM (nB B) im kp asd rf qt ab be tx ty at9 st9 tk vl wd it mn so sb my we be9 rw fr) ∧ GK B ∧ (¬ (h2 (nI (B 0)) a b ∧ hs (nI (B 0)) t ∧ chk k) → Q (some (.int (-2))) (wM (nB B) im kp asd (rfM qt rf 0) qt ab be tx ty at9 st9 tk vl wd it mn so sb my we be9 rw fr)) ∧ (∀ x y z j, a = nI x → b = nI y → t = nI z → k = nI j → x < B 0 → y < B 0 → x ≠ y → z < B 0 → j ≤ 20 → Q (some (.int 1)) (wM (nB B) im kp asd rf qt (nL (cU (faB (B 5) (B (14 + x) ^^^ B (14 + y)) (B (14 + x)) (B (14 + z)) j) 1024 / gcR 2000 (cU (faB (B 5) (B (14 + x) ^^^ B (14 + y)) (B (14 + x)) (B (14 + z)) j) 1024) (cU (suB (B (14 + x) ^^^ B (14 + y))) 1024))) (nL (cU (suB (B (14 + x) ^^^ B (14 + y))) 1024 / gcR 2000 (cU (faB (B 5) (B (14 + x) ^^^ B (14 + y)) (B (14 + x)) (B (14 + z)) j) 1024) (cU (suB (B (14 + x) ^^^ B (14 + y))) 1024))) tx ty at9 st9 tk vl wd it mn so sb my we be9 rw fr))
theorem gcR_le : ∀ f a b, a ≤ 1024 → b ≤ 1024 → gcR f a b ≤ 1024
  | 0, a, b, h, _ => h
  | f + 1, a, b, h1, h2 => by
    rw [gcR]
    split
    · exact h1
    · have := Nat.mod_le a b
      exact gcR_le f b (a % b) h2 (by omega)
theorem gcR_pos : ∀ f a b, 0 < b ∨ 0 < a ∧ b = 0 → 0 < f ∨ 0 < a → b < f → 0 < gcR f a b
  | 0, a, b, _, _, h => by omega
  | f + 1, a, b, h, _, h3 => by
    rw [gcR]
    by_cases hb : b = 0
    · rw [if_pos hb]; omega
    · rw [if_neg hb]
      have := Nat.mod_lt a (show b > 0 by omega)
      by_cases hm : a % b = 0
      · rw [hm, gcR_0]; omega
      · exact gcR_pos f b (a % b) (Or.inl (by omega)) (Or.inr (by omega)) (by omega)
def T_X10_child : List (Nat × em_Op) := [(0, o_aload 0 1), (1, o_iload 1 2), (2, o_iload 2 3), (3, o_call 3 (some 5) (sp_X10_areTwo) 6), (6, o_ifeq 30 9), (9, o_aload 0 10), (10, o_iload 3 11), (11, o_call 2 (some 5) (sp_X10_isPerson) 14), (14, o_ifeq 30 17), (17, o_iload 4 19), (19, o_i2l 20), (20, o_lconst 0 21), (21, o_lconst 20 24), (24, o_call 3 none (sp_X10_in) 27), (27, o_ifne 35 30), (30, o_aload 0 31), (31, o_call 1 (some 5) (sp_X10_bad) 34), (34, o_iret), (35, o_aload 0 36), (36, o_getf 5 0 39), (39, o_iconst 14 41), (41, o_iload 1 42), (42, o_iadd 43), (43, o_aldI 0 44), (44, o_aload 0 45), (45, o_getf 5 0 48), (48, o_iconst 14 50), (50, o_iload 2 51), (51, o_iadd 52), (52, o_aldI 0 53), (53, o_ixor 54), (54, o_istore 5 56), (56, o_lconst 0 57), (57, o_lstore 6 59), (59, o_lconst 0 60), (60, o_lstore 8 62), (62, o_iconst 0 63), (63, o_istore 10 65), (65, o_iload 10 67), (67, o_iconst 1024 70), (70, o_icmpge 140 73), (73, o_iload 10 75), (75, o_iload 5 77), (77, o_iconst (-1) 78), (78, o_ixor 79), (79, o_iand 80), (80, o_ifne 134 83), (83, o_aload 0 84), (84, o_getf 5 0 87), (87, o_iconst 14 89), (89, o_iload 1 90), (90, o_iadd 91), (91, o_aldI 0 92), (92, o_iload 10 94), (94, o_ixor 95), (95, o_istore 11 97), (97, o_lload 8 99), (99, o_lconst 1 100), (100, o_ladd 101), (101, o_lstore 8 103), (103, o_lload 6 105), (105, o_aload 0 106), (106, o_iload 11 108), (108, o_aload 0 109), (109, o_getf 5 0 112), (112, o_iconst 14 114), (114, o_iload 3 115), (115, o_iadd 116), (116, o_aldI 0 117), (117, o_ixor 118), (118, o_call 2 (some 5) (sp_X10_counted) 121), (121, o_iload 4 123), (123, o_icmplt 130 126), (126, o_lconst 1 127), (127, o_goto 131), (130, o_lconst 0 131), (131, o_ladd 132), (132, o_lstore 6 134), (134, o_iinc 10 1 137), (137, o_goto 65), (140, o_lload 6 142), (142, o_lload 8 144), (144, o_call 2 none (sp_X10_divisor) 147), (147, o_lstore 10 149), (149, o_aload 0 150), (150, o_lload 6 152), (152, o_lload 10 154), (154, o_ldiv 155), (155, o_putL 5 6 158), (158, o_aload 0 159), (159, o_lload 8 161), (161, o_lload 10 163), (163, o_ldiv 164), (164, o_putL 5 7 167), (167, o_iconst 1 168), (168, o_iret)]
theorem me_X10_child : em_Me T_X10_child 12 sp_X10_child := by
  intro Q K hK hle av hp hs
  obtain ⟨B, im, kp, asd, rf, qt, ab, be, tx, ty, at9, st9, tk, vl, wd, it, mn, so, sb, my, we, be9, rw, fr, a, b, t, k, rfl, rfl, hB, hbad, hq⟩ := hs
  have h0 := hB.1
  have hT := hB.2.2.2.2.2.2.1
  have bad : ¬ (h2 (nI (B 0)) a b ∧ hs (nI (B 0)) t ∧ chk k) → K 30 [some (.ref 0), some (.int a), some (.int b), some (.int t), some (.int k), none, none, none, none, none, none, none] [] (wM (nB B) im kp asd rf qt ab be tx ty at9 st9 tk vl wd it mn so sb my we be9 rw fr) := by
    intro h
    exact hK 15 3 30 _ _ _ ⟨_, _, _, _, _, _, _, _, _, _, _, _, _, _, _, _, _, _, _, _, _, _, _, _, rfl, rfl, hbad h⟩
  have good : ∀ x y z j, a = nI x → b = nI y → t = nI z → k = nI j → x < B 0 → y < B 0 → x ≠ y → z < B 0 → j ≤ 20 → K 35 [some (.ref 0), some (.int a), some (.int b), some (.int t), some (.int k), none, none, none, none, none, none, none] [] (wM (nB B) im kp asd rf qt ab be tx ty at9 st9 tk vl wd it mn so sb my we be9 rw fr) := by
    intro x y z j e1 e2 e3 e4 hx hy hxy hz hj
    subst e1
    subst e2
    subst e3
    subst e4
    have hq := hq x y z j rfl rfl rfl rfl hx hy hxy hz hj
    have hX := hT x (by omega)
    have hZ := hT z (by omega)
    have hd := xor_lt hX (hT y (by omega))
    have ed : nI (B (14 + x)) ^^^ nI (B (14 + y)) = nI (B (14 + x) ^^^ B (14 + y)) := nI_xor _ _
    generalize B (14 + x) ^^^ B (14 + y) = d at hq hd ed
    obtain ⟨P, hP⟩ : ∃ P, P = suB d := ⟨_, rfl⟩
    obtain ⟨F, hF⟩ : ∃ F, F = faB (B 5) d (B (14 + x)) (B (14 + z)) j := ⟨_, rfl⟩
    rw [← hP, ← hF] at hq
    have hPl := cU_le (P := P) (n := 1024)
    have hFl := cU_le (P := F) (n := 1024)
    have hP1 : 0 < cU P 1024 := cU_pos 0 (by omega) (by rw [hP]; unfold suB; rw [Nat.zero_and]; rfl)
    have hg1 := gcR_le 2000 (cU F 1024) (cU P 1024) hFl hPl
    have hg0 := gcR_pos 2000 (cU F 1024) (cU P 1024) (Or.inl hP1) (Or.inl (by omega)) (by omega)
    have loop : ∀ (r s : Nat) (x11 : Option Value), s + r = 1024 → K 65 [some (.ref 0), some (.int (nI x)), some (.int (nI y)), some (.int (nI z)), some (.int (nI j)), some (.int (nI d)), some (.long (nL (cU F s))), none, some (.long (nL (cU P s))), none, some (.int (nI s)), x11] [] (wM (nB B) im kp asd rf qt ab be tx ty at9 st9 tk vl wd it mn so sb my we be9 rw fr) := by
      intro r
      induction r with
      | zero =>
        intro s x11 hs
        have hs : s = 1024 := by omega
        subst hs
        rw [← nL_div (by omega) (by omega), ← nL_div (a := cU P 1024) (by omega) (by omega)] at hq
        refine hK 38 9999 65 _ _ _ ?_
        refine ⟨fun _ => ?_, fun z => absurd (nI_le (a := 1024) (b := 1024) (by omega) (by omega)) z⟩
        exact ⟨_, _, rfl, hFl, hPl, fun q => by have := (nL_0 (by omega)).mp q; omega, fun q => by have := (nL_0 (by omega)).mp q; omega, hq⟩
      | succ r ih =>
        intro s x11 hs
        have hs9 : s < 1024 := by omega
        have hcl := cU_le (P := F) (n := s)
        have nxt : ∀ f p x11, f = nL (cU F (s + 1)) → p = nL (cU P (s + 1)) → K 134 [some (.ref 0), some (.int (nI x)), some (.int (nI y)), some (.int (nI z)), some (.int (nI j)), some (.int (nI d)), some (.long f), none, some (.long p), none, some (.int (nI s)), x11] [] (wM (nB B) im kp asd rf qt ab be tx ty at9 st9 tk vl wd it mn so sb my we be9 rw fr) := by
          intro f p x11 h1 h2
          have := ih (s + 1) x11 (by omega)
          rw [← nI_1 s, ← h1, ← h2] at this
          exact hK 78 2 134 _ _ _ this
        have em : nI s &&& (nI d ^^^ (-1)) = nI (s &&& c10 d) := and_c10 hs9 d
        have hsl := and_lt (b := c10 d) hs9
        refine hK 38 40 65 _ _ _ ?_
        refine ⟨fun z => absurd z (nI_ge (a := s) (b := 1024) (by omega) (by omega)), fun _ => ?_⟩
        refine ⟨fun u => ?_, fun u => ?_⟩
        · rw [em] at u
          have u : ¬ s &&& c10 d = 0 := fun q => u (by rw [q]; rfl)
          have p0 : P s = false := by rw [hP]; exact decide_eq_false u
          have f0 : F s = false := by rw [hF]; unfold faB suB; rw [decide_eq_false u]; rfl
          exact nxt _ _ _ (by rw [cU, f0]; rfl) (by rw [cU, p0]; rfl)
        · rw [em] at u
          have u : s &&& c10 d = 0 := (nI_eq (b := 0) (by omega) (by omega)).mp u
          have p1 : P s = true := by rw [hP]; exact decide_eq_true u
          have hxs := xor_lt (xor_lt hX hs9) hZ
          have hcn := cn_le (w := B 5) (x := (B (14 + x) ^^^ s) ^^^ B (14 + z))
          have fe : F s = decide (j ≤ cn (B 5) ((B (14 + x) ^^^ s) ^^^ B (14 + z))) := by rw [hF]; unfold faB suB; rw [decide_eq_true u]; rfl
          have ec : cntd (nB B 5) ((nB B (14 + x) ^^^ nI s) ^^^ nB B (14 + z)) = nI (cn (B 5) ((B (14 + x) ^^^ s) ^^^ B (14 + z))) := by
            unfold nB
            rw [nI_xor, nI_xor, cntd_nI hxs]
          refine ⟨14 + x, nI_add 14 x, by omega, 14 + z, nI_add 14 z, by omega, _, _, _, _, _, _, _, _, _, _, _, _, _, _, _, _, _, _, _, _, _, _, _, _, _, rfl, rfl, ?_⟩
          rw [ec]
          refine ⟨fun v => ?_, fun v => ?_⟩
          · have v : ¬ j ≤ cn (B 5) ((B (14 + x) ^^^ s) ^^^ B (14 + z)) := fun q => absurd v (nI_nlt q (by omega))
            exact nxt _ _ _ (by rw [cU, fe, decide_eq_false v]; exact Int64.add_zero _) (by rw [cU, if_pos p1]; exact nL_1 _)
          · have v : j ≤ cn (B 5) ((B (14 + x) ^^^ s) ^^^ B (14 + z)) := by
              rcases Nat.lt_or_ge (cn (B 5) ((B (14 + x) ^^^ s) ^^^ B (14 + z))) j with q | q
              · exact absurd (nI_lt q (by omega)) v
              · exact q
            exact nxt _ _ _ (by rw [cU, if_pos (by rw [fe]; exact decide_eq_true v)]; exact nL_1 _) (by rw [cU, if_pos p1]; exact nL_1 _)
    have l0 := loop 1024 0 none (by omega)
    rw [← ed] at l0
    refine hK 18 20 35 _ _ _ ?_
    exact ⟨14 + x, nI_add 14 x, by omega, 14 + y, nI_add 14 y, by omega, hle _ _ _ _ _ (by repeat (first | exact trivial | refine ⟨rfl, ?_⟩)) l0⟩
  refine ⟨Nat.le_of_ble_eq_true rfl, hK 0 15 0 _ _ _ ?_⟩
  refine ⟨_, _, _, _, _, _, _, _, _, _, _, _, _, _, _, _, _, _, _, _, _, _, _, _, _, _, B 0, rfl, rfl, rfl, h0, fun z => ?_, fun z => ?_⟩
  · refine ⟨fun u => absurd u (by decide), fun _ => ?_⟩
    obtain ⟨x, hx, ex⟩ := nI_at rfl z.1
    obtain ⟨y, hy, ey⟩ := nI_at rfl z.2.1
    have hxy : x ≠ y := fun q => z.2.2 (by rw [ex, ey, q])
    refine ⟨_, _, _, _, _, _, _, _, _, _, _, _, _, _, _, _, _, _, _, _, _, _, _, _, _, B 0, rfl, rfl, rfl, h0, fun z2 => ?_, fun z2 => ?_⟩
    · refine ⟨fun u => absurd u (by decide), fun _ => ?_⟩
      obtain ⟨w, hw, ew⟩ := nI_at rfl z2
      refine ⟨_, _, _, rfl, fun z3 => ?_, fun z3 => ?_⟩
      · have z3 := in_chk.mp z3
        obtain ⟨j, hj, e⟩ := nI_of z3.1
        subst e
        have hj20 : j ≤ 20 := by
          rcases Nat.lt_or_ge 20 j with q | q
          · exact absurd (nI_lt (a := 20) q hj) z3.2
          · exact q
        exact ⟨fun _ => good x y w j ex ey ew rfl hx hy hxy hw hj20, fun u => absurd u (by decide)⟩
      · exact ⟨fun u => absurd rfl u, fun _ => bad (fun q => z3 (in_chk.mpr q.2.2))⟩
    · exact ⟨fun _ => bad (fun q => z2 q.2.1), fun u => absurd rfl u⟩
  · exact ⟨fun _ => bad (fun q => z q.1), fun u => absurd rfl u⟩
abbrev rm_X10_child : Room := { frames := 3, cells := 0, slots := 0, locals := 68 }
set_option maxRecDepth 100000 in
set_option maxHeartbeats 4000000 in
theorem ct_X10_child (l : Launch) (D : va_G) (dA : Nat → ClassId) (σ : Nat → Nat) : em_CT l D em_cl dA σ (em_F σ) y_X10_child c_X10_child 12 (Option.some ClassFile.FieldType.int) rm_X10_child (sp_X10_child ) := by
  refine em_CT_of (T := T_X10_child ) (em_F_ok σ) (by decide) (fun p e s m args below meth c A ρ Q C hFok hF hret hlk hin => ?_) (me_X10_child )
  unfold T_X10_child
  refine List.forall_mem_cons.mpr ⟨s_aload_n C (by decide +kernel : decode c_X10_child 0 = .ok (.aload_n 0, 1)) rfl rfl rfl, ?_⟩
  refine List.forall_mem_cons.mpr ⟨s_iload_n C (by decide +kernel : decode c_X10_child 1 = .ok (.iload_n 1, 1)) rfl rfl rfl, ?_⟩
  refine List.forall_mem_cons.mpr ⟨s_iload_n C (by decide +kernel : decode c_X10_child 2 = .ok (.iload_n 2, 1)) rfl rfl rfl, ?_⟩
  refine List.forall_mem_cons.mpr ⟨s_callV C hFok hF (ct_X10_areTwo l D dA σ) ⟨rfl, rfl⟩ ew820 em_cl_X10 ew817 ew819 ewp18 ew6 ⟨by decide, by decide, by decide +kernel⟩ ⟨by decide, by decide⟩ (by decide +kernel : decode c_X10_child 3 = .ok (.invokevirtual 96, 3)) rfl rfl ⟨Nat.zero_le _, Nat.zero_le _⟩, ?_⟩
  refine List.forall_mem_cons.mpr ⟨s_ifeq C (by decide +kernel : decode c_X10_child 6 = .ok (.ifCond .eq 24, 3)) (by decide) rfl rfl rfl, ?_⟩
  refine List.forall_mem_cons.mpr ⟨s_aload_n C (by decide +kernel : decode c_X10_child 9 = .ok (.aload_n 0, 1)) rfl rfl rfl, ?_⟩
  refine List.forall_mem_cons.mpr ⟨s_iload_n C (by decide +kernel : decode c_X10_child 10 = .ok (.iload_n 3, 1)) rfl rfl rfl, ?_⟩
  refine List.forall_mem_cons.mpr ⟨s_callV C hFok hF (ct_X10_isPerson l D dA σ) ⟨rfl, rfl⟩ ew795 em_cl_X10 ew792 ew794 ewp16 ew6 ⟨by decide, by decide, by decide +kernel⟩ ⟨by decide, by decide⟩ (by decide +kernel : decode c_X10_child 11 = .ok (.invokevirtual 73, 3)) rfl rfl ⟨Nat.zero_le _, Nat.zero_le _⟩, ?_⟩
  refine List.forall_mem_cons.mpr ⟨s_ifeq C (by decide +kernel : decode c_X10_child 14 = .ok (.ifCond .eq 16, 3)) (by decide) rfl rfl rfl, ?_⟩
  refine List.forall_mem_cons.mpr ⟨s_iload C (by decide +kernel : decode c_X10_child 17 = .ok (.iload 4, 2)) rfl rfl, ?_⟩
  refine List.forall_mem_cons.mpr ⟨s_i2l C (by decide +kernel : decode c_X10_child 19 = .ok (.i2l, 1)) rfl rfl, ?_⟩
  refine List.forall_mem_cons.mpr ⟨s_lconst C (by decide +kernel : decode c_X10_child 20 = .ok (.lconst 0, 1)) rfl rfl (by decide), ?_⟩
  refine List.forall_mem_cons.mpr ⟨s_ldc2 C (by decide +kernel : decode c_X10_child 21 = .ok (.ldc2_w 94, 3)) rfl rfl ew812, ?_⟩
  refine List.forall_mem_cons.mpr ⟨s_callS C hFok hF (ct_X10_in l D dA σ) ⟨rfl, rfl⟩ ew771 ew769 ew770 ew6 ⟨by decide, by decide, by decide +kernel⟩ ⟨by decide, by decide⟩ (by decide +kernel : decode c_X10_child 24 = .ok (.invokestatic 69, 3)) rfl rfl ⟨Nat.zero_le _, Nat.zero_le _⟩, ?_⟩
  refine List.forall_mem_cons.mpr ⟨s_ifne C (by decide +kernel : decode c_X10_child 27 = .ok (.ifCond .ne 8, 3)) (by decide) rfl rfl rfl, ?_⟩
  refine List.forall_mem_cons.mpr ⟨s_aload_n C (by decide +kernel : decode c_X10_child 30 = .ok (.aload_n 0, 1)) rfl rfl rfl, ?_⟩
  refine List.forall_mem_cons.mpr ⟨s_callV C hFok hF (ct_X10_bad l D dA σ) ⟨rfl, rfl⟩ ew779 em_cl_X10 ew776 ew778 ewp13 ew6 ⟨by decide, by decide, by decide +kernel⟩ ⟨by decide, by decide⟩ (by decide +kernel : decode c_X10_child 31 = .ok (.invokevirtual 84, 3)) rfl rfl ⟨Nat.zero_le _, Nat.zero_le _⟩, ?_⟩
  refine List.forall_mem_cons.mpr ⟨s_iret C (by decide +kernel : decode c_X10_child 34 = .ok (.ireturn, 1)) hret hlk ⟨Nat.le_refl 0, Nat.le_refl 0⟩, ?_⟩
  refine List.forall_mem_cons.mpr ⟨s_aload_n C (by decide +kernel : decode c_X10_child 35 = .ok (.aload_n 0, 1)) rfl rfl rfl, ?_⟩
  refine List.forall_mem_cons.mpr ⟨s_getf C (by decide +kernel : decode c_X10_child 36 = .ok (.getfield 7, 3)) rfl rfl em_cl_X10 (by decide) ew691 rfl, ?_⟩
  refine List.forall_mem_cons.mpr ⟨s_bipush C (by decide +kernel : decode c_X10_child 39 = .ok (.bipush 14, 2)) rfl rfl (by decide), ?_⟩
  refine List.forall_mem_cons.mpr ⟨s_iload_n C (by decide +kernel : decode c_X10_child 41 = .ok (.iload_n 1, 1)) rfl rfl rfl, ?_⟩
  refine List.forall_mem_cons.mpr ⟨s_iadd C (by decide +kernel : decode c_X10_child 42 = .ok (.iadd, 1)) rfl rfl, ?_⟩
  refine List.forall_mem_cons.mpr ⟨s_iald C (by decide +kernel : decode c_X10_child 43 = .ok (.iaload, 1)) rfl rfl, ?_⟩
  refine List.forall_mem_cons.mpr ⟨s_aload_n C (by decide +kernel : decode c_X10_child 44 = .ok (.aload_n 0, 1)) rfl rfl rfl, ?_⟩
  refine List.forall_mem_cons.mpr ⟨s_getf C (by decide +kernel : decode c_X10_child 45 = .ok (.getfield 7, 3)) rfl rfl em_cl_X10 (by decide) ew691 rfl, ?_⟩
  refine List.forall_mem_cons.mpr ⟨s_bipush C (by decide +kernel : decode c_X10_child 48 = .ok (.bipush 14, 2)) rfl rfl (by decide), ?_⟩
  refine List.forall_mem_cons.mpr ⟨s_iload_n C (by decide +kernel : decode c_X10_child 50 = .ok (.iload_n 2, 1)) rfl rfl rfl, ?_⟩
  refine List.forall_mem_cons.mpr ⟨s_iadd C (by decide +kernel : decode c_X10_child 51 = .ok (.iadd, 1)) rfl rfl, ?_⟩
  refine List.forall_mem_cons.mpr ⟨s_iald C (by decide +kernel : decode c_X10_child 52 = .ok (.iaload, 1)) rfl rfl, ?_⟩
  refine List.forall_mem_cons.mpr ⟨s_ixor C (by decide +kernel : decode c_X10_child 53 = .ok (.ixor, 1)) rfl rfl, ?_⟩
  refine List.forall_mem_cons.mpr ⟨s_istore C (by decide +kernel : decode c_X10_child 54 = .ok (.istore 5, 2)) rfl rfl (by decide), ?_⟩
  refine List.forall_mem_cons.mpr ⟨s_lconst C (by decide +kernel : decode c_X10_child 56 = .ok (.lconst 0, 1)) rfl rfl (by decide), ?_⟩
  refine List.forall_mem_cons.mpr ⟨s_lstore C (by decide +kernel : decode c_X10_child 57 = .ok (.lstore 6, 2)) rfl rfl (by decide), ?_⟩
  refine List.forall_mem_cons.mpr ⟨s_lconst C (by decide +kernel : decode c_X10_child 59 = .ok (.lconst 0, 1)) rfl rfl (by decide), ?_⟩
  refine List.forall_mem_cons.mpr ⟨s_lstore C (by decide +kernel : decode c_X10_child 60 = .ok (.lstore 8, 2)) rfl rfl (by decide), ?_⟩
  refine List.forall_mem_cons.mpr ⟨s_iconst C (by decide +kernel : decode c_X10_child 62 = .ok (.iconst 0, 1)) rfl rfl (by decide), ?_⟩
  refine List.forall_mem_cons.mpr ⟨s_istore C (by decide +kernel : decode c_X10_child 63 = .ok (.istore 10, 2)) rfl rfl (by decide), ?_⟩
  refine List.forall_mem_cons.mpr ⟨s_iload C (by decide +kernel : decode c_X10_child 65 = .ok (.iload 10, 2)) rfl rfl, ?_⟩
  refine List.forall_mem_cons.mpr ⟨s_sipush C (by decide +kernel : decode c_X10_child 67 = .ok (.sipush 1024, 3)) rfl rfl (by decide), ?_⟩
  refine List.forall_mem_cons.mpr ⟨s_icmpge C (by decide +kernel : decode c_X10_child 70 = .ok (.if_icmp .ge 70, 3)) (by decide) rfl rfl rfl, ?_⟩
  refine List.forall_mem_cons.mpr ⟨s_iload C (by decide +kernel : decode c_X10_child 73 = .ok (.iload 10, 2)) rfl rfl, ?_⟩
  refine List.forall_mem_cons.mpr ⟨s_iload C (by decide +kernel : decode c_X10_child 75 = .ok (.iload 5, 2)) rfl rfl, ?_⟩
  refine List.forall_mem_cons.mpr ⟨s_iconst C (by decide +kernel : decode c_X10_child 77 = .ok (.iconst (-1), 1)) rfl rfl (by decide), ?_⟩
  refine List.forall_mem_cons.mpr ⟨s_ixor C (by decide +kernel : decode c_X10_child 78 = .ok (.ixor, 1)) rfl rfl, ?_⟩
  refine List.forall_mem_cons.mpr ⟨s_iand C (by decide +kernel : decode c_X10_child 79 = .ok (.iand, 1)) rfl rfl, ?_⟩
  refine List.forall_mem_cons.mpr ⟨s_ifne C (by decide +kernel : decode c_X10_child 80 = .ok (.ifCond .ne 54, 3)) (by decide) rfl rfl rfl, ?_⟩
  refine List.forall_mem_cons.mpr ⟨s_aload_n C (by decide +kernel : decode c_X10_child 83 = .ok (.aload_n 0, 1)) rfl rfl rfl, ?_⟩
  refine List.forall_mem_cons.mpr ⟨s_getf C (by decide +kernel : decode c_X10_child 84 = .ok (.getfield 7, 3)) rfl rfl em_cl_X10 (by decide) ew691 rfl, ?_⟩
  refine List.forall_mem_cons.mpr ⟨s_bipush C (by decide +kernel : decode c_X10_child 87 = .ok (.bipush 14, 2)) rfl rfl (by decide), ?_⟩
  refine List.forall_mem_cons.mpr ⟨s_iload_n C (by decide +kernel : decode c_X10_child 89 = .ok (.iload_n 1, 1)) rfl rfl rfl, ?_⟩
  refine List.forall_mem_cons.mpr ⟨s_iadd C (by decide +kernel : decode c_X10_child 90 = .ok (.iadd, 1)) rfl rfl, ?_⟩
  refine List.forall_mem_cons.mpr ⟨s_iald C (by decide +kernel : decode c_X10_child 91 = .ok (.iaload, 1)) rfl rfl, ?_⟩
  refine List.forall_mem_cons.mpr ⟨s_iload C (by decide +kernel : decode c_X10_child 92 = .ok (.iload 10, 2)) rfl rfl, ?_⟩
  refine List.forall_mem_cons.mpr ⟨s_ixor C (by decide +kernel : decode c_X10_child 94 = .ok (.ixor, 1)) rfl rfl, ?_⟩
  refine List.forall_mem_cons.mpr ⟨s_istore C (by decide +kernel : decode c_X10_child 95 = .ok (.istore 11, 2)) rfl rfl (by decide), ?_⟩
  refine List.forall_mem_cons.mpr ⟨s_lload C (by decide +kernel : decode c_X10_child 97 = .ok (.lload 8, 2)) rfl rfl, ?_⟩
  refine List.forall_mem_cons.mpr ⟨s_lconst C (by decide +kernel : decode c_X10_child 99 = .ok (.lconst 1, 1)) rfl rfl (by decide), ?_⟩
  refine List.forall_mem_cons.mpr ⟨s_ladd C (by decide +kernel : decode c_X10_child 100 = .ok (.ladd, 1)) rfl rfl, ?_⟩
  refine List.forall_mem_cons.mpr ⟨s_lstore C (by decide +kernel : decode c_X10_child 101 = .ok (.lstore 8, 2)) rfl rfl (by decide), ?_⟩
  refine List.forall_mem_cons.mpr ⟨s_lload C (by decide +kernel : decode c_X10_child 103 = .ok (.lload 6, 2)) rfl rfl, ?_⟩
  refine List.forall_mem_cons.mpr ⟨s_aload_n C (by decide +kernel : decode c_X10_child 105 = .ok (.aload_n 0, 1)) rfl rfl rfl, ?_⟩
  refine List.forall_mem_cons.mpr ⟨s_iload C (by decide +kernel : decode c_X10_child 106 = .ok (.iload 11, 2)) rfl rfl, ?_⟩
  refine List.forall_mem_cons.mpr ⟨s_aload_n C (by decide +kernel : decode c_X10_child 108 = .ok (.aload_n 0, 1)) rfl rfl rfl, ?_⟩
  refine List.forall_mem_cons.mpr ⟨s_getf C (by decide +kernel : decode c_X10_child 109 = .ok (.getfield 7, 3)) rfl rfl em_cl_X10 (by decide) ew691 rfl, ?_⟩
  refine List.forall_mem_cons.mpr ⟨s_bipush C (by decide +kernel : decode c_X10_child 112 = .ok (.bipush 14, 2)) rfl rfl (by decide), ?_⟩
  refine List.forall_mem_cons.mpr ⟨s_iload_n C (by decide +kernel : decode c_X10_child 114 = .ok (.iload_n 3, 1)) rfl rfl rfl, ?_⟩
  refine List.forall_mem_cons.mpr ⟨s_iadd C (by decide +kernel : decode c_X10_child 115 = .ok (.iadd, 1)) rfl rfl, ?_⟩
  refine List.forall_mem_cons.mpr ⟨s_iald C (by decide +kernel : decode c_X10_child 116 = .ok (.iaload, 1)) rfl rfl, ?_⟩
  refine List.forall_mem_cons.mpr ⟨s_ixor C (by decide +kernel : decode c_X10_child 117 = .ok (.ixor, 1)) rfl rfl, ?_⟩
  refine List.forall_mem_cons.mpr ⟨s_callV C hFok hF (ct_X10_counted l D dA σ) ⟨rfl, rfl⟩ ew892 em_cl_X10 ew889 ew891 ewp25 ew6 ⟨by decide, by decide, by decide +kernel⟩ ⟨by decide, by decide⟩ (by decide +kernel : decode c_X10_child 118 = .ok (.invokevirtual 179, 3)) rfl rfl ⟨Nat.zero_le _, Nat.zero_le _⟩, ?_⟩
  refine List.forall_mem_cons.mpr ⟨s_iload C (by decide +kernel : decode c_X10_child 121 = .ok (.iload 4, 2)) rfl rfl, ?_⟩
  refine List.forall_mem_cons.mpr ⟨s_icmplt C (by decide +kernel : decode c_X10_child 123 = .ok (.if_icmp .lt 7, 3)) (by decide) rfl rfl rfl, ?_⟩
  refine List.forall_mem_cons.mpr ⟨s_lconst C (by decide +kernel : decode c_X10_child 126 = .ok (.lconst 1, 1)) rfl rfl (by decide), ?_⟩
  refine List.forall_mem_cons.mpr ⟨s_goto C (by decide +kernel : decode c_X10_child 127 = .ok (.goto 4, 3)) (by decide) rfl, ?_⟩
  refine List.forall_mem_cons.mpr ⟨s_lconst C (by decide +kernel : decode c_X10_child 130 = .ok (.lconst 0, 1)) rfl rfl (by decide), ?_⟩
  refine List.forall_mem_cons.mpr ⟨s_ladd C (by decide +kernel : decode c_X10_child 131 = .ok (.ladd, 1)) rfl rfl, ?_⟩
  refine List.forall_mem_cons.mpr ⟨s_lstore C (by decide +kernel : decode c_X10_child 132 = .ok (.lstore 6, 2)) rfl rfl (by decide), ?_⟩
  refine List.forall_mem_cons.mpr ⟨s_iinc C (by decide +kernel : decode c_X10_child 134 = .ok (.iinc 10 1, 3)) rfl rfl (by decide) (by decide), ?_⟩
  refine List.forall_mem_cons.mpr ⟨s_goto C (by decide +kernel : decode c_X10_child 137 = .ok (.goto (-72), 3)) (by decide) rfl, ?_⟩
  refine List.forall_mem_cons.mpr ⟨s_lload C (by decide +kernel : decode c_X10_child 140 = .ok (.lload 6, 2)) rfl rfl, ?_⟩
  refine List.forall_mem_cons.mpr ⟨s_lload C (by decide +kernel : decode c_X10_child 142 = .ok (.lload 8, 2)) rfl rfl, ?_⟩
  refine List.forall_mem_cons.mpr ⟨s_callS C hFok hF (ct_X10_divisor l D dA σ) ⟨rfl, rfl⟩ ew1035 ew1033 ew1034 ew6 ⟨by decide, by decide, by decide +kernel⟩ ⟨by decide, by decide⟩ (by decide +kernel : decode c_X10_child 144 = .ok (.invokestatic 236, 3)) rfl rfl ⟨Nat.zero_le _, Nat.zero_le _⟩, ?_⟩
  refine List.forall_mem_cons.mpr ⟨s_lstore C (by decide +kernel : decode c_X10_child 147 = .ok (.lstore 10, 2)) rfl rfl (by decide), ?_⟩
  refine List.forall_mem_cons.mpr ⟨s_aload_n C (by decide +kernel : decode c_X10_child 149 = .ok (.aload_n 0, 1)) rfl rfl rfl, ?_⟩
  refine List.forall_mem_cons.mpr ⟨s_lload C (by decide +kernel : decode c_X10_child 150 = .ok (.lload 6, 2)) rfl rfl, ?_⟩
  refine List.forall_mem_cons.mpr ⟨s_lload C (by decide +kernel : decode c_X10_child 152 = .ok (.lload 10, 2)) rfl rfl, ?_⟩
  refine List.forall_mem_cons.mpr ⟨s_ldiv C (by decide +kernel : decode c_X10_child 154 = .ok (.ldiv, 1)) rfl rfl, ?_⟩
  refine List.forall_mem_cons.mpr ⟨s_putL C (by decide +kernel : decode c_X10_child 155 = .ok (.putfield 240, 3)) rfl rfl em_cl_X10 (by decide) ew697 rfl (by decide) (by decide +kernel), ?_⟩
  refine List.forall_mem_cons.mpr ⟨s_aload_n C (by decide +kernel : decode c_X10_child 158 = .ok (.aload_n 0, 1)) rfl rfl rfl, ?_⟩
  refine List.forall_mem_cons.mpr ⟨s_lload C (by decide +kernel : decode c_X10_child 159 = .ok (.lload 8, 2)) rfl rfl, ?_⟩
  refine List.forall_mem_cons.mpr ⟨s_lload C (by decide +kernel : decode c_X10_child 161 = .ok (.lload 10, 2)) rfl rfl, ?_⟩
  refine List.forall_mem_cons.mpr ⟨s_ldiv C (by decide +kernel : decode c_X10_child 163 = .ok (.ldiv, 1)) rfl rfl, ?_⟩
  refine List.forall_mem_cons.mpr ⟨s_putL C (by decide +kernel : decode c_X10_child 164 = .ok (.putfield 54, 3)) rfl rfl em_cl_X10 (by decide) ew698 rfl (by decide) (by decide +kernel), ?_⟩
  refine List.forall_mem_cons.mpr ⟨s_iconst C (by decide +kernel : decode c_X10_child 167 = .ok (.iconst 1, 1)) rfl rfl (by decide), ?_⟩
  refine List.forall_mem_cons.mpr ⟨s_iret C (by decide +kernel : decode c_X10_child 168 = .ok (.ireturn, 1)) hret hlk ⟨Nat.le_refl 0, Nat.le_refl 0⟩, ?_⟩
  exact fun _ h => absurd h List.not_mem_nil
