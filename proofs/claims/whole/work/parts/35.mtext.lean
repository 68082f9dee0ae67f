/-! ===== the text of the reference ===== -/
def isr (C : Nat → Nat) (L lo hi i : Nat) : Bool := decide (i < L ∧ lo ≤ C i ∧ C i ≤ hi)
def run (C : Nat → Nat) (L lo hi : Nat) : Nat → Nat → Nat
  | 0, i => i
  | f + 1, i => if isr C L lo hi i = true then run C L lo hi f (i + 1) else i
theorem isr_lt {C : Nat → Nat} {L lo hi i : Nat} (h : isr C L lo hi i = true) : i < L ∧ lo ≤ C i ∧ C i ≤ hi := of_decide_eq_true h
theorem run_le {C : Nat → Nat} {L lo hi : Nat} : ∀ f i, i ≤ L → i ≤ run C L lo hi f i ∧ run C L lo hi f i ≤ L
  | 0, i, h => ⟨Nat.le_refl _, h⟩
  | f + 1, i, h => by
    rw [run]
    split
    · rename_i hr
      have := isr_lt hr
      have := run_le (C := C) (L := L) (lo := lo) (hi := hi) f (i + 1) (by omega)
      omega
    · omega
theorem run_not {C : Nat → Nat} {L lo hi : Nat} : ∀ f i, L < i + f → isr C L lo hi (run C L lo hi f i) = false
  | 0, i, h => by
    rw [run]
    exact decide_eq_false (fun q => by omega)
  | f + 1, i, h => by
    rw [run]
    by_cases hr : isr C L lo hi i = true
    · rw [if_pos hr]; exact run_not f (i + 1) (by omega)
    · rw [if_neg hr]
      cases hc : isr C L lo hi i with
      | false => rfl
      | true => exact absurd hc hr
theorem run_in {C : Nat → Nat} {L lo hi : Nat} : ∀ f i j, i ≤ j → j < run C L lo hi f i → isr C L lo hi j = true
  | 0, i, j, h, h2 => by rw [run] at h2; omega
  | f + 1, i, j, h, h2 => by
    rw [run] at h2
    by_cases hr : isr C L lo hi i = true
    · rw [if_pos hr] at h2
      by_cases e : j = i
      · rw [e]; exact hr
      · exact run_in f (i + 1) j (by omega) h2
    · rw [if_neg hr] at h2; omega
/-- what the text is -/
def TX (tx : Nat → Int32) (ty : Int32) (C : Nat → Nat) (L : Nat) : Prop := tx = nB C ∧ ty = nI L ∧ L ≤ 150 ∧ ∀ j, C j < 128
def sp_X10_isAt : em_Sp := fun av hp Q => ∃ bk im kp asd rf qt ab be tx ty at9 st9 tk vl wd it mn so sb my we be9 rw fr C L i lo hi, av = [.ref 0, .int (nI lo), .int (nI hi)] ∧ hp = (wM bk im kp asd rf qt ab be tx ty at9 st9 tk vl wd it mn so sb my we be9 rw fr) ∧ TX tx ty C L ∧ at9 = nI i ∧ i ≤ 200 ∧ lo < 128 ∧ hi < 128 ∧ Q (some (.int (b1 (isr C L lo hi i)))) hp
def T_X10_isAt : List (Nat × em_Op) := [(0, o_aload 0 1), (1, o_getf 5 10 4), (4, o_aload 0 5), (5, o_getf 5 9 8), (8, o_icmpge 35 11), (11, o_aload 0 12), (12, o_getf 5 8 15), (15, o_aload 0 16), (16, o_getf 5 10 19), (19, o_aldI 0 20), (20, o_i2l 21), (21, o_iload 1 22), (22, o_i2l 23), (23, o_iload 2 24), (24, o_i2l 25), (25, o_call 3 none (sp_X10_in) 28), (28, o_ifeq 35 31), (31, o_iconst 1 32), (32, o_goto 36), (35, o_iconst 0 36), (36, o_zret)]
theorem me_X10_isAt : em_Me T_X10_isAt 3 sp_X10_isAt := by
  intro Q K hK hle av hp hs
  obtain ⟨bk, im, kp, asd, rf, qt, ab, be, tx, ty, at9, st9, tk, vl, wd, it, mn, so, sb, my, we, be9, rw, fr, C, L, i, lo, hi, rfl, rfl, ⟨rfl, rfl, hL, hC⟩, rfl, hi2, hlo, hhi, hq⟩ := hs
  refine ⟨Nat.le_of_ble_eq_true rfl, hK 0 9999 0 _ _ _ ?_⟩
  refine ⟨fun z => ?_, fun z => ?_⟩
  · have z := (nI_leI (a := L) (b := i) (by omega) (by omega)).mp z
    have e : isr C L lo hi i = false := decide_eq_false (fun q => by omega)
    rw [e] at hq
    exact ⟨Or.inl rfl, hq⟩
  · have z : i < L := by
      rcases Nat.lt_or_ge i L with q | q
      · exact q
      · exact absurd (nI_le q (by omega)) z
    have hc := hC i
    have el : inL (nI (C i)).toInt64 (nI lo).toInt64 (nI hi).toInt64 ↔ (lo ≤ C i ∧ C i ≤ hi) := by
      rw [inL_i, Int32.toInt_toInt64, Int32.toInt_toInt64, nI_toInt (by omega), nI_toInt (by omega), nI_toInt (by omega)]
      omega
    refine ⟨i, rfl, by omega, _, _, _, rfl, fun y => ?_, fun y => ?_⟩
    · have y := el.mp y
      have e : isr C L lo hi i = true := decide_eq_true ⟨z, y⟩
      rw [e] at hq
      exact ⟨fun u => absurd u (by decide), fun _ => ⟨Or.inr rfl, hq⟩⟩
    · have e : isr C L lo hi i = false := decide_eq_false (fun q => y (el.mpr q.2))
      rw [e] at hq
      exact ⟨fun _ => ⟨Or.inl rfl, hq⟩, fun u => absurd rfl u⟩
abbrev rm_X10_isAt : Room := { frames := 1, cells := 0, slots := 0, locals := 25 }
set_option maxRecDepth 100000 in
set_option maxHeartbeats 4000000 in
theorem ct_X10_isAt (l : Launch) (D : va_G) (dA : Nat → ClassId) (σ : Nat → Nat) : em_CT l D em_cl dA σ (em_F σ) y_X10_isAt c_X10_isAt 3 (Option.some ClassFile.FieldType.boolean) rm_X10_isAt (sp_X10_isAt ) := by
  refine em_CT_of (T := T_X10_isAt ) (em_F_ok σ) (by decide) (fun p e s m args below meth c A ρ Q C hFok hF hret hlk hin => ?_) (me_X10_isAt )
  unfold T_X10_isAt
  refine List.forall_mem_cons.mpr ⟨s_aload_n C (by decide +kernel : decode c_X10_isAt 0 = .ok (.aload_n 0, 1)) rfl rfl rfl, ?_⟩
  refine List.forall_mem_cons.mpr ⟨s_getf C (by decide +kernel : decode c_X10_isAt 1 = .ok (.getfield 106, 3)) rfl rfl em_cl_X10 (by decide) ew701 rfl, ?_⟩
  refine List.forall_mem_cons.mpr ⟨s_aload_n C (by decide +kernel : decode c_X10_isAt 4 = .ok (.aload_n 0, 1)) rfl rfl rfl, ?_⟩
  refine List.forall_mem_cons.mpr ⟨s_getf C (by decide +kernel : decode c_X10_isAt 5 = .ok (.getfield 102, 3)) rfl rfl em_cl_X10 (by decide) ew700 rfl, ?_⟩
  refine List.forall_mem_cons.mpr ⟨s_icmpge C (by decide +kernel : decode c_X10_isAt 8 = .ok (.if_icmp .ge 27, 3)) (by decide) rfl rfl rfl, ?_⟩
  refine List.forall_mem_cons.mpr ⟨s_aload_n C (by decide +kernel : decode c_X10_isAt 11 = .ok (.aload_n 0, 1)) rfl rfl rfl, ?_⟩
  refine List.forall_mem_cons.mpr ⟨s_getf C (by decide +kernel : decode c_X10_isAt 12 = .ok (.getfield 26, 3)) rfl rfl em_cl_X10 (by decide) ew699 rfl, ?_⟩
  refine List.forall_mem_cons.mpr ⟨s_aload_n C (by decide +kernel : decode c_X10_isAt 15 = .ok (.aload_n 0, 1)) rfl rfl rfl, ?_⟩
  refine List.forall_mem_cons.mpr ⟨s_getf C (by decide +kernel : decode c_X10_isAt 16 = .ok (.getfield 106, 3)) rfl rfl em_cl_X10 (by decide) ew701 rfl, ?_⟩
  refine List.forall_mem_cons.mpr ⟨s_iald C (by decide +kernel : decode c_X10_isAt 19 = .ok (.iaload, 1)) rfl rfl, ?_⟩
  refine List.forall_mem_cons.mpr ⟨s_i2l C (by decide +kernel : decode c_X10_isAt 20 = .ok (.i2l, 1)) rfl rfl, ?_⟩
  refine List.forall_mem_cons.mpr ⟨s_iload_n C (by decide +kernel : decode c_X10_isAt 21 = .ok (.iload_n 1, 1)) rfl rfl rfl, ?_⟩
  refine List.forall_mem_cons.mpr ⟨s_i2l C (by decide +kernel : decode c_X10_isAt 22 = .ok (.i2l, 1)) rfl rfl, ?_⟩
  refine List.forall_mem_cons.mpr ⟨s_iload_n C (by decide +kernel : decode c_X10_isAt 23 = .ok (.iload_n 2, 1)) rfl rfl rfl, ?_⟩
  refine List.forall_mem_cons.mpr ⟨s_i2l C (by decide +kernel : decode c_X10_isAt 24 = .ok (.i2l, 1)) rfl rfl, ?_⟩
  refine List.forall_mem_cons.mpr ⟨s_callS C hFok hF (ct_X10_in l D dA σ) ⟨rfl, rfl⟩ ew771 ew769 ew770 ew6 ⟨by decide, by decide, by decide +kernel⟩ ⟨by decide, by decide⟩ (by decide +kernel : decode c_X10_isAt 25 = .ok (.invokestatic 69, 3)) rfl rfl ⟨Nat.zero_le _, Nat.zero_le _⟩, ?_⟩
  refine List.forall_mem_cons.mpr ⟨s_ifeq C (by decide +kernel : decode c_X10_isAt 28 = .ok (.ifCond .eq 7, 3)) (by decide) rfl rfl rfl, ?_⟩
  refine List.forall_mem_cons.mpr ⟨s_iconst C (by decide +kernel : decode c_X10_isAt 31 = .ok (.iconst 1, 1)) rfl rfl (by decide), ?_⟩
  refine List.forall_mem_cons.mpr ⟨s_goto C (by decide +kernel : decode c_X10_isAt 32 = .ok (.goto 4, 3)) (by decide) rfl, ?_⟩
  refine List.forall_mem_cons.mpr ⟨s_iconst C (by decide +kernel : decode c_X10_isAt 35 = .ok (.iconst 0, 1)) rfl rfl (by decide), ?_⟩
  refine List.forall_mem_cons.mpr ⟨s_zret C (by decide +kernel : decode c_X10_isAt 36 = .ok (.ireturn, 1)) hret hlk ⟨Nat.le_refl 0, Nat.le_refl 0⟩, ?_⟩
  exact fun _ h => absurd h List.not_mem_nil
/-- a token: its start, its end, its sort -/
def tkS (C : Nat → Nat) (L p : Nat) : Nat := run C L 32 32 151 p
def tkE (C : Nat → Nat) (L s : Nat) : Nat := if s = L then L else if isr C L 97 122 s = true then run C L 97 122 151 s else if isr C L 48 57 s = true then run C L 48 57 151 s else s + 1
def tkK (C : Nat → Nat) (L s : Nat) : Nat := if s = L then 0 else if isr C L 97 122 s = true then 4 else if isr C L 48 57 s = true then (if 2 < tkE C L s - s then 1 else 2) else if C s = 59 then 3 else 1
def nmI (C : Nat → Nat) (s : Nat) : Nat → Int32
  | 0 => 0
  | k + 1 => if k < 2 then 10 * nmI C s k + nI (C (s + k)) - 48 else nmI C s k
def wdV (C : Nat → Nat) (s : Nat) : Nat → Int64
  | 0 => 0
  | k + 1 => if k ≤ 6 then 32 * wdV C s k + (nI (C (s + k))).toInt64 - 97 + 1 else -1
def sp_X10_scans : em_Sp := fun av hp Q => ∃ bk im kp asd rf qt ab be tx ty at9 st9 tk vl wd it mn so sb my we be9 rw fr C L p, av = [.ref 0] ∧ hp = (wM bk im kp asd rf qt ab be tx ty at9 st9 tk vl wd it mn so sb my we be9 rw fr) ∧ TX tx ty C L ∧ at9 = nI p ∧ p ≤ L ∧ (∀ vl' wd', (tkK C L (tkS C L p) = 2 → vl' = nmI C (tkS C L p) (tkE C L (tkS C L p) - tkS C L p)) → (tkK C L (tkS C L p) = 4 → wd' = wdV C (tkS C L p) (tkE C L (tkS C L p) - tkS C L p)) → Q none (wM bk im kp asd rf qt ab be tx ty (nI (tkE C L (tkS C L p))) (nI (tkS C L p)) (nI (tkK C L (tkS C L p))) (vl') (wd') it mn so sb my we be9 rw fr))
def T_X10_scans : List (Nat × em_Op) := [(0, o_aload 0 1), (1, o_iconst 32 3), (3, o_iconst 32 5), (5, o_call 3 (some 5) (sp_X10_isAt) 8), (8, o_ifeq 24 11), (11, o_aload 0 12), (12, o_dup 13), (13, o_getf 5 10 16), (16, o_iconst 1 17), (17, o_iadd 18), (18, o_putI 5 10 21), (21, o_goto 0), (24, o_aload 0 25), (25, o_aload 0 26), (26, o_getf 5 10 29), (29, o_putI 5 11 32), (32, o_aload 0 33), (33, o_getf 5 10 36), (36, o_aload 0 37), (37, o_getf 5 9 40), (40, o_icmpne 49 43), (43, o_aload 0 44), (44, o_iconst 0 45), (45, o_putI 5 12 48), (48, o_vret), (49, o_aload 0 50), (50, o_iconst 97 52), (52, o_iconst 122 54), (54, o_call 3 (some 5) (sp_X10_isAt) 57), (57, o_ifeq 144 60), (60, o_aload 0 61), (61, o_lconst 0 62), (62, o_putL 5 14 65), (65, o_aload 0 66), (66, o_iconst 97 68), (68, o_iconst 122 70), (70, o_call 3 (some 5) (sp_X10_isAt) 73), (73, o_ifeq 138 76), (76, o_aload 0 77), (77, o_aload 0 78), (78, o_getf 5 10 81), (81, o_aload 0 82), (82, o_getf 5 11 85), (85, o_isub 86), (86, o_iconst 6 88), (88, o_icmple 97 91), (91, o_lconst (-1) 94), (94, o_goto 122), (97, o_lconst 32 100), (100, o_aload 0 101), (101, o_getf 5 14 104), (104, o_lmul 105), (105, o_aload 0 106), (106, o_getf 5 8 109), (109, o_aload 0 110), (110, o_getf 5 10 113), (113, o_aldI 0 114), (114, o_i2l 115), (115, o_ladd 116), (116, o_lconst 97 119), (119, o_lsub 120), (120, o_lconst 1 121), (121, o_ladd 122), (122, o_putL 5 14 125), (125, o_aload 0 126), (126, o_dup 127), (127, o_getf 5 10 130), (130, o_iconst 1 131), (131, o_iadd 132), (132, o_putI 5 10 135), (135, o_goto 65), (138, o_aload 0 139), (139, o_iconst 4 140), (140, o_putI 5 12 143), (143, o_vret), (144, o_aload 0 145), (145, o_iconst 48 147), (147, o_iconst 57 149), (149, o_call 3 (some 5) (sp_X10_isAt) 152), (152, o_ifeq 251 155), (155, o_aload 0 156), (156, o_iconst 0 157), (157, o_putI 5 13 160), (160, o_aload 0 161), (161, o_iconst 48 163), (163, o_iconst 57 165), (165, o_call 3 (some 5) (sp_X10_isAt) 168), (168, o_ifeq 228 171), (171, o_aload 0 172), (172, o_aload 0 173), (173, o_getf 5 10 176), (176, o_aload 0 177), (177, o_getf 5 11 180), (180, o_isub 181), (181, o_iconst 2 182), (182, o_icmpge 208 185), (185, o_iconst 10 187), (187, o_aload 0 188), (188, o_getf 5 13 191), (191, o_imul 192), (192, o_aload 0 193), (193, o_getf 5 8 196), (196, o_aload 0 197), (197, o_getf 5 10 200), (200, o_aldI 0 201), (201, o_iadd 202), (202, o_iconst 48 204), (204, o_isub 205), (205, o_goto 212), (208, o_aload 0 209), (209, o_getf 5 13 212), (212, o_putI 5 13 215), (215, o_aload 0 216), (216, o_dup 217), (217, o_getf 5 10 220), (220, o_iconst 1 221), (221, o_iadd 222), (222, o_putI 5 10 225), (225, o_goto 160), (228, o_aload 0 229), (229, o_aload 0 230), (230, o_getf 5 10 233), (233, o_aload 0 234), (234, o_getf 5 11 237), (237, o_isub 238), (238, o_iconst 2 239), (239, o_icmple 246 242), (242, o_iconst 1 243), (243, o_goto 247), (246, o_iconst 2 247), (247, o_putI 5 12 250), (250, o_vret), (251, o_aload 0 252), (252, o_aload 0 253), (253, o_iconst 59 255), (255, o_iconst 59 257), (257, o_call 3 (some 5) (sp_X10_isAt) 260), (260, o_ifeq 267 263), (263, o_iconst 3 264), (264, o_goto 268), (267, o_iconst 1 268), (268, o_putI 5 12 271), (271, o_aload 0 272), (272, o_dup 273), (273, o_getf 5 10 276), (276, o_iconst 1 277), (277, o_iadd 278), (278, o_putI 5 10 281), (281, o_vret)]
theorem me_X10_scans : em_Me T_X10_scans 1 sp_X10_scans := by
  intro Q K hK hle av hp hs
  obtain ⟨bk, im, kp, asd, rf, qt, ab, be, tx, ty, at9, st9, tk, vl, wd, it, mn, so, sb, my, we, be9, rw, fr, C, L, p, rfl, rfl, hTX, rfl, hp, hq⟩ := hs
  obtain ⟨e1, e2, hL, hC⟩ := hTX
  subst e1
  subst e2
  have tx : TX (nB C) (nI L) C L := ⟨rfl, rfl, hL, hC⟩
  refine ⟨Nat.le_of_ble_eq_true rfl, ?_⟩
  have hsL : tkS C L p ≤ L := (run_le (C := C) (lo := 32) (hi := 32) 151 p hp).2
  obtain ⟨s, hs⟩ : ∃ s, s = tkS C L p := ⟨_, rfl⟩
  rw [← hs] at hq hsL
  have b1t : ∀ {c : Bool}, ¬ b1 c = 0 → c = true := fun {c} h => by
    cases c with
    | true => rfl
    | false => exact absurd rfl h
  -- behind the blanks
  have tok : K 24 [some (.ref 0)] [] (wM bk im kp asd rf qt ab be (nB C) (nI L) (nI s) st9 tk vl wd it mn so sb my we be9 rw fr) := by
    refine hK 12 21 24 _ _ _ ?_
    refine ⟨fun z => ?_, fun z => ?_⟩
    · have z : ¬ s = L := fun q => z (by rw [q])
      refine ⟨_, _, _, _, _, _, _, _, _, _, _, _, _, _, _, _, _, _, _, _, _, _, _, _, C, L, s, 97, 122, rfl, rfl, tx, rfl, by omega, by omega, by omega, fun y => ?_, fun y => ?_⟩
      · have y := b1_0.mp y
        -- no letter
        refine hK 75 8 144 _ _ _ ?_
        refine ⟨_, _, _, _, _, _, _, _, _, _, _, _, _, _, _, _, _, _, _, _, _, _, _, _, C, L, s, 48, 57, rfl, rfl, tx, rfl, by omega, by omega, by omega, fun x => ?_, fun x => ?_⟩
        · have x := b1_0.mp x
          have ee : tkE C L s = s + 1 := by rw [tkE, if_neg z, if_neg (by rw [y]; exact Bool.false_ne_true), if_neg (by rw [x]; exact Bool.false_ne_true)]
          have ek : tkK C L s = if C s = 59 then 3 else 1 := by rw [tkK, if_neg z, if_neg (by rw [y]; exact Bool.false_ne_true), if_neg (by rw [x]; exact Bool.false_ne_true)]
          have hk : tkK C L s = 3 ∨ tkK C L s = 1 := by rw [ek]; split <;> simp
          have hq := hq vl wd (fun h => by omega) (fun h => by omega)
          rw [ee, ← nI_1 s] at hq
          have last : ∀ v, v = nI (tkK C L s) → K 268 [some (.ref 0)] [.int v, .ref 0] (wM bk im kp asd rf qt ab be (nB C) (nI L) (nI s) (nI s) tk vl wd it mn so sb my we be9 rw fr) := by
            intro v hv
            subst hv
            exact hK 141 9999 268 _ _ _ hq
          refine hK 132 9 251 _ _ _ ?_
          refine ⟨_, _, _, _, _, _, _, _, _, _, _, _, _, _, _, _, _, _, _, _, _, _, _, _, C, L, s, 59, 59, rfl, rfl, tx, rfl, by omega, by omega, by omega, fun w => ?_, fun w => ?_⟩
          · have w := b1_0.mp w
            have w : ¬ C s = 59 := fun q => by
              have := of_decide_eq_false w
              exact this ⟨by omega, by omega, by omega⟩
            exact last _ (by rw [ek, if_neg w]; rfl)
          · have w := isr_lt (b1t w)
            exact last _ (by rw [ek, if_pos (by omega)]; rfl)
        · have x := b1t x
          -- a number
          have ee : tkE C L s = run C L 48 57 151 s := by rw [tkE, if_neg z, if_neg (by rw [y]; exact Bool.false_ne_true), if_pos x]
          have ek : tkK C L s = if 2 < tkE C L s - s then 1 else 2 := by rw [tkK, if_neg z, if_neg (by rw [y]; exact Bool.false_ne_true), if_pos x]
          have hel := run_le (C := C) (L := L) (lo := 48) (hi := 57) 151 s hsL
          rw [← ee] at hel
          have num : ∀ (f i : Nat), i ≤ L → s ≤ i → L < i + f → run C L 48 57 f i = tkE C L s → K 160 [some (.ref 0)] [] (wM bk im kp asd rf qt ab be (nB C) (nI L) (nI i) (nI s) tk (nmI C s (i - s)) wd it mn so sb my we be9 rw fr) := by
            intro f
            induction f with
            | zero => intro i h1 h2 h3; omega
            | succ f ih =>
              intro i h1 h2 h3 hr
              rw [run] at hr
              refine hK 83 28 160 _ _ _ ?_
              refine ⟨_, _, _, _, _, _, _, _, _, _, _, _, _, _, _, _, _, _, _, _, _, _, _, _, C, L, i, 48, 57, rfl, rfl, tx, rfl, by omega, by omega, by omega, fun w => ?_, fun w => ?_⟩
              · have w := b1_0.mp w
                rw [if_neg (by rw [w]; exact Bool.false_ne_true)] at hr
                have hq := hq (nmI C s (i - s)) wd (fun _ => by rw [hr]) (fun h => by rw [ek] at h; split at h <;> omega)
                rw [← hr] at hq
                rw [← hr] at ek
                have last : ∀ v, v = nI (tkK C L s) → K 247 [some (.ref 0)] [.int v, .ref 0] (wM bk im kp asd rf qt ab be (nB C) (nI L) (nI i) (nI s) tk (nmI C s (i - s)) wd it mn so sb my we be9 rw fr) := by
                  intro v hv
                  subst hv
                  exact hK 130 2 247 _ _ _ hq
                have es : nI i - nI s = nI (i - s) := pk_sub h2
                refine hK 119 11 228 _ _ _ ?_
                refine ⟨fun u => ?_, fun u => ?_⟩
                · rw [es] at u
                  have u := (nI_leI (a := i - s) (b := 2) (by omega) (by omega)).mp u
                  exact last _ (by rw [ek, if_neg (by omega)]; rfl)
                · rw [es] at u
                  have u : 2 < i - s := by
                    rcases Nat.lt_or_ge 2 (i - s) with q | q
                    · exact q
                    · exact absurd (nI_le (b := 2) q (by omega)) u
                  exact last _ (by rw [ek, if_pos u]; rfl)
              · have w := b1t w
                have wl := isr_lt w
                rw [if_pos w] at hr
                have nx := ih (i + 1) (by omega) (by omega) (by omega) hr
                rw [← nI_1 i, show i + 1 - s = (i - s) + 1 by omega, nmI, show s + (i - s) = i by omega] at nx
                have es : nI i - nI s = nI (i - s) := pk_sub h2
                have last : ∀ v, v = (if i - s < 2 then 10 * nmI C s (i - s) + nI (C i) - 48 else nmI C s (i - s)) → K 212 [some (.ref 0)] [.int v, .ref 0] (wM bk im kp asd rf qt ab be (nB C) (nI L) (nI i) (nI s) tk (nmI C s (i - s)) wd it mn so sb my we be9 rw fr) := by
                  intro v hv
                  subst hv
                  exact hK 111 8 212 _ _ _ nx
                refine ⟨fun u => ?_, fun u => ?_⟩
                · rw [es] at u
                  have u := (nI_leI (a := 2) (b := i - s) (by omega) (by omega)).mp u
                  exact last _ (by rw [if_neg (by omega)])
                · rw [es] at u
                  have u : i - s < 2 := by
                    rcases Nat.lt_or_ge (i - s) 2 with q | q
                    · exact q
                    · exact absurd (nI_le (a := 2) q (by omega)) u
                  exact ⟨i, rfl, by omega, last _ (by rw [if_pos u]; rfl)⟩
          have n0 := num 151 s hsL (Nat.le_refl _) (by omega) ee.symm
          rw [Nat.sub_self, nmI] at n0
          exact n0
      · have y := b1t y
        -- a word
        have ee : tkE C L s = run C L 97 122 151 s := by rw [tkE, if_neg z, if_pos y]
        have ek : tkK C L s = 4 := by rw [tkK, if_neg z, if_pos y]
        have wrd : ∀ (f i : Nat), i ≤ L → s ≤ i → L < i + f → run C L 97 122 f i = tkE C L s → K 65 [some (.ref 0)] [] (wM bk im kp asd rf qt ab be (nB C) (nI L) (nI i) (nI s) tk vl (wdV C s (i - s)) it mn so sb my we be9 rw fr) := by
          intro f
          induction f with
          | zero => intro i h1 h2 h3; omega
          | succ f ih =>
            intro i h1 h2 h3 hr
            rw [run] at hr
            refine hK 33 30 65 _ _ _ ?_
            refine ⟨_, _, _, _, _, _, _, _, _, _, _, _, _, _, _, _, _, _, _, _, _, _, _, _, C, L, i, 97, 122, rfl, rfl, tx, rfl, by omega, by omega, by omega, fun w => ?_, fun w => ?_⟩
            · have w := b1_0.mp w
              rw [if_neg (by rw [w]; exact Bool.false_ne_true)] at hr
              have hq := hq vl (wdV C s (i - s)) (fun h => by omega) (fun _ => by rw [hr])
              rw [← hr, ek] at hq
              exact hK 71 4 138 _ _ _ hq
            · have w := b1t w
              have wl := isr_lt w
              rw [if_pos w] at hr
              have nx := ih (i + 1) (by omega) (by omega) (by omega) hr
              rw [← nI_1 i, show i + 1 - s = (i - s) + 1 by omega, wdV, show s + (i - s) = i by omega] at nx
              have es : nI i - nI s = nI (i - s) := pk_sub h2
              have last : ∀ v, v = (if i - s ≤ 6 then 32 * wdV C s (i - s) + (nI (C i)).toInt64 - 97 + 1 else -1) → K 122 [some (.ref 0)] [.long v, .ref 0] (wM bk im kp asd rf qt ab be (nB C) (nI L) (nI i) (nI s) tk vl (wdV C s (i - s)) it mn so sb my we be9 rw fr) := by
                intro v hv
                subst hv
                exact hK 63 8 122 _ _ _ nx
              refine ⟨fun u => ?_, fun u => ?_⟩
              · rw [es] at u
                have u := (nI_leI (a := i - s) (b := 6) (by omega) (by omega)).mp u
                exact ⟨i, rfl, by omega, last _ (by rw [if_pos u]; rfl)⟩
              · rw [es] at u
                have u : ¬ i - s ≤ 6 := fun q => absurd (nI_le (b := 6) q (by omega)) u
                exact last _ (by rw [if_neg u])
        have n0 := wrd 151 s hsL (Nat.le_refl _) (by omega) ee.symm
        rw [Nat.sub_self, wdV] at n0
        exact n0
    · have z : s = L := (nI_eq (by omega) (by omega)).mp z
      have hq := hq vl wd (fun h => by rw [tkK, if_pos z] at h; omega) (fun h => by rw [tkK, if_pos z] at h; omega)
      rw [tkE, tkK, if_pos z, if_pos z, ← z] at hq
      rw [← z]
      exact hq
  have blank : ∀ (f i : Nat), i ≤ L → L < i + f → run C L 32 32 f i = s → K 0 [some (.ref 0)] [] (wM bk im kp asd rf qt ab be (nB C) (nI L) (nI i) st9 tk vl wd it mn so sb my we be9 rw fr) := by
    intro f
    induction f with
    | zero => intro i h1 h2; omega
    | succ f ih =>
      intro i h1 h2 hr
      rw [run] at hr
      refine hK 0 12 0 _ _ _ ?_
      refine ⟨_, _, _, _, _, _, _, _, _, _, _, _, _, _, _, _, _, _, _, _, _, _, _, _, C, L, i, 32, 32, rfl, rfl, tx, rfl, by omega, by omega, by omega, fun w => ?_, fun w => ?_⟩
      · have w := b1_0.mp w
        rw [if_neg (by rw [w]; exact Bool.false_ne_true)] at hr
        rw [← hr] at tok
        exact tok
      · have w := b1t w
        have wl := isr_lt w
        rw [if_pos w] at hr
        have := ih (i + 1) (by omega) (by omega) hr
        rw [← nI_1 i] at this
        exact this
  exact blank 151 p hp (by omega) hs.symm
abbrev rm_X10_scans : Room := { frames := 2, cells := 0, slots := 0, locals := 47 }
set_option maxRecDepth 100000 in
set_option maxHeartbeats 4000000 in
theorem ct_X10_scans (l : Launch) (D : va_G) (dA : Nat → ClassId) (σ : Nat → Nat) : em_CT l D em_cl dA σ (em_F σ) y_X10_scans c_X10_scans 1 (Option.none : Option ClassFile.FieldType) rm_X10_scans (sp_X10_scans ) := by
  refine em_CT_of (T := T_X10_scans ) (em_F_ok σ) (by decide) (fun p e s m args below meth c A ρ Q C hFok hF hret hlk hin => ?_) (me_X10_scans )
  unfold T_X10_scans
  refine List.forall_mem_cons.mpr ⟨s_aload_n C (by decide +kernel : decode c_X10_scans 0 = .ok (.aload_n 0, 1)) rfl rfl rfl, ?_⟩
  refine List.forall_mem_cons.mpr ⟨s_bipush C (by decide +kernel : decode c_X10_scans 1 = .ok (.bipush 32, 2)) rfl rfl (by decide), ?_⟩
  refine List.forall_mem_cons.mpr ⟨s_bipush C (by decide +kernel : decode c_X10_scans 3 = .ok (.bipush 32, 2)) rfl rfl (by decide), ?_⟩
  refine List.forall_mem_cons.mpr ⟨s_callV C hFok hF (ct_X10_isAt l D dA σ) ⟨rfl, rfl⟩ ew849 em_cl_X10 ew846 ew848 ewp21 ew6 ⟨by decide, by decide, by decide +kernel⟩ ⟨by decide, by decide⟩ (by decide +kernel : decode c_X10_scans 5 = .ok (.invokevirtual 109, 3)) rfl rfl ⟨Nat.zero_le _, Nat.zero_le _⟩, ?_⟩
  refine List.forall_mem_cons.mpr ⟨s_ifeq C (by decide +kernel : decode c_X10_scans 8 = .ok (.ifCond .eq 16, 3)) (by decide) rfl rfl rfl, ?_⟩
  refine List.forall_mem_cons.mpr ⟨s_aload_n C (by decide +kernel : decode c_X10_scans 11 = .ok (.aload_n 0, 1)) rfl rfl rfl, ?_⟩
  refine List.forall_mem_cons.mpr ⟨s_dup C (by decide +kernel : decode c_X10_scans 12 = .ok (.dup, 1)) rfl rfl, ?_⟩
  refine List.forall_mem_cons.mpr ⟨s_getf C (by decide +kernel : decode c_X10_scans 13 = .ok (.getfield 106, 3)) rfl rfl em_cl_X10 (by decide) ew701 rfl, ?_⟩
  refine List.forall_mem_cons.mpr ⟨s_iconst C (by decide +kernel : decode c_X10_scans 16 = .ok (.iconst 1, 1)) rfl rfl (by decide), ?_⟩
  refine List.forall_mem_cons.mpr ⟨s_iadd C (by decide +kernel : decode c_X10_scans 17 = .ok (.iadd, 1)) rfl rfl, ?_⟩
  refine List.forall_mem_cons.mpr ⟨s_putI C (by decide +kernel : decode c_X10_scans 18 = .ok (.putfield 106, 3)) rfl rfl em_cl_X10 (by decide) ew701 rfl (by decide) (by decide +kernel), ?_⟩
  refine List.forall_mem_cons.mpr ⟨s_goto C (by decide +kernel : decode c_X10_scans 21 = .ok (.goto (-21), 3)) (by decide) rfl, ?_⟩
  refine List.forall_mem_cons.mpr ⟨s_aload_n C (by decide +kernel : decode c_X10_scans 24 = .ok (.aload_n 0, 1)) rfl rfl rfl, ?_⟩
  refine List.forall_mem_cons.mpr ⟨s_aload_n C (by decide +kernel : decode c_X10_scans 25 = .ok (.aload_n 0, 1)) rfl rfl rfl, ?_⟩
  refine List.forall_mem_cons.mpr ⟨s_getf C (by decide +kernel : decode c_X10_scans 26 = .ok (.getfield 106, 3)) rfl rfl em_cl_X10 (by decide) ew701 rfl, ?_⟩
  refine List.forall_mem_cons.mpr ⟨s_putI C (by decide +kernel : decode c_X10_scans 29 = .ok (.putfield 112, 3)) rfl rfl em_cl_X10 (by decide) ew702 rfl (by decide) (by decide +kernel), ?_⟩
  refine List.forall_mem_cons.mpr ⟨s_aload_n C (by decide +kernel : decode c_X10_scans 32 = .ok (.aload_n 0, 1)) rfl rfl rfl, ?_⟩
  refine List.forall_mem_cons.mpr ⟨s_getf C (by decide +kernel : decode c_X10_scans 33 = .ok (.getfield 106, 3)) rfl rfl em_cl_X10 (by decide) ew701 rfl, ?_⟩
  refine List.forall_mem_cons.mpr ⟨s_aload_n C (by decide +kernel : decode c_X10_scans 36 = .ok (.aload_n 0, 1)) rfl rfl rfl, ?_⟩
  refine List.forall_mem_cons.mpr ⟨s_getf C (by decide +kernel : decode c_X10_scans 37 = .ok (.getfield 102, 3)) rfl rfl em_cl_X10 (by decide) ew700 rfl, ?_⟩
  refine List.forall_mem_cons.mpr ⟨s_icmpne C (by decide +kernel : decode c_X10_scans 40 = .ok (.if_icmp .ne 9, 3)) (by decide) rfl rfl rfl, ?_⟩
  refine List.forall_mem_cons.mpr ⟨s_aload_n C (by decide +kernel : decode c_X10_scans 43 = .ok (.aload_n 0, 1)) rfl rfl rfl, ?_⟩
  refine List.forall_mem_cons.mpr ⟨s_iconst C (by decide +kernel : decode c_X10_scans 44 = .ok (.iconst 0, 1)) rfl rfl (by decide), ?_⟩
  refine List.forall_mem_cons.mpr ⟨s_putI C (by decide +kernel : decode c_X10_scans 45 = .ok (.putfield 115, 3)) rfl rfl em_cl_X10 (by decide) ew703 rfl (by decide) (by decide +kernel), ?_⟩
  refine List.forall_mem_cons.mpr ⟨s_vret C (by decide +kernel : decode c_X10_scans 48 = .ok (.return_, 1)) hret hlk ⟨Nat.le_refl 0, Nat.le_refl 0⟩, ?_⟩
  refine List.forall_mem_cons.mpr ⟨s_aload_n C (by decide +kernel : decode c_X10_scans 49 = .ok (.aload_n 0, 1)) rfl rfl rfl, ?_⟩
  refine List.forall_mem_cons.mpr ⟨s_bipush C (by decide +kernel : decode c_X10_scans 50 = .ok (.bipush 97, 2)) rfl rfl (by decide), ?_⟩
  refine List.forall_mem_cons.mpr ⟨s_bipush C (by decide +kernel : decode c_X10_scans 52 = .ok (.bipush 122, 2)) rfl rfl (by decide), ?_⟩
  refine List.forall_mem_cons.mpr ⟨s_callV C hFok hF (ct_X10_isAt l D dA σ) ⟨rfl, rfl⟩ ew849 em_cl_X10 ew846 ew848 ewp21 ew6 ⟨by decide, by decide, by decide +kernel⟩ ⟨by decide, by decide⟩ (by decide +kernel : decode c_X10_scans 54 = .ok (.invokevirtual 109, 3)) rfl rfl ⟨Nat.zero_le _, Nat.zero_le _⟩, ?_⟩
  refine List.forall_mem_cons.mpr ⟨s_ifeq C (by decide +kernel : decode c_X10_scans 57 = .ok (.ifCond .eq 87, 3)) (by decide) rfl rfl rfl, ?_⟩
  refine List.forall_mem_cons.mpr ⟨s_aload_n C (by decide +kernel : decode c_X10_scans 60 = .ok (.aload_n 0, 1)) rfl rfl rfl, ?_⟩
  refine List.forall_mem_cons.mpr ⟨s_lconst C (by decide +kernel : decode c_X10_scans 61 = .ok (.lconst 0, 1)) rfl rfl (by decide), ?_⟩
  refine List.forall_mem_cons.mpr ⟨s_putL C (by decide +kernel : decode c_X10_scans 62 = .ok (.putfield 118, 3)) rfl rfl em_cl_X10 (by decide) ew705 rfl (by decide) (by decide +kernel), ?_⟩
  refine List.forall_mem_cons.mpr ⟨s_aload_n C (by decide +kernel : decode c_X10_scans 65 = .ok (.aload_n 0, 1)) rfl rfl rfl, ?_⟩
  refine List.forall_mem_cons.mpr ⟨s_bipush C (by decide +kernel : decode c_X10_scans 66 = .ok (.bipush 97, 2)) rfl rfl (by decide), ?_⟩
  refine List.forall_mem_cons.mpr ⟨s_bipush C (by decide +kernel : decode c_X10_scans 68 = .ok (.bipush 122, 2)) rfl rfl (by decide), ?_⟩
  refine List.forall_mem_cons.mpr ⟨s_callV C hFok hF (ct_X10_isAt l D dA σ) ⟨rfl, rfl⟩ ew849 em_cl_X10 ew846 ew848 ewp21 ew6 ⟨by decide, by decide, by decide +kernel⟩ ⟨by decide, by decide⟩ (by decide +kernel : decode c_X10_scans 70 = .ok (.invokevirtual 109, 3)) rfl rfl ⟨Nat.zero_le _, Nat.zero_le _⟩, ?_⟩
  refine List.forall_mem_cons.mpr ⟨s_ifeq C (by decide +kernel : decode c_X10_scans 73 = .ok (.ifCond .eq 65, 3)) (by decide) rfl rfl rfl, ?_⟩
  refine List.forall_mem_cons.mpr ⟨s_aload_n C (by decide +kernel : decode c_X10_scans 76 = .ok (.aload_n 0, 1)) rfl rfl rfl, ?_⟩
  refine List.forall_mem_cons.mpr ⟨s_aload_n C (by decide +kernel : decode c_X10_scans 77 = .ok (.aload_n 0, 1)) rfl rfl rfl, ?_⟩
  refine List.forall_mem_cons.mpr ⟨s_getf C (by decide +kernel : decode c_X10_scans 78 = .ok (.getfield 106, 3)) rfl rfl em_cl_X10 (by decide) ew701 rfl, ?_⟩
  refine List.forall_mem_cons.mpr ⟨s_aload_n C (by decide +kernel : decode c_X10_scans 81 = .ok (.aload_n 0, 1)) rfl rfl rfl, ?_⟩
  refine List.forall_mem_cons.mpr ⟨s_getf C (by decide +kernel : decode c_X10_scans 82 = .ok (.getfield 112, 3)) rfl rfl em_cl_X10 (by decide) ew702 rfl, ?_⟩
  refine List.forall_mem_cons.mpr ⟨s_isub C (by decide +kernel : decode c_X10_scans 85 = .ok (.isub, 1)) rfl rfl, ?_⟩
  refine List.forall_mem_cons.mpr ⟨s_bipush C (by decide +kernel : decode c_X10_scans 86 = .ok (.bipush 6, 2)) rfl rfl (by decide), ?_⟩
  refine List.forall_mem_cons.mpr ⟨s_icmple C (by decide +kernel : decode c_X10_scans 88 = .ok (.if_icmp .le 9, 3)) (by decide) rfl rfl rfl, ?_⟩
  refine List.forall_mem_cons.mpr ⟨s_ldc2 C (by decide +kernel : decode c_X10_scans 91 = .ok (.ldc2_w 121, 3)) rfl rfl ew850, ?_⟩
  refine List.forall_mem_cons.mpr ⟨s_goto C (by decide +kernel : decode c_X10_scans 94 = .ok (.goto 28, 3)) (by decide) rfl, ?_⟩
  refine List.forall_mem_cons.mpr ⟨s_ldc2 C (by decide +kernel : decode c_X10_scans 97 = .ok (.ldc2_w 123, 3)) rfl rfl ew851, ?_⟩
  refine List.forall_mem_cons.mpr ⟨s_aload_n C (by decide +kernel : decode c_X10_scans 100 = .ok (.aload_n 0, 1)) rfl rfl rfl, ?_⟩
  refine List.forall_mem_cons.mpr ⟨s_getf C (by decide +kernel : decode c_X10_scans 101 = .ok (.getfield 118, 3)) rfl rfl em_cl_X10 (by decide) ew705 rfl, ?_⟩
  refine List.forall_mem_cons.mpr ⟨s_lmul C (by decide +kernel : decode c_X10_scans 104 = .ok (.lmul, 1)) rfl rfl, ?_⟩
  refine List.forall_mem_cons.mpr ⟨s_aload_n C (by decide +kernel : decode c_X10_scans 105 = .ok (.aload_n 0, 1)) rfl rfl rfl, ?_⟩
  refine List.forall_mem_cons.mpr ⟨s_getf C (by decide +kernel : decode c_X10_scans 106 = .ok (.getfield 26, 3)) rfl rfl em_cl_X10 (by decide) ew699 rfl, ?_⟩
  refine List.forall_mem_cons.mpr ⟨s_aload_n C (by decide +kernel : decode c_X10_scans 109 = .ok (.aload_n 0, 1)) rfl rfl rfl, ?_⟩
  refine List.forall_mem_cons.mpr ⟨s_getf C (by decide +kernel : decode c_X10_scans 110 = .ok (.getfield 106, 3)) rfl rfl em_cl_X10 (by decide) ew701 rfl, ?_⟩
  refine List.forall_mem_cons.mpr ⟨s_iald C (by decide +kernel : decode c_X10_scans 113 = .ok (.iaload, 1)) rfl rfl, ?_⟩
  refine List.forall_mem_cons.mpr ⟨s_i2l C (by decide +kernel : decode c_X10_scans 114 = .ok (.i2l, 1)) rfl rfl, ?_⟩
  refine List.forall_mem_cons.mpr ⟨s_ladd C (by decide +kernel : decode c_X10_scans 115 = .ok (.ladd, 1)) rfl rfl, ?_⟩
  refine List.forall_mem_cons.mpr ⟨s_ldc2 C (by decide +kernel : decode c_X10_scans 116 = .ok (.ldc2_w 125, 3)) rfl rfl ew852, ?_⟩
  refine List.forall_mem_cons.mpr ⟨s_lsub C (by decide +kernel : decode c_X10_scans 119 = .ok (.lsub, 1)) rfl rfl, ?_⟩
  refine List.forall_mem_cons.mpr ⟨s_lconst C (by decide +kernel : decode c_X10_scans 120 = .ok (.lconst 1, 1)) rfl rfl (by decide), ?_⟩
  refine List.forall_mem_cons.mpr ⟨s_ladd C (by decide +kernel : decode c_X10_scans 121 = .ok (.ladd, 1)) rfl rfl, ?_⟩
  refine List.forall_mem_cons.mpr ⟨s_putL C (by decide +kernel : decode c_X10_scans 122 = .ok (.putfield 118, 3)) rfl rfl em_cl_X10 (by decide) ew705 rfl (by decide) (by decide +kernel), ?_⟩
  refine List.forall_mem_cons.mpr ⟨s_aload_n C (by decide +kernel : decode c_X10_scans 125 = .ok (.aload_n 0, 1)) rfl rfl rfl, ?_⟩
  refine List.forall_mem_cons.mpr ⟨s_dup C (by decide +kernel : decode c_X10_scans 126 = .ok (.dup, 1)) rfl rfl, ?_⟩
  refine List.forall_mem_cons.mpr ⟨s_getf C (by decide +kernel : decode c_X10_scans 127 = .ok (.getfield 106, 3)) rfl rfl em_cl_X10 (by decide) ew701 rfl, ?_⟩
  refine List.forall_mem_cons.mpr ⟨s_iconst C (by decide +kernel : decode c_X10_scans 130 = .ok (.iconst 1, 1)) rfl rfl (by decide), ?_⟩
  refine List.forall_mem_cons.mpr ⟨s_iadd C (by decide +kernel : decode c_X10_scans 131 = .ok (.iadd, 1)) rfl rfl, ?_⟩
  refine List.forall_mem_cons.mpr ⟨s_putI C (by decide +kernel : decode c_X10_scans 132 = .ok (.putfield 106, 3)) rfl rfl em_cl_X10 (by decide) ew701 rfl (by decide) (by decide +kernel), ?_⟩
  refine List.forall_mem_cons.mpr ⟨s_goto C (by decide +kernel : decode c_X10_scans 135 = .ok (.goto (-70), 3)) (by decide) rfl, ?_⟩
  refine List.forall_mem_cons.mpr ⟨s_aload_n C (by decide +kernel : decode c_X10_scans 138 = .ok (.aload_n 0, 1)) rfl rfl rfl, ?_⟩
  refine List.forall_mem_cons.mpr ⟨s_iconst C (by decide +kernel : decode c_X10_scans 139 = .ok (.iconst 4, 1)) rfl rfl (by decide), ?_⟩
  refine List.forall_mem_cons.mpr ⟨s_putI C (by decide +kernel : decode c_X10_scans 140 = .ok (.putfield 115, 3)) rfl rfl em_cl_X10 (by decide) ew703 rfl (by decide) (by decide +kernel), ?_⟩
  refine List.forall_mem_cons.mpr ⟨s_vret C (by decide +kernel : decode c_X10_scans 143 = .ok (.return_, 1)) hret hlk ⟨Nat.le_refl 0, Nat.le_refl 0⟩, ?_⟩
  refine List.forall_mem_cons.mpr ⟨s_aload_n C (by decide +kernel : decode c_X10_scans 144 = .ok (.aload_n 0, 1)) rfl rfl rfl, ?_⟩
  refine List.forall_mem_cons.mpr ⟨s_bipush C (by decide +kernel : decode c_X10_scans 145 = .ok (.bipush 48, 2)) rfl rfl (by decide), ?_⟩
  refine List.forall_mem_cons.mpr ⟨s_bipush C (by decide +kernel : decode c_X10_scans 147 = .ok (.bipush 57, 2)) rfl rfl (by decide), ?_⟩
  refine List.forall_mem_cons.mpr ⟨s_callV C hFok hF (ct_X10_isAt l D dA σ) ⟨rfl, rfl⟩ ew849 em_cl_X10 ew846 ew848 ewp21 ew6 ⟨by decide, by decide, by decide +kernel⟩ ⟨by decide, by decide⟩ (by decide +kernel : decode c_X10_scans 149 = .ok (.invokevirtual 109, 3)) rfl rfl ⟨Nat.zero_le _, Nat.zero_le _⟩, ?_⟩
  refine List.forall_mem_cons.mpr ⟨s_ifeq C (by decide +kernel : decode c_X10_scans 152 = .ok (.ifCond .eq 99, 3)) (by decide) rfl rfl rfl, ?_⟩
  refine List.forall_mem_cons.mpr ⟨s_aload_n C (by decide +kernel : decode c_X10_scans 155 = .ok (.aload_n 0, 1)) rfl rfl rfl, ?_⟩
  refine List.forall_mem_cons.mpr ⟨s_iconst C (by decide +kernel : decode c_X10_scans 156 = .ok (.iconst 0, 1)) rfl rfl (by decide), ?_⟩
  refine List.forall_mem_cons.mpr ⟨s_putI C (by decide +kernel : decode c_X10_scans 157 = .ok (.putfield 127, 3)) rfl rfl em_cl_X10 (by decide) ew704 rfl (by decide) (by decide +kernel), ?_⟩
  refine List.forall_mem_cons.mpr ⟨s_aload_n C (by decide +kernel : decode c_X10_scans 160 = .ok (.aload_n 0, 1)) rfl rfl rfl, ?_⟩
  refine List.forall_mem_cons.mpr ⟨s_bipush C (by decide +kernel : decode c_X10_scans 161 = .ok (.bipush 48, 2)) rfl rfl (by decide), ?_⟩
  refine List.forall_mem_cons.mpr ⟨s_bipush C (by decide +kernel : decode c_X10_scans 163 = .ok (.bipush 57, 2)) rfl rfl (by decide), ?_⟩
  refine List.forall_mem_cons.mpr ⟨s_callV C hFok hF (ct_X10_isAt l D dA σ) ⟨rfl, rfl⟩ ew849 em_cl_X10 ew846 ew848 ewp21 ew6 ⟨by decide, by decide, by decide +kernel⟩ ⟨by decide, by decide⟩ (by decide +kernel : decode c_X10_scans 165 = .ok (.invokevirtual 109, 3)) rfl rfl ⟨Nat.zero_le _, Nat.zero_le _⟩, ?_⟩
  refine List.forall_mem_cons.mpr ⟨s_ifeq C (by decide +kernel : decode c_X10_scans 168 = .ok (.ifCond .eq 60, 3)) (by decide) rfl rfl rfl, ?_⟩
  refine List.forall_mem_cons.mpr ⟨s_aload_n C (by decide +kernel : decode c_X10_scans 171 = .ok (.aload_n 0, 1)) rfl rfl rfl, ?_⟩
  refine List.forall_mem_cons.mpr ⟨s_aload_n C (by decide +kernel : decode c_X10_scans 172 = .ok (.aload_n 0, 1)) rfl rfl rfl, ?_⟩
  refine List.forall_mem_cons.mpr ⟨s_getf C (by decide +kernel : decode c_X10_scans 173 = .ok (.getfield 106, 3)) rfl rfl em_cl_X10 (by decide) ew701 rfl, ?_⟩
  refine List.forall_mem_cons.mpr ⟨s_aload_n C (by decide +kernel : decode c_X10_scans 176 = .ok (.aload_n 0, 1)) rfl rfl rfl, ?_⟩
  refine List.forall_mem_cons.mpr ⟨s_getf C (by decide +kernel : decode c_X10_scans 177 = .ok (.getfield 112, 3)) rfl rfl em_cl_X10 (by decide) ew702 rfl, ?_⟩
  refine List.forall_mem_cons.mpr ⟨s_isub C (by decide +kernel : decode c_X10_scans 180 = .ok (.isub, 1)) rfl rfl, ?_⟩
  refine List.forall_mem_cons.mpr ⟨s_iconst C (by decide +kernel : decode c_X10_scans 181 = .ok (.iconst 2, 1)) rfl rfl (by decide), ?_⟩
  refine List.forall_mem_cons.mpr ⟨s_icmpge C (by decide +kernel : decode c_X10_scans 182 = .ok (.if_icmp .ge 26, 3)) (by decide) rfl rfl rfl, ?_⟩
  refine List.forall_mem_cons.mpr ⟨s_bipush C (by decide +kernel : decode c_X10_scans 185 = .ok (.bipush 10, 2)) rfl rfl (by decide), ?_⟩
  refine List.forall_mem_cons.mpr ⟨s_aload_n C (by decide +kernel : decode c_X10_scans 187 = .ok (.aload_n 0, 1)) rfl rfl rfl, ?_⟩
  refine List.forall_mem_cons.mpr ⟨s_getf C (by decide +kernel : decode c_X10_scans 188 = .ok (.getfield 127, 3)) rfl rfl em_cl_X10 (by decide) ew704 rfl, ?_⟩
  refine List.forall_mem_cons.mpr ⟨s_imul C (by decide +kernel : decode c_X10_scans 191 = .ok (.imul, 1)) rfl rfl, ?_⟩
  refine List.forall_mem_cons.mpr ⟨s_aload_n C (by decide +kernel : decode c_X10_scans 192 = .ok (.aload_n 0, 1)) rfl rfl rfl, ?_⟩
  refine List.forall_mem_cons.mpr ⟨s_getf C (by decide +kernel : decode c_X10_scans 193 = .ok (.getfield 26, 3)) rfl rfl em_cl_X10 (by decide) ew699 rfl, ?_⟩
  refine List.forall_mem_cons.mpr ⟨s_aload_n C (by decide +kernel : decode c_X10_scans 196 = .ok (.aload_n 0, 1)) rfl rfl rfl, ?_⟩
  refine List.forall_mem_cons.mpr ⟨s_getf C (by decide +kernel : decode c_X10_scans 197 = .ok (.getfield 106, 3)) rfl rfl em_cl_X10 (by decide) ew701 rfl, ?_⟩
  refine List.forall_mem_cons.mpr ⟨s_iald C (by decide +kernel : decode c_X10_scans 200 = .ok (.iaload, 1)) rfl rfl, ?_⟩
  refine List.forall_mem_cons.mpr ⟨s_iadd C (by decide +kernel : decode c_X10_scans 201 = .ok (.iadd, 1)) rfl rfl, ?_⟩
  refine List.forall_mem_cons.mpr ⟨s_bipush C (by decide +kernel : decode c_X10_scans 202 = .ok (.bipush 48, 2)) rfl rfl (by decide), ?_⟩
  refine List.forall_mem_cons.mpr ⟨s_isub C (by decide +kernel : decode c_X10_scans 204 = .ok (.isub, 1)) rfl rfl, ?_⟩
  refine List.forall_mem_cons.mpr ⟨s_goto C (by decide +kernel : decode c_X10_scans 205 = .ok (.goto 7, 3)) (by decide) rfl, ?_⟩
  refine List.forall_mem_cons.mpr ⟨s_aload_n C (by decide +kernel : decode c_X10_scans 208 = .ok (.aload_n 0, 1)) rfl rfl rfl, ?_⟩
  refine List.forall_mem_cons.mpr ⟨s_getf C (by decide +kernel : decode c_X10_scans 209 = .ok (.getfield 127, 3)) rfl rfl em_cl_X10 (by decide) ew704 rfl, ?_⟩
  refine List.forall_mem_cons.mpr ⟨s_putI C (by decide +kernel : decode c_X10_scans 212 = .ok (.putfield 127, 3)) rfl rfl em_cl_X10 (by decide) ew704 rfl (by decide) (by decide +kernel), ?_⟩
  refine List.forall_mem_cons.mpr ⟨s_aload_n C (by decide +kernel : decode c_X10_scans 215 = .ok (.aload_n 0, 1)) rfl rfl rfl, ?_⟩
  refine List.forall_mem_cons.mpr ⟨s_dup C (by decide +kernel : decode c_X10_scans 216 = .ok (.dup, 1)) rfl rfl, ?_⟩
  refine List.forall_mem_cons.mpr ⟨s_getf C (by decide +kernel : decode c_X10_scans 217 = .ok (.getfield 106, 3)) rfl rfl em_cl_X10 (by decide) ew701 rfl, ?_⟩
  refine List.forall_mem_cons.mpr ⟨s_iconst C (by decide +kernel : decode c_X10_scans 220 = .ok (.iconst 1, 1)) rfl rfl (by decide), ?_⟩
  refine List.forall_mem_cons.mpr ⟨s_iadd C (by decide +kernel : decode c_X10_scans 221 = .ok (.iadd, 1)) rfl rfl, ?_⟩
  refine List.forall_mem_cons.mpr ⟨s_putI C (by decide +kernel : decode c_X10_scans 222 = .ok (.putfield 106, 3)) rfl rfl em_cl_X10 (by decide) ew701 rfl (by decide) (by decide +kernel), ?_⟩
  refine List.forall_mem_cons.mpr ⟨s_goto C (by decide +kernel : decode c_X10_scans 225 = .ok (.goto (-65), 3)) (by decide) rfl, ?_⟩
  refine List.forall_mem_cons.mpr ⟨s_aload_n C (by decide +kernel : decode c_X10_scans 228 = .ok (.aload_n 0, 1)) rfl rfl rfl, ?_⟩
  refine List.forall_mem_cons.mpr ⟨s_aload_n C (by decide +kernel : decode c_X10_scans 229 = .ok (.aload_n 0, 1)) rfl rfl rfl, ?_⟩
  refine List.forall_mem_cons.mpr ⟨s_getf C (by decide +kernel : decode c_X10_scans 230 = .ok (.getfield 106, 3)) rfl rfl em_cl_X10 (by decide) ew701 rfl, ?_⟩
  refine List.forall_mem_cons.mpr ⟨s_aload_n C (by decide +kernel : decode c_X10_scans 233 = .ok (.aload_n 0, 1)) rfl rfl rfl, ?_⟩
  refine List.forall_mem_cons.mpr ⟨s_getf C (by decide +kernel : decode c_X10_scans 234 = .ok (.getfield 112, 3)) rfl rfl em_cl_X10 (by decide) ew702 rfl, ?_⟩
  refine List.forall_mem_cons.mpr ⟨s_isub C (by decide +kernel : decode c_X10_scans 237 = .ok (.isub, 1)) rfl rfl, ?_⟩
  refine List.forall_mem_cons.mpr ⟨s_iconst C (by decide +kernel : decode c_X10_scans 238 = .ok (.iconst 2, 1)) rfl rfl (by decide), ?_⟩
  refine List.forall_mem_cons.mpr ⟨s_icmple C (by decide +kernel : decode c_X10_scans 239 = .ok (.if_icmp .le 7, 3)) (by decide) rfl rfl rfl, ?_⟩
  refine List.forall_mem_cons.mpr ⟨s_iconst C (by decide +kernel : decode c_X10_scans 242 = .ok (.iconst 1, 1)) rfl rfl (by decide), ?_⟩
  refine List.forall_mem_cons.mpr ⟨s_goto C (by decide +kernel : decode c_X10_scans 243 = .ok (.goto 4, 3)) (by decide) rfl, ?_⟩
  refine List.forall_mem_cons.mpr ⟨s_iconst C (by decide +kernel : decode c_X10_scans 246 = .ok (.iconst 2, 1)) rfl rfl (by decide), ?_⟩
  refine List.forall_mem_cons.mpr ⟨s_putI C (by decide +kernel : decode c_X10_scans 247 = .ok (.putfield 115, 3)) rfl rfl em_cl_X10 (by decide) ew703 rfl (by decide) (by decide +kernel), ?_⟩
  refine List.forall_mem_cons.mpr ⟨s_vret C (by decide +kernel : decode c_X10_scans 250 = .ok (.return_, 1)) hret hlk ⟨Nat.le_refl 0, Nat.le_refl 0⟩, ?_⟩
  refine List.forall_mem_cons.mpr ⟨s_aload_n C (by decide +kernel : decode c_X10_scans 251 = .ok (.aload_n 0, 1)) rfl rfl rfl, ?_⟩
  refine List.forall_mem_cons.mpr ⟨s_aload_n C (by decide +kernel : decode c_X10_scans 252 = .ok (.aload_n 0, 1)) rfl rfl rfl, ?_⟩
  refine List.forall_mem_cons.mpr ⟨s_bipush C (by decide +kernel : decode c_X10_scans 253 = .ok (.bipush 59, 2)) rfl rfl (by decide), ?_⟩
  refine List.forall_mem_cons.mpr ⟨s_bipush C (by decide +kernel : decode c_X10_scans 255 = .ok (.bipush 59, 2)) rfl rfl (by decide), ?_⟩
  refine List.forall_mem_cons.mpr ⟨s_callV C hFok hF (ct_X10_isAt l D dA σ) ⟨rfl, rfl⟩ ew849 em_cl_X10 ew846 ew848 ewp21 ew6 ⟨by decide, by decide, by decide +kernel⟩ ⟨by decide, by decide⟩ (by decide +kernel : decode c_X10_scans 257 = .ok (.invokevirtual 109, 3)) rfl rfl ⟨Nat.zero_le _, Nat.zero_le _⟩, ?_⟩
  refine List.forall_mem_cons.mpr ⟨s_ifeq C (by decide +kernel : decode c_X10_scans 260 = .ok (.ifCond .eq 7, 3)) (by decide) rfl rfl rfl, ?_⟩
  refine List.forall_mem_cons.mpr ⟨s_iconst C (by decide +kernel : decode c_X10_scans 263 = .ok (.iconst 3, 1)) rfl rfl (by decide), ?_⟩
  refine List.forall_mem_cons.mpr ⟨s_goto C (by decide +kernel : decode c_X10_scans 264 = .ok (.goto 4, 3)) (by decide) rfl, ?_⟩
  refine List.forall_mem_cons.mpr ⟨s_iconst C (by decide +kernel : decode c_X10_scans 267 = .ok (.iconst 1, 1)) rfl rfl (by decide), ?_⟩
  refine List.forall_mem_cons.mpr ⟨s_putI C (by decide +kernel : decode c_X10_scans 268 = .ok (.putfield 115, 3)) rfl rfl em_cl_X10 (by decide) ew703 rfl (by decide) (by decide +kernel), ?_⟩
  refine List.forall_mem_cons.mpr ⟨s_aload_n C (by decide +kernel : decode c_X10_scans 271 = .ok (.aload_n 0, 1)) rfl rfl rfl, ?_⟩
  refine List.forall_mem_cons.mpr ⟨s_dup C (by decide +kernel : decode c_X10_scans 272 = .ok (.dup, 1)) rfl rfl, ?_⟩
  refine List.forall_mem_cons.mpr ⟨s_getf C (by decide +kernel : decode c_X10_scans 273 = .ok (.getfield 106, 3)) rfl rfl em_cl_X10 (by decide) ew701 rfl, ?_⟩
  refine List.forall_mem_cons.mpr ⟨s_iconst C (by decide +kernel : decode c_X10_scans 276 = .ok (.iconst 1, 1)) rfl rfl (by decide), ?_⟩
  refine List.forall_mem_cons.mpr ⟨s_iadd C (by decide +kernel : decode c_X10_scans 277 = .ok (.iadd, 1)) rfl rfl, ?_⟩
  refine List.forall_mem_cons.mpr ⟨s_putI C (by decide +kernel : decode c_X10_scans 278 = .ok (.putfield 106, 3)) rfl rfl em_cl_X10 (by decide) ew701 rfl (by decide) (by decide +kernel), ?_⟩
  refine List.forall_mem_cons.mpr ⟨s_vret C (by decide +kernel : decode c_X10_scans 281 = .ok (.return_, 1)) hret hlk ⟨Nat.le_refl 0, Nat.le_refl 0⟩, ?_⟩
  exact fun _ h => absurd h List.not_mem_nil
