/-! ===== evenings tried ===== -/
theorem i62 (k : Nat) : (62 : Int32) + nI k + 7 = nI (62 + k + 7) := by
  rw [show (62 : Int32) + nI k = nI (62 + k) from nI_add 62 k]; exact nI_add _ 7
def shB (B : Nat → Nat) (k : Nat) : Nat → Nat := fun j => if 62 ≤ j ∧ j < 62 + k then B (j + 7) else B j
theorem shB_0 (B : Nat → Nat) : shB B 0 = B := by
  funext j; exact if_neg (by omega)
theorem shB_s (B : Nat → Nat) (k : Nat) : un (shB B k) (62 + k) (shB B k (62 + k + 7)) = shB B (k + 1) := by
  funext j
  by_cases h : j = 62 + k
  · subst h; rw [un_s]; unfold shB; rw [if_neg (by omega), if_pos (by omega)]
  · rw [un_n h]; unfold shB
    by_cases h2 : 62 ≤ j ∧ j < 62 + k
    · rw [if_pos h2, if_pos (by omega)]
    · rw [if_neg h2, if_neg (by omega)]
def rmR (D : Nat → Nat) (a k : Nat) : Nat → Nat := fun j => if a + 1 ≤ j ∧ j < a + 1 + k then D (14 + (j - (a + 1))) else D j
theorem rmR_0 (D : Nat → Nat) (a : Nat) : rmR D a 0 = D := by
  funext j; exact if_neg (by omega)
theorem rmR_s (D : Nat → Nat) {a k : Nat} (ha : 62 ≤ a) (hk : k < 6) : un (rmR D a k) (a + 1 + k) (rmR D a k (14 + k)) = rmR D a (k + 1) := by
  funext j
  by_cases h : j = a + 1 + k
  · subst h; rw [un_s]; unfold rmR; rw [if_neg (by omega), if_pos (by omega)]; congr 1; omega
  · rw [un_n h]; unfold rmR
    by_cases h2 : a + 1 ≤ j ∧ j < a + 1 + k
    · rw [if_pos h2, if_pos (by omega)]
    · rw [if_neg h2, if_neg (by omega)]
def rmC (C : Nat → Nat) (n : Nat) : Nat → Nat := un (rmR (un C (62 + 7 * n) (C 2)) (62 + 7 * n) 6) 3 (n + 1)
def rmB (B : Nat → Nat) : Nat → Nat := if B 3 = 12 then rmC (un (shB B 77) 3 11) 11 else rmC B (B 3)
theorem rmC_lo {C : Nat → Nat} {n j : Nat} (h3 : j ≠ 3) (h : j < 62) : rmC C n j = C j := by
  unfold rmC
  rw [un_n h3]
  unfold rmR
  rw [if_neg (by omega), un_n (by omega)]
theorem rmB_lo {B : Nat → Nat} {j : Nat} (h3 : j ≠ 3) (h : j < 62) : rmB B j = B j := by
  unfold rmB
  split
  · rw [rmC_lo h3 h, un_n h3]; exact if_neg (by omega)
  · exact rmC_lo h3 h
theorem nw_rmB (B : Nat → Nat) : nw (rmB B) = nw B := by
  funext p
  unfold nw
  split
  · exact rmB_lo (by omega) (by omega)
  · rfl
theorem GK_lo {B C : Nat → Nat} (hB : GK B) (h : ∀ j, j ≠ 3 → j < 62 → C j = B j) : GK C := by
  obtain ⟨a, b, c, d, e, f, g, i⟩ := hB
  refine ⟨?_, ?_, ?_, ?_, ?_, ?_, ?_, ?_⟩
  · rw [h 0 (by omega) (by omega)]; exact a
  · rw [h 1 (by omega) (by omega)]; exact b
  · rw [h 2 (by omega) (by omega)]; exact c
  · rw [h 6 (by omega) (by omega)]; exact d
  · rw [h 7 (by omega) (by omega)]; exact e
  · intro p hp; rw [h (8 + p) (by omega) (by omega)]; exact f p hp
  · intro p hp; rw [h (14 + p) (by omega) (by omega)]; exact g p hp
  · intro k hk
    rw [h 1 (by omega) (by omega)] at hk
    rw [h (26 + 2 * k) (by omega) (by omega), h (27 + 2 * k) (by omega) (by omega)]; exact i k hk
theorem GK_rmB {B : Nat → Nat} (hB : GK B) : GK (rmB B) := GK_lo hB (fun j a b => rmB_lo a b)
def sp_X10_remembers : em_Sp := fun av hp Q => ∃ B im kp asd rf qt ab be tx ty at9 st9 tk vl wd it mn so sb my we be9 rw fr, av = [.ref 0] ∧ hp = (wM (nB B) im kp asd rf qt ab be tx ty at9 st9 tk vl wd it mn so sb my we be9 rw fr) ∧ B 3 ≤ 12 ∧ Q none (wM (nB (rmB B)) im kp asd rf qt ab be tx ty at9 st9 tk vl wd it mn so sb my we be9 rw fr)
def T_X10_remembers : List (Nat × em_Op) := [(0, o_aload 0 1), (1, o_getf 5 0 4), (4, o_iconst 3 5), (5, o_aldI 0 6), (6, o_iconst 12 8), (8, o_icmpne 56 11), (11, o_iconst 0 12), (12, o_istore 1 13), (13, o_iload 1 14), (14, o_iconst 77 16), (16, o_icmpge 46 19), (19, o_aload 0 20), (20, o_getf 5 0 23), (23, o_iconst 62 25), (25, o_iload 1 26), (26, o_iadd 27), (27, o_aload 0 28), (28, o_getf 5 0 31), (31, o_iconst 62 33), (33, o_iload 1 34), (34, o_iadd 35), (35, o_iconst 7 37), (37, o_iadd 38), (38, o_aldI 0 39), (39, o_iast 40), (40, o_iinc 1 1 43), (43, o_goto 13), (46, o_aload 0 47), (47, o_getf 5 0 50), (50, o_iconst 3 51), (51, o_dup2 52), (52, o_aldI 0 53), (53, o_iconst 1 54), (54, o_isub 55), (55, o_iast 56), (56, o_iconst 62 58), (58, o_iconst 7 60), (60, o_aload 0 61), (61, o_getf 5 0 64), (64, o_iconst 3 65), (65, o_aldI 0 66), (66, o_imul 67), (67, o_iadd 68), (68, o_istore 1 69), (69, o_aload 0 70), (70, o_getf 5 0 73), (73, o_iload 1 74), (74, o_aload 0 75), (75, o_getf 5 0 78), (78, o_iconst 2 79), (79, o_aldI 0 80), (80, o_iast 81), (81, o_iconst 0 82), (82, o_istore 2 83), (83, o_iload 2 84), (84, o_iconst 6 86), (86, o_icmpge 114 89), (89, o_aload 0 90), (90, o_getf 5 0 93), (93, o_iload 1 94), (94, o_iconst 1 95), (95, o_iadd 96), (96, o_iload 2 97), (97, o_iadd 98), (98, o_aload 0 99), (99, o_getf 5 0 102), (102, o_iconst 14 104), (104, o_iload 2 105), (105, o_iadd 106), (106, o_aldI 0 107), (107, o_iast 108), (108, o_iinc 2 1 111), (111, o_goto 83), (114, o_aload 0 115), (115, o_getf 5 0 118), (118, o_iconst 3 119), (119, o_dup2 120), (120, o_aldI 0 121), (121, o_iconst 1 122), (122, o_iadd 123), (123, o_iast 124), (124, o_vret)]
theorem me_X10_remembers : em_Me T_X10_remembers 3 sp_X10_remembers := by
  intro Q K hK hle av hp hs
  obtain ⟨B, im, kp, asd, rf, qt, ab, be, tx, ty, at9, st9, tk, vl, wd, it, mn, so, sb, my, we, be9, rw, fr, rfl, rfl, h3, hq⟩ := hs
  refine ⟨Nat.le_of_ble_eq_true rfl, ?_⟩
  have rest : ∀ (C : Nat → Nat) (n : Nat), C 3 = n → n ≤ 11 → Q none (wM (nB (rmC C n)) im kp asd rf qt ab be tx ty at9 st9 tk vl wd it mn so sb my we be9 rw fr) → K 56 [some (.ref 0), none, none] [] (wM (nB C) im kp asd rf qt ab be tx ty at9 st9 tk vl wd it mn so sb my we be9 rw fr) := by
    intro C n hC hn hq
    have loop : ∀ (r p : Nat), p + r = 6 → K 83 [some (.ref 0), some (.int (nI (62 + 7 * n))), some (.int (nI p))] [] (wM (nB (rmR (un C (62 + 7 * n) (C 2)) (62 + 7 * n) p)) im kp asd rf qt ab be tx ty at9 st9 tk vl wd it mn so sb my we be9 rw fr) := by
      intro r
      induction r with
      | zero =>
        intro p hp
        have hp : p = 6 := by omega
        subst hp
        have e : nB (rmR (un C (62 + 7 * n) (C 2)) (62 + 7 * n) 6) 3 + 1 = nI (n + 1) := by
          unfold nB rmR
          rw [if_neg (by omega), un_n (by omega), hC, nI_1]
        rw [rmC, nB_un, ← e] at hq
        refine hK 54 9999 83 _ _ _ ?_
        exact ⟨fun _ => ⟨3, rfl, by decide, 3, rfl, by decide, hq⟩, fun z => absurd (nI_le (a := 6) (b := 6) (by omega) (by omega)) z⟩
      | succ r ih =>
        intro p hp
        have := ih (p + 1) (by omega)
        rw [← rmR_s _ (by omega) (by omega), nB_un, ← nI_1 p] at this
        refine hK 54 9999 83 _ _ _ ?_
        refine ⟨fun z => absurd z (nI_ge (a := p) (b := 6) (by omega) (by omega)), fun _ => ?_⟩
        exact ⟨14 + p, nI_add 14 p, by omega, 62 + 7 * n + 1 + p, (by show nI (62 + 7 * n) + 1 + nI p = _; rw [nI_1, nI_add]), by omega, this⟩
    have l0 := loop 6 0 rfl
    rw [rmR_0, nB_un] at l0
    have ent : K 69 [some (.ref 0), some (.int (nI (62 + 7 * n))), none] [] (wM (nB C) im kp asd rf qt ab be tx ty at9 st9 tk vl wd it mn so sb my we be9 rw fr) := by
      refine hK 44 10 69 _ _ _ ?_
      exact ⟨2, rfl, by decide, 62 + 7 * n, rfl, by omega, l0⟩
    have e : (62 : Int32) + 7 * nB C 3 = nI (62 + 7 * n) := by
      unfold nB
      rw [hC, show (7 : Int32) = nI 7 from rfl, pk_mul]; exact nI_add 62 _
    rw [← e] at ent
    refine hK 35 9 56 _ _ _ ?_
    exact ⟨3, rfl, by decide, ent⟩
  refine hK 0 8 0 _ _ _ ?_
  refine ⟨3, rfl, by decide, fun z => ?_, fun z => ?_⟩
  · have h : ¬ B 3 = 12 := fun q => z (by show nI (B 3) = _; rw [q]; rfl)
    rw [rmB, if_neg h] at hq
    exact hle _ _ _ _ _ (by repeat (first | exact trivial | refine ⟨rfl, ?_⟩)) (rest B (B 3) rfl (by omega) hq)
  · have h : B 3 = 12 := (nI_eq (b := 12) (by omega) (by omega)).mp z
    rw [rmB, if_pos h] at hq
    have r0 := rest (un (shB B 77) 3 11) 11 un_s (by omega) hq
    have e : nB (shB B 77) 3 - 1 = nI 11 := by
      unfold nB shB
      rw [if_neg (by omega), h]; decide
    rw [nB_un, ← e] at r0
    have loop : ∀ (r k : Nat), k + r = 77 → K 13 [some (.ref 0), some (.int (nI k)), none] [] (wM (nB (shB B k)) im kp asd rf qt ab be tx ty at9 st9 tk vl wd it mn so sb my we be9 rw fr) := by
      intro r
      induction r with
      | zero =>
        intro k hk
        have hk : k = 77 := by omega
        subst hk
        refine hK 8 27 13 _ _ _ ?_
        exact ⟨fun _ => ⟨3, rfl, by decide, 3, rfl, by decide, hle _ _ _ _ _ (by repeat (first | exact trivial | refine ⟨rfl, ?_⟩)) r0⟩, fun z => absurd (nI_le (a := 77) (b := 77) (by omega) (by omega)) z⟩
      | succ r ih =>
        intro k hk
        have := ih (k + 1) (by omega)
        rw [← shB_s, nB_un, ← nI_1 k] at this
        refine hK 8 27 13 _ _ _ ?_
        refine ⟨fun z => absurd z (nI_ge (a := k) (b := 77) (by omega) (by omega)), fun _ => ?_⟩
        exact ⟨62 + k + 7, i62 k, by omega, 62 + k, nI_add 62 k, by omega, this⟩
    have l0 := loop 77 0 rfl
    rw [shB_0] at l0
    exact hle _ _ _ _ _ (by repeat (first | exact trivial | refine ⟨rfl, ?_⟩)) l0
abbrev rm_X10_remembers : Room := { frames := 0, cells := 0, slots := 0, locals := 0 }
set_option maxRecDepth 100000 in
set_option maxHeartbeats 4000000 in
theorem ct_X10_remembers (l : Launch) (D : va_G) (dA : Nat → ClassId) (σ : Nat → Nat) : em_CT l D em_cl dA σ (em_F σ) y_X10_remembers c_X10_remembers 3 (Option.none : Option ClassFile.FieldType) rm_X10_remembers (sp_X10_remembers ) := by
  refine em_CT_of (T := T_X10_remembers ) (em_F_ok σ) (by decide) (fun p e s m args below meth c A ρ Q C hFok hF hret hlk hin => ?_) (me_X10_remembers )
  unfold T_X10_remembers
  refine List.forall_mem_cons.mpr ⟨s_aload_n C (by decide +kernel : decode c_X10_remembers 0 = .ok (.aload_n 0, 1)) rfl rfl rfl, ?_⟩
  refine List.forall_mem_cons.mpr ⟨s_getf C (by decide +kernel : decode c_X10_remembers 1 = .ok (.getfield 7, 3)) rfl rfl em_cl_X10 (by decide) ew691 rfl, ?_⟩
  refine List.forall_mem_cons.mpr ⟨s_iconst C (by decide +kernel : decode c_X10_remembers 4 = .ok (.iconst 3, 1)) rfl rfl (by decide), ?_⟩
  refine List.forall_mem_cons.mpr ⟨s_iald C (by decide +kernel : decode c_X10_remembers 5 = .ok (.iaload, 1)) rfl rfl, ?_⟩
  refine List.forall_mem_cons.mpr ⟨s_bipush C (by decide +kernel : decode c_X10_remembers 6 = .ok (.bipush 12, 2)) rfl rfl (by decide), ?_⟩
  refine List.forall_mem_cons.mpr ⟨s_icmpne C (by decide +kernel : decode c_X10_remembers 8 = .ok (.if_icmp .ne 48, 3)) (by decide) rfl rfl rfl, ?_⟩
  refine List.forall_mem_cons.mpr ⟨s_iconst C (by decide +kernel : decode c_X10_remembers 11 = .ok (.iconst 0, 1)) rfl rfl (by decide), ?_⟩
  refine List.forall_mem_cons.mpr ⟨s_istore_n C (by decide +kernel : decode c_X10_remembers 12 = .ok (.istore_n 1, 1)) rfl rfl rfl (by decide), ?_⟩
  refine List.forall_mem_cons.mpr ⟨s_iload_n C (by decide +kernel : decode c_X10_remembers 13 = .ok (.iload_n 1, 1)) rfl rfl rfl, ?_⟩
  refine List.forall_mem_cons.mpr ⟨s_bipush C (by decide +kernel : decode c_X10_remembers 14 = .ok (.bipush 77, 2)) rfl rfl (by decide), ?_⟩
  refine List.forall_mem_cons.mpr ⟨s_icmpge C (by decide +kernel : decode c_X10_remembers 16 = .ok (.if_icmp .ge 30, 3)) (by decide) rfl rfl rfl, ?_⟩
  refine List.forall_mem_cons.mpr ⟨s_aload_n C (by decide +kernel : decode c_X10_remembers 19 = .ok (.aload_n 0, 1)) rfl rfl rfl, ?_⟩
  refine List.forall_mem_cons.mpr ⟨s_getf C (by decide +kernel : decode c_X10_remembers 20 = .ok (.getfield 7, 3)) rfl rfl em_cl_X10 (by decide) ew691 rfl, ?_⟩
  refine List.forall_mem_cons.mpr ⟨s_bipush C (by decide +kernel : decode c_X10_remembers 23 = .ok (.bipush 62, 2)) rfl rfl (by decide), ?_⟩
  refine List.forall_mem_cons.mpr ⟨s_iload_n C (by decide +kernel : decode c_X10_remembers 25 = .ok (.iload_n 1, 1)) rfl rfl rfl, ?_⟩
  refine List.forall_mem_cons.mpr ⟨s_iadd C (by decide +kernel : decode c_X10_remembers 26 = .ok (.iadd, 1)) rfl rfl, ?_⟩
  refine List.forall_mem_cons.mpr ⟨s_aload_n C (by decide +kernel : decode c_X10_remembers 27 = .ok (.aload_n 0, 1)) rfl rfl rfl, ?_⟩
  refine List.forall_mem_cons.mpr ⟨s_getf C (by decide +kernel : decode c_X10_remembers 28 = .ok (.getfield 7, 3)) rfl rfl em_cl_X10 (by decide) ew691 rfl, ?_⟩
  refine List.forall_mem_cons.mpr ⟨s_bipush C (by decide +kernel : decode c_X10_remembers 31 = .ok (.bipush 62, 2)) rfl rfl (by decide), ?_⟩
  refine List.forall_mem_cons.mpr ⟨s_iload_n C (by decide +kernel : decode c_X10_remembers 33 = .ok (.iload_n 1, 1)) rfl rfl rfl, ?_⟩
  refine List.forall_mem_cons.mpr ⟨s_iadd C (by decide +kernel : decode c_X10_remembers 34 = .ok (.iadd, 1)) rfl rfl, ?_⟩
  refine List.forall_mem_cons.mpr ⟨s_bipush C (by decide +kernel : decode c_X10_remembers 35 = .ok (.bipush 7, 2)) rfl rfl (by decide), ?_⟩
  refine List.forall_mem_cons.mpr ⟨s_iadd C (by decide +kernel : decode c_X10_remembers 37 = .ok (.iadd, 1)) rfl rfl, ?_⟩
  refine List.forall_mem_cons.mpr ⟨s_iald C (by decide +kernel : decode c_X10_remembers 38 = .ok (.iaload, 1)) rfl rfl, ?_⟩
  refine List.forall_mem_cons.mpr ⟨s_iast C (by decide +kernel : decode c_X10_remembers 39 = .ok (.iastore, 1)) rfl rfl, ?_⟩
  refine List.forall_mem_cons.mpr ⟨s_iinc C (by decide +kernel : decode c_X10_remembers 40 = .ok (.iinc 1 1, 3)) rfl rfl (by decide) (by decide), ?_⟩
  refine List.forall_mem_cons.mpr ⟨s_goto C (by decide +kernel : decode c_X10_remembers 43 = .ok (.goto (-30), 3)) (by decide) rfl, ?_⟩
  refine List.forall_mem_cons.mpr ⟨s_aload_n C (by decide +kernel : decode c_X10_remembers 46 = .ok (.aload_n 0, 1)) rfl rfl rfl, ?_⟩
  refine List.forall_mem_cons.mpr ⟨s_getf C (by decide +kernel : decode c_X10_remembers 47 = .ok (.getfield 7, 3)) rfl rfl em_cl_X10 (by decide) ew691 rfl, ?_⟩
  refine List.forall_mem_cons.mpr ⟨s_iconst C (by decide +kernel : decode c_X10_remembers 50 = .ok (.iconst 3, 1)) rfl rfl (by decide), ?_⟩
  refine List.forall_mem_cons.mpr ⟨s_dup2 C (by decide +kernel : decode c_X10_remembers 51 = .ok (.dup2, 1)) rfl rfl, ?_⟩
  refine List.forall_mem_cons.mpr ⟨s_iald C (by decide +kernel : decode c_X10_remembers 52 = .ok (.iaload, 1)) rfl rfl, ?_⟩
  refine List.forall_mem_cons.mpr ⟨s_iconst C (by decide +kernel : decode c_X10_remembers 53 = .ok (.iconst 1, 1)) rfl rfl (by decide), ?_⟩
  refine List.forall_mem_cons.mpr ⟨s_isub C (by decide +kernel : decode c_X10_remembers 54 = .ok (.isub, 1)) rfl rfl, ?_⟩
  refine List.forall_mem_cons.mpr ⟨s_iast C (by decide +kernel : decode c_X10_remembers 55 = .ok (.iastore, 1)) rfl rfl, ?_⟩
  refine List.forall_mem_cons.mpr ⟨s_bipush C (by decide +kernel : decode c_X10_remembers 56 = .ok (.bipush 62, 2)) rfl rfl (by decide), ?_⟩
  refine List.forall_mem_cons.mpr ⟨s_bipush C (by decide +kernel : decode c_X10_remembers 58 = .ok (.bipush 7, 2)) rfl rfl (by decide), ?_⟩
  refine List.forall_mem_cons.mpr ⟨s_aload_n C (by decide +kernel : decode c_X10_remembers 60 = .ok (.aload_n 0, 1)) rfl rfl rfl, ?_⟩
  refine List.forall_mem_cons.mpr ⟨s_getf C (by decide +kernel : decode c_X10_remembers 61 = .ok (.getfield 7, 3)) rfl rfl em_cl_X10 (by decide) ew691 rfl, ?_⟩
  refine List.forall_mem_cons.mpr ⟨s_iconst C (by decide +kernel : decode c_X10_remembers 64 = .ok (.iconst 3, 1)) rfl rfl (by decide), ?_⟩
  refine List.forall_mem_cons.mpr ⟨s_iald C (by decide +kernel : decode c_X10_remembers 65 = .ok (.iaload, 1)) rfl rfl, ?_⟩
  refine List.forall_mem_cons.mpr ⟨s_imul C (by decide +kernel : decode c_X10_remembers 66 = .ok (.imul, 1)) rfl rfl, ?_⟩
  refine List.forall_mem_cons.mpr ⟨s_iadd C (by decide +kernel : decode c_X10_remembers 67 = .ok (.iadd, 1)) rfl rfl, ?_⟩
  refine List.forall_mem_cons.mpr ⟨s_istore_n C (by decide +kernel : decode c_X10_remembers 68 = .ok (.istore_n 1, 1)) rfl rfl rfl (by decide), ?_⟩
  refine List.forall_mem_cons.mpr ⟨s_aload_n C (by decide +kernel : decode c_X10_remembers 69 = .ok (.aload_n 0, 1)) rfl rfl rfl, ?_⟩
  refine List.forall_mem_cons.mpr ⟨s_getf C (by decide +kernel : decode c_X10_remembers 70 = .ok (.getfield 7, 3)) rfl rfl em_cl_X10 (by decide) ew691 rfl, ?_⟩
  refine List.forall_mem_cons.mpr ⟨s_iload_n C (by decide +kernel : decode c_X10_remembers 73 = .ok (.iload_n 1, 1)) rfl rfl rfl, ?_⟩
  refine List.forall_mem_cons.mpr ⟨s_aload_n C (by decide +kernel : decode c_X10_remembers 74 = .ok (.aload_n 0, 1)) rfl rfl rfl, ?_⟩
  refine List.forall_mem_cons.mpr ⟨s_getf C (by decide +kernel : decode c_X10_remembers 75 = .ok (.getfield 7, 3)) rfl rfl em_cl_X10 (by decide) ew691 rfl, ?_⟩
  refine List.forall_mem_cons.mpr ⟨s_iconst C (by decide +kernel : decode c_X10_remembers 78 = .ok (.iconst 2, 1)) rfl rfl (by decide), ?_⟩
  refine List.forall_mem_cons.mpr ⟨s_iald C (by decide +kernel : decode c_X10_remembers 79 = .ok (.iaload, 1)) rfl rfl, ?_⟩
  refine List.forall_mem_cons.mpr ⟨s_iast C (by decide +kernel : decode c_X10_remembers 80 = .ok (.iastore, 1)) rfl rfl, ?_⟩
  refine List.forall_mem_cons.mpr ⟨s_iconst C (by decide +kernel : decode c_X10_remembers 81 = .ok (.iconst 0, 1)) rfl rfl (by decide), ?_⟩
  refine List.forall_mem_cons.mpr ⟨s_istore_n C (by decide +kernel : decode c_X10_remembers 82 = .ok (.istore_n 2, 1)) rfl rfl rfl (by decide), ?_⟩
  refine List.forall_mem_cons.mpr ⟨s_iload_n C (by decide +kernel : decode c_X10_remembers 83 = .ok (.iload_n 2, 1)) rfl rfl rfl, ?_⟩
  refine List.forall_mem_cons.mpr ⟨s_bipush C (by decide +kernel : decode c_X10_remembers 84 = .ok (.bipush 6, 2)) rfl rfl (by decide), ?_⟩
  refine List.forall_mem_cons.mpr ⟨s_icmpge C (by decide +kernel : decode c_X10_remembers 86 = .ok (.if_icmp .ge 28, 3)) (by decide) rfl rfl rfl, ?_⟩
  refine List.forall_mem_cons.mpr ⟨s_aload_n C (by decide +kernel : decode c_X10_remembers 89 = .ok (.aload_n 0, 1)) rfl rfl rfl, ?_⟩
  refine List.forall_mem_cons.mpr ⟨s_getf C (by decide +kernel : decode c_X10_remembers 90 = .ok (.getfield 7, 3)) rfl rfl em_cl_X10 (by decide) ew691 rfl, ?_⟩
  refine List.forall_mem_cons.mpr ⟨s_iload_n C (by decide +kernel : decode c_X10_remembers 93 = .ok (.iload_n 1, 1)) rfl rfl rfl, ?_⟩
  refine List.forall_mem_cons.mpr ⟨s_iconst C (by decide +kernel : decode c_X10_remembers 94 = .ok (.iconst 1, 1)) rfl rfl (by decide), ?_⟩
  refine List.forall_mem_cons.mpr ⟨s_iadd C (by decide +kernel : decode c_X10_remembers 95 = .ok (.iadd, 1)) rfl rfl, ?_⟩
  refine List.forall_mem_cons.mpr ⟨s_iload_n C (by decide +kernel : decode c_X10_remembers 96 = .ok (.iload_n 2, 1)) rfl rfl rfl, ?_⟩
  refine List.forall_mem_cons.mpr ⟨s_iadd C (by decide +kernel : decode c_X10_remembers 97 = .ok (.iadd, 1)) rfl rfl, ?_⟩
  refine List.forall_mem_cons.mpr ⟨s_aload_n C (by decide +kernel : decode c_X10_remembers 98 = .ok (.aload_n 0, 1)) rfl rfl rfl, ?_⟩
  refine List.forall_mem_cons.mpr ⟨s_getf C (by decide +kernel : decode c_X10_remembers 99 = .ok (.getfield 7, 3)) rfl rfl em_cl_X10 (by decide) ew691 rfl, ?_⟩
  refine List.forall_mem_cons.mpr ⟨s_bipush C (by decide +kernel : decode c_X10_remembers 102 = .ok (.bipush 14, 2)) rfl rfl (by decide), ?_⟩
  refine List.forall_mem_cons.mpr ⟨s_iload_n C (by decide +kernel : decode c_X10_remembers 104 = .ok (.iload_n 2, 1)) rfl rfl rfl, ?_⟩
  refine List.forall_mem_cons.mpr ⟨s_iadd C (by decide +kernel : decode c_X10_remembers 105 = .ok (.iadd, 1)) rfl rfl, ?_⟩
  refine List.forall_mem_cons.mpr ⟨s_iald C (by decide +kernel : decode c_X10_remembers 106 = .ok (.iaload, 1)) rfl rfl, ?_⟩
  refine List.forall_mem_cons.mpr ⟨s_iast C (by decide +kernel : decode c_X10_remembers 107 = .ok (.iastore, 1)) rfl rfl, ?_⟩
  refine List.forall_mem_cons.mpr ⟨s_iinc C (by decide +kernel : decode c_X10_remembers 108 = .ok (.iinc 2 1, 3)) rfl rfl (by decide) (by decide), ?_⟩
  refine List.forall_mem_cons.mpr ⟨s_goto C (by decide +kernel : decode c_X10_remembers 111 = .ok (.goto (-28), 3)) (by decide) rfl, ?_⟩
  refine List.forall_mem_cons.mpr ⟨s_aload_n C (by decide +kernel : decode c_X10_remembers 114 = .ok (.aload_n 0, 1)) rfl rfl rfl, ?_⟩
  refine List.forall_mem_cons.mpr ⟨s_getf C (by decide +kernel : decode c_X10_remembers 115 = .ok (.getfield 7, 3)) rfl rfl em_cl_X10 (by decide) ew691 rfl, ?_⟩
  refine List.forall_mem_cons.mpr ⟨s_iconst C (by decide +kernel : decode c_X10_remembers 118 = .ok (.iconst 3, 1)) rfl rfl (by decide), ?_⟩
  refine List.forall_mem_cons.mpr ⟨s_dup2 C (by decide +kernel : decode c_X10_remembers 119 = .ok (.dup2, 1)) rfl rfl, ?_⟩
  refine List.forall_mem_cons.mpr ⟨s_iald C (by decide +kernel : decode c_X10_remembers 120 = .ok (.iaload, 1)) rfl rfl, ?_⟩
  refine List.forall_mem_cons.mpr ⟨s_iconst C (by decide +kernel : decode c_X10_remembers 121 = .ok (.iconst 1, 1)) rfl rfl (by decide), ?_⟩
  refine List.forall_mem_cons.mpr ⟨s_iadd C (by decide +kernel : decode c_X10_remembers 122 = .ok (.iadd, 1)) rfl rfl, ?_⟩
  refine List.forall_mem_cons.mpr ⟨s_iast C (by decide +kernel : decode c_X10_remembers 123 = .ok (.iastore, 1)) rfl rfl, ?_⟩
  refine List.forall_mem_cons.mpr ⟨s_vret C (by decide +kernel : decode c_X10_remembers 124 = .ok (.return_, 1)) hret hlk ⟨Nat.le_refl 0, Nat.le_refl 0⟩, ?_⟩
  exact fun _ h => absurd h List.not_mem_nil
/-- all think as was tried -/
def kpB (B S : Nat → Nat) (k : Nat) : Nat → Nat := fun j => if 14 ≤ j ∧ j < 14 + k then S (j - 14) else B j
theorem kpB_0 (B S : Nat → Nat) : kpB B S 0 = B := by
  funext j; exact if_neg (by omega)
theorem kpB_s (B S : Nat → Nat) (k : Nat) : un (kpB B S k) (14 + k) (S k) = kpB B S (k + 1) := by
  funext j
  by_cases h : j = 14 + k
  · subst h; rw [un_s]; unfold kpB; rw [if_pos (by omega)]; congr 1; omega
  · rw [un_n h]; unfold kpB
    by_cases h2 : 14 ≤ j ∧ j < 14 + k
    · rw [if_pos h2, if_pos (by omega)]
    · rw [if_neg h2, if_neg (by omega)]
def kaN (B S : Nat → Nat) : Nat → Nat
  | 0 => 0
  | k + 1 => kaN B S k + (if B (14 + k) = S k then 0 else 1)
def sp_X10_keepsAll : em_Sp := fun av hp Q => ∃ B im kp asd rf qt ab be tx ty at9 st9 tk vl wd it mn S sb my we be9 rw fr, av = [.ref 0] ∧ hp = (wM (nB B) im kp asd rf qt ab be tx ty at9 st9 tk vl wd it mn (nB S) sb my we be9 rw fr) ∧ B 0 ≤ 6 ∧ (∀ p, p < 6 → B (14 + p) < 1024) ∧ SOK S ∧ Q (some (.int (nI (kaN B S (B 0))))) (wM (nB (kpB B S (B 0))) im kp asd rf qt ab be tx ty at9 st9 tk vl wd it mn (nB S) sb my we be9 rw fr)
def T_X10_keepsAll : List (Nat × em_Op) := [(0, o_iconst 0 1), (1, o_istore 1 2), (2, o_iconst 0 3), (3, o_istore 2 4), (4, o_iload 2 5), (5, o_aload 0 6), (6, o_getf 5 0 9), (9, o_iconst 0 10), (10, o_aldI 0 11), (11, o_icmpge 61 14), (14, o_iload 1 15), (15, o_aload 0 16), (16, o_getf 5 0 19), (19, o_iconst 14 21), (21, o_iload 2 22), (22, o_iadd 23), (23, o_aldI 0 24), (24, o_aload 0 25), (25, o_getf 5 17 28), (28, o_iload 2 29), (29, o_aldI 0 30), (30, o_icmpne 37 33), (33, o_iconst 0 34), (34, o_goto 38), (37, o_iconst 1 38), (38, o_iadd 39), (39, o_istore 1 40), (40, o_aload 0 41), (41, o_getf 5 0 44), (44, o_iconst 14 46), (46, o_iload 2 47), (47, o_iadd 48), (48, o_aload 0 49), (49, o_getf 5 17 52), (52, o_iload 2 53), (53, o_aldI 0 54), (54, o_iast 55), (55, o_iinc 2 1 58), (58, o_goto 4), (61, o_iload 1 62), (62, o_iret)]
theorem me_X10_keepsAll : em_Me T_X10_keepsAll 3 sp_X10_keepsAll := by
  intro Q K hK hle av hp hs
  obtain ⟨B, im, kp, asd, rf, qt, ab, be, tx, ty, at9, st9, tk, vl, wd, it, mn, S, sb, my, we, be9, rw, fr, rfl, rfl, h0, hT, hS, hq⟩ := hs
  refine ⟨Nat.le_of_ble_eq_true rfl, ?_⟩
  have loop : ∀ (r k : Nat), k + r = B 0 → K 4 [some (.ref 0), some (.int (nI (kaN B S k))), some (.int (nI k))] [] (wM (nB (kpB B S k)) im kp asd rf qt ab be tx ty at9 st9 tk vl wd it mn (nB S) sb my we be9 rw fr) := by
    intro r
    induction r with
    | zero =>
      intro k hk
      have hk : k = B 0 := by omega
      subst hk
      refine hK 4 9999 4 _ _ _ ?_
      exact ⟨0, rfl, by decide, fun _ => hq, fun z => absurd (nI_le (Nat.le_refl (B 0)) (by omega)) z⟩
    | succ r ih =>
      intro k hk
      have hkS := hS k (by omega)
      have hkB := hT k (by omega)
      have next : ∀ v, v = nI (kaN B S (k + 1)) → K 39 [some (.ref 0), some (.int (nI (kaN B S k))), some (.int (nI k))] [.int v] (wM (nB (kpB B S k)) im kp asd rf qt ab be tx ty at9 st9 tk vl wd it mn (nB S) sb my we be9 rw fr) := by
        intro v hv
        subst hv
        have := ih (k + 1) (by omega)
        rw [← kpB_s, nB_un, ← nI_1 k] at this
        refine hK 26 9999 39 _ _ _ ?_
        exact ⟨k, rfl, by omega, 14 + k, nI_add 14 k, by omega, this⟩
      have e14 : nB (kpB B S k) (14 + k) = nI (B (14 + k)) := by
        unfold nB kpB; rw [if_neg (by omega)]
      refine hK 4 22 4 _ _ _ ?_
      refine ⟨0, rfl, by decide, fun z => absurd z (by show ¬ nI (B 0) ≤ nI k; exact nI_ge (by omega) (by omega)), fun _ => ?_⟩
      refine ⟨14 + k, nI_add 14 k, by omega, k, rfl, by omega, fun z => ?_, fun z => ?_⟩
      · rw [e14] at z
        exact next _ (by rw [kaN, if_neg (fun q => z (by rw [q]; rfl))]; exact nI_1 _)
      · rw [e14] at z
        exact next _ (by rw [kaN, if_pos ((nI_eq (by omega) (by omega)).mp z)]; exact Int32.add_zero _)
  have l0 := loop (B 0) 0 (by omega)
  rw [kpB_0] at l0
  exact hK 0 4 0 _ _ _ l0
abbrev rm_X10_keepsAll : Room := { frames := 0, cells := 0, slots := 0, locals := 0 }
set_option maxRecDepth 100000 in
set_option maxHeartbeats 4000000 in
theorem ct_X10_keepsAll (l : Launch) (D : va_G) (dA : Nat → ClassId) (σ : Nat → Nat) : em_CT l D em_cl dA σ (em_F σ) y_X10_keepsAll c_X10_keepsAll 3 (Option.some ClassFile.FieldType.int) rm_X10_keepsAll (sp_X10_keepsAll ) := by
  refine em_CT_of (T := T_X10_keepsAll ) (em_F_ok σ) (by decide) (fun p e s m args below meth c A ρ Q C hFok hF hret hlk hin => ?_) (me_X10_keepsAll )
  unfold T_X10_keepsAll
  refine List.forall_mem_cons.mpr ⟨s_iconst C (by decide +kernel : decode c_X10_keepsAll 0 = .ok (.iconst 0, 1)) rfl rfl (by decide), ?_⟩
  refine List.forall_mem_cons.mpr ⟨s_istore_n C (by decide +kernel : decode c_X10_keepsAll 1 = .ok (.istore_n 1, 1)) rfl rfl rfl (by decide), ?_⟩
  refine List.forall_mem_cons.mpr ⟨s_iconst C (by decide +kernel : decode c_X10_keepsAll 2 = .ok (.iconst 0, 1)) rfl rfl (by decide), ?_⟩
  refine List.forall_mem_cons.mpr ⟨s_istore_n C (by decide +kernel : decode c_X10_keepsAll 3 = .ok (.istore_n 2, 1)) rfl rfl rfl (by decide), ?_⟩
  refine List.forall_mem_cons.mpr ⟨s_iload_n C (by decide +kernel : decode c_X10_keepsAll 4 = .ok (.iload_n 2, 1)) rfl rfl rfl, ?_⟩
  refine List.forall_mem_cons.mpr ⟨s_aload_n C (by decide +kernel : decode c_X10_keepsAll 5 = .ok (.aload_n 0, 1)) rfl rfl rfl, ?_⟩
  refine List.forall_mem_cons.mpr ⟨s_getf C (by decide +kernel : decode c_X10_keepsAll 6 = .ok (.getfield 7, 3)) rfl rfl em_cl_X10 (by decide) ew691 rfl, ?_⟩
  refine List.forall_mem_cons.mpr ⟨s_iconst C (by decide +kernel : decode c_X10_keepsAll 9 = .ok (.iconst 0, 1)) rfl rfl (by decide), ?_⟩
  refine List.forall_mem_cons.mpr ⟨s_iald C (by decide +kernel : decode c_X10_keepsAll 10 = .ok (.iaload, 1)) rfl rfl, ?_⟩
  refine List.forall_mem_cons.mpr ⟨s_icmpge C (by decide +kernel : decode c_X10_keepsAll 11 = .ok (.if_icmp .ge 50, 3)) (by decide) rfl rfl rfl, ?_⟩
  refine List.forall_mem_cons.mpr ⟨s_iload_n C (by decide +kernel : decode c_X10_keepsAll 14 = .ok (.iload_n 1, 1)) rfl rfl rfl, ?_⟩
  refine List.forall_mem_cons.mpr ⟨s_aload_n C (by decide +kernel : decode c_X10_keepsAll 15 = .ok (.aload_n 0, 1)) rfl rfl rfl, ?_⟩
  refine List.forall_mem_cons.mpr ⟨s_getf C (by decide +kernel : decode c_X10_keepsAll 16 = .ok (.getfield 7, 3)) rfl rfl em_cl_X10 (by decide) ew691 rfl, ?_⟩
  refine List.forall_mem_cons.mpr ⟨s_bipush C (by decide +kernel : decode c_X10_keepsAll 19 = .ok (.bipush 14, 2)) rfl rfl (by decide), ?_⟩
  refine List.forall_mem_cons.mpr ⟨s_iload_n C (by decide +kernel : decode c_X10_keepsAll 21 = .ok (.iload_n 2, 1)) rfl rfl rfl, ?_⟩
  refine List.forall_mem_cons.mpr ⟨s_iadd C (by decide +kernel : decode c_X10_keepsAll 22 = .ok (.iadd, 1)) rfl rfl, ?_⟩
  refine List.forall_mem_cons.mpr ⟨s_iald C (by decide +kernel : decode c_X10_keepsAll 23 = .ok (.iaload, 1)) rfl rfl, ?_⟩
  refine List.forall_mem_cons.mpr ⟨s_aload_n C (by decide +kernel : decode c_X10_keepsAll 24 = .ok (.aload_n 0, 1)) rfl rfl rfl, ?_⟩
  refine List.forall_mem_cons.mpr ⟨s_getf C (by decide +kernel : decode c_X10_keepsAll 25 = .ok (.getfield 32, 3)) rfl rfl em_cl_X10 (by decide) ew708 rfl, ?_⟩
  refine List.forall_mem_cons.mpr ⟨s_iload_n C (by decide +kernel : decode c_X10_keepsAll 28 = .ok (.iload_n 2, 1)) rfl rfl rfl, ?_⟩
  refine List.forall_mem_cons.mpr ⟨s_iald C (by decide +kernel : decode c_X10_keepsAll 29 = .ok (.iaload, 1)) rfl rfl, ?_⟩
  refine List.forall_mem_cons.mpr ⟨s_icmpne C (by decide +kernel : decode c_X10_keepsAll 30 = .ok (.if_icmp .ne 7, 3)) (by decide) rfl rfl rfl, ?_⟩
  refine List.forall_mem_cons.mpr ⟨s_iconst C (by decide +kernel : decode c_X10_keepsAll 33 = .ok (.iconst 0, 1)) rfl rfl (by decide), ?_⟩
  refine List.forall_mem_cons.mpr ⟨s_goto C (by decide +kernel : decode c_X10_keepsAll 34 = .ok (.goto 4, 3)) (by decide) rfl, ?_⟩
  refine List.forall_mem_cons.mpr ⟨s_iconst C (by decide +kernel : decode c_X10_keepsAll 37 = .ok (.iconst 1, 1)) rfl rfl (by decide), ?_⟩
  refine List.forall_mem_cons.mpr ⟨s_iadd C (by decide +kernel : decode c_X10_keepsAll 38 = .ok (.iadd, 1)) rfl rfl, ?_⟩
  refine List.forall_mem_cons.mpr ⟨s_istore_n C (by decide +kernel : decode c_X10_keepsAll 39 = .ok (.istore_n 1, 1)) rfl rfl rfl (by decide), ?_⟩
  refine List.forall_mem_cons.mpr ⟨s_aload_n C (by decide +kernel : decode c_X10_keepsAll 40 = .ok (.aload_n 0, 1)) rfl rfl rfl, ?_⟩
  refine List.forall_mem_cons.mpr ⟨s_getf C (by decide +kernel : decode c_X10_keepsAll 41 = .ok (.getfield 7, 3)) rfl rfl em_cl_X10 (by decide) ew691 rfl, ?_⟩
  refine List.forall_mem_cons.mpr ⟨s_bipush C (by decide +kernel : decode c_X10_keepsAll 44 = .ok (.bipush 14, 2)) rfl rfl (by decide), ?_⟩
  refine List.forall_mem_cons.mpr ⟨s_iload_n C (by decide +kernel : decode c_X10_keepsAll 46 = .ok (.iload_n 2, 1)) rfl rfl rfl, ?_⟩
  refine List.forall_mem_cons.mpr ⟨s_iadd C (by decide +kernel : decode c_X10_keepsAll 47 = .ok (.iadd, 1)) rfl rfl, ?_⟩
  refine List.forall_mem_cons.mpr ⟨s_aload_n C (by decide +kernel : decode c_X10_keepsAll 48 = .ok (.aload_n 0, 1)) rfl rfl rfl, ?_⟩
  refine List.forall_mem_cons.mpr ⟨s_getf C (by decide +kernel : decode c_X10_keepsAll 49 = .ok (.getfield 32, 3)) rfl rfl em_cl_X10 (by decide) ew708 rfl, ?_⟩
  refine List.forall_mem_cons.mpr ⟨s_iload_n C (by decide +kernel : decode c_X10_keepsAll 52 = .ok (.iload_n 2, 1)) rfl rfl rfl, ?_⟩
  refine List.forall_mem_cons.mpr ⟨s_iald C (by decide +kernel : decode c_X10_keepsAll 53 = .ok (.iaload, 1)) rfl rfl, ?_⟩
  refine List.forall_mem_cons.mpr ⟨s_iast C (by decide +kernel : decode c_X10_keepsAll 54 = .ok (.iastore, 1)) rfl rfl, ?_⟩
  refine List.forall_mem_cons.mpr ⟨s_iinc C (by decide +kernel : decode c_X10_keepsAll 55 = .ok (.iinc 2 1, 3)) rfl rfl (by decide) (by decide), ?_⟩
  refine List.forall_mem_cons.mpr ⟨s_goto C (by decide +kernel : decode c_X10_keepsAll 58 = .ok (.goto (-54), 3)) (by decide) rfl, ?_⟩
  refine List.forall_mem_cons.mpr ⟨s_iload_n C (by decide +kernel : decode c_X10_keepsAll 61 = .ok (.iload_n 1, 1)) rfl rfl rfl, ?_⟩
  refine List.forall_mem_cons.mpr ⟨s_iret C (by decide +kernel : decode c_X10_keepsAll 62 = .ok (.ireturn, 1)) hret hlk ⟨Nat.le_refl 0, Nat.le_refl 0⟩, ?_⟩
  exact fun _ h => absurd h List.not_mem_nil
/-- evening and meet, as the book goes -/
def evB (B : Nat → Nat) : Nat → Nat := un (rmB B) 2 (B 2 + 1)
theorem evB_14 {B : Nat → Nat} {p : Nat} (hp : p < 6) : evB B (14 + p) = B (14 + p) := by
  unfold evB; rw [un_n (by omega), rmB_lo (by omega) (by omega)]
theorem evB_0 {B : Nat → Nat} : evB B 0 = B 0 := by
  unfold evB; rw [un_n (by omega), rmB_lo (by omega) (by omega)]
theorem rmB_14 {B : Nat → Nat} {p : Nat} (hp : p < 6) : rmB B (14 + p) = B (14 + p) := rmB_lo (by omega) (by omega)
def sp_X10_evening : em_Sp := fun av hp Q => ∃ B im kp asd rf qt ab be tx ty at9 st9 tk vl wd it mn S sb my we be9 rw fr, av = [.ref 0] ∧ hp = (wM (nB B) im kp asd rf qt ab be tx ty at9 st9 tk vl wd it mn (nB S) sb my we be9 rw fr) ∧ GK B ∧ B 3 ≤ 12 ∧ Z6 S ∧ Q (some (.int (nI (kaN (evB B) (goN (rmB B) (nw B) (B 2)) (B 0))))) (wM (nB (kpB (evB B) (goN (rmB B) (nw B) (B 2)) (B 0))) im kp asd rf qt ab be tx ty at9 st9 tk vl wd it mn (nB (goN (rmB B) (nw B) (B 2))) sb my we be9 rw fr)
def T_X10_evening : List (Nat × em_Op) := [(0, o_aload 0 1), (1, o_call 1 (some 5) (sp_X10_remembers) 4), (4, o_aload 0 5), (5, o_call 1 (some 5) (sp_X10_asNow) 8), (8, o_aload 0 9), (9, o_aload 0 10), (10, o_getf 5 0 13), (13, o_iconst 2 14), (14, o_aldI 0 15), (15, o_call 2 (some 5) (sp_X10_goes) 18), (18, o_aload 0 19), (19, o_getf 5 0 22), (22, o_iconst 2 23), (23, o_dup2 24), (24, o_aldI 0 25), (25, o_iconst 1 26), (26, o_iadd 27), (27, o_iast 28), (28, o_aload 0 29), (29, o_call 1 (some 5) (sp_X10_keepsAll) 32), (32, o_iret)]
theorem me_X10_evening : em_Me T_X10_evening 1 sp_X10_evening := by
  intro Q K hK hle av hp hs
  obtain ⟨B, im, kp, asd, rf, qt, ab, be, tx, ty, at9, st9, tk, vl, wd, it, mn, S, sb, my, we, be9, rw, fr, rfl, rfl, hB, h3, hz, hq⟩ := hs
  have hG := GK_rmB hB
  have e2 : rmB B 2 = B 2 := rmB_lo (by omega) (by omega)
  have hS : SOK (nw B) := nw_ok hB
  have hb2 := hB.2.2.1
  refine ⟨Nat.le_of_ble_eq_true rfl, hK 0 9999 0 _ _ _ ?_⟩
  refine ⟨_, _, _, _, _, _, _, _, _, _, _, _, _, _, _, _, _, _, _, _, _, _, _, _, rfl, rfl, h3, _, _, _, _, _, _, _, _, _, _, _, _, _, _, _, _, _, _, _, _, _, _, _, _, rfl, rfl, fun so' h1 h2 => ?_⟩
  have e := nw_eq hz h1 h2
  subst e
  rw [nw_rmB]
  refine ⟨2, rfl, by decide, _, _, _, _, _, _, _, _, _, _, _, _, _, _, _, _, _, _, _, _, _, _, _, _, B 2, (by show [Value.ref 0, Value.int (nI (rmB B 2))] = _; rw [e2]), rfl, hG, hS, by omega, ?_⟩
  have e9 : nB (rmB B) 2 + 1 = nI (B 2 + 1) := by unfold nB; rw [e2, nI_1]
  refine ⟨2, rfl, by decide, 2, rfl, by decide, ?_⟩
  rw [e9, ← nB_un]
  refine ⟨_, _, _, _, _, _, _, _, _, _, _, _, _, _, _, _, _, _, _, _, _, _, _, _, rfl, rfl, ?_⟩
  show evB B 0 ≤ 6 ∧ _
  rw [show un (rmB B) 2 (B 2 + 1) = evB B from rfl, evB_0]
  exact ⟨hB.1, fun p hp => by rw [evB_14 hp]; exact hB.2.2.2.2.2.2.1 p hp, goN_ok hG hS _, hq⟩
abbrev rm_X10_evening : Room := { frames := 3, cells := 0, slots := 0, locals := 83 }
set_option maxRecDepth 100000 in
set_option maxHeartbeats 4000000 in
theorem ct_X10_evening (l : Launch) (D : va_G) (dA : Nat → ClassId) (σ : Nat → Nat) : em_CT l D em_cl dA σ (em_F σ) y_X10_evening c_X10_evening 1 (Option.some ClassFile.FieldType.int) rm_X10_evening (sp_X10_evening ) := by
  refine em_CT_of (T := T_X10_evening ) (em_F_ok σ) (by decide) (fun p e s m args below meth c A ρ Q C hFok hF hret hlk hin => ?_) (me_X10_evening )
  unfold T_X10_evening
  refine List.forall_mem_cons.mpr ⟨s_aload_n C (by decide +kernel : decode c_X10_evening 0 = .ok (.aload_n 0, 1)) rfl rfl rfl, ?_⟩
  refine List.forall_mem_cons.mpr ⟨s_callV C hFok hF (ct_X10_remembers l D dA σ) ⟨rfl, rfl⟩ ew919 em_cl_X10 ew916 ew918 ewp28 ew6 ⟨by decide, by decide, by decide +kernel⟩ ⟨by decide, by decide⟩ (by decide +kernel : decode c_X10_evening 1 = .ok (.invokevirtual 196, 3)) rfl rfl ⟨Nat.zero_le _, Nat.zero_le _⟩, ?_⟩
  refine List.forall_mem_cons.mpr ⟨s_aload_n C (by decide +kernel : decode c_X10_evening 4 = .ok (.aload_n 0, 1)) rfl rfl rfl, ?_⟩
  refine List.forall_mem_cons.mpr ⟨s_callV C hFok hF (ct_X10_asNow l D dA σ) ⟨rfl, rfl⟩ ew903 em_cl_X10 ew900 ew902 ewp26 ew6 ⟨by decide, by decide, by decide +kernel⟩ ⟨by decide, by decide⟩ (by decide +kernel : decode c_X10_evening 5 = .ok (.invokevirtual 182, 3)) rfl rfl ⟨Nat.zero_le _, Nat.zero_le _⟩, ?_⟩
  refine List.forall_mem_cons.mpr ⟨s_aload_n C (by decide +kernel : decode c_X10_evening 8 = .ok (.aload_n 0, 1)) rfl rfl rfl, ?_⟩
  refine List.forall_mem_cons.mpr ⟨s_aload_n C (by decide +kernel : decode c_X10_evening 9 = .ok (.aload_n 0, 1)) rfl rfl rfl, ?_⟩
  refine List.forall_mem_cons.mpr ⟨s_getf C (by decide +kernel : decode c_X10_evening 10 = .ok (.getfield 7, 3)) rfl rfl em_cl_X10 (by decide) ew691 rfl, ?_⟩
  refine List.forall_mem_cons.mpr ⟨s_iconst C (by decide +kernel : decode c_X10_evening 13 = .ok (.iconst 2, 1)) rfl rfl (by decide), ?_⟩
  refine List.forall_mem_cons.mpr ⟨s_iald C (by decide +kernel : decode c_X10_evening 14 = .ok (.iaload, 1)) rfl rfl, ?_⟩
  refine List.forall_mem_cons.mpr ⟨s_callV C hFok hF (ct_X10_goes l D dA σ) ⟨rfl, rfl⟩ ew923 em_cl_X10 ew920 ew922 ewp29 ew6 ⟨by decide, by decide, by decide +kernel⟩ ⟨by decide, by decide⟩ (by decide +kernel : decode c_X10_evening 15 = .ok (.invokevirtual 199, 3)) rfl rfl ⟨Nat.zero_le _, Nat.zero_le _⟩, ?_⟩
  refine List.forall_mem_cons.mpr ⟨s_aload_n C (by decide +kernel : decode c_X10_evening 18 = .ok (.aload_n 0, 1)) rfl rfl rfl, ?_⟩
  refine List.forall_mem_cons.mpr ⟨s_getf C (by decide +kernel : decode c_X10_evening 19 = .ok (.getfield 7, 3)) rfl rfl em_cl_X10 (by decide) ew691 rfl, ?_⟩
  refine List.forall_mem_cons.mpr ⟨s_iconst C (by decide +kernel : decode c_X10_evening 22 = .ok (.iconst 2, 1)) rfl rfl (by decide), ?_⟩
  refine List.forall_mem_cons.mpr ⟨s_dup2 C (by decide +kernel : decode c_X10_evening 23 = .ok (.dup2, 1)) rfl rfl, ?_⟩
  refine List.forall_mem_cons.mpr ⟨s_iald C (by decide +kernel : decode c_X10_evening 24 = .ok (.iaload, 1)) rfl rfl, ?_⟩
  refine List.forall_mem_cons.mpr ⟨s_iconst C (by decide +kernel : decode c_X10_evening 25 = .ok (.iconst 1, 1)) rfl rfl (by decide), ?_⟩
  refine List.forall_mem_cons.mpr ⟨s_iadd C (by decide +kernel : decode c_X10_evening 26 = .ok (.iadd, 1)) rfl rfl, ?_⟩
  refine List.forall_mem_cons.mpr ⟨s_iast C (by decide +kernel : decode c_X10_evening 27 = .ok (.iastore, 1)) rfl rfl, ?_⟩
  refine List.forall_mem_cons.mpr ⟨s_aload_n C (by decide +kernel : decode c_X10_evening 28 = .ok (.aload_n 0, 1)) rfl rfl rfl, ?_⟩
  refine List.forall_mem_cons.mpr ⟨s_callV C hFok hF (ct_X10_keepsAll l D dA σ) ⟨rfl, rfl⟩ ew935 em_cl_X10 ew932 ew934 ewp32 ew6 ⟨by decide, by decide, by decide +kernel⟩ ⟨by decide, by decide⟩ (by decide +kernel : decode c_X10_evening 29 = .ok (.invokevirtual 203, 3)) rfl rfl ⟨Nat.zero_le _, Nat.zero_le _⟩, ?_⟩
  refine List.forall_mem_cons.mpr ⟨s_iret C (by decide +kernel : decode c_X10_evening 32 = .ok (.ireturn, 1)) hret hlk ⟨Nat.le_refl 0, Nat.le_refl 0⟩, ?_⟩
  exact fun _ h => absurd h List.not_mem_nil
def sp_X10_meet : em_Sp := fun av hp Q => ∃ B im kp asd rf qt ab be tx ty at9 st9 tk vl wd it mn S sb my we be9 rw fr a b, av = [.ref 0, .int a, .int b] ∧ hp = (wM (nB B) im kp asd rf qt ab be tx ty at9 st9 tk vl wd it mn (nB S) sb my we be9 rw fr) ∧ GK B ∧ B 3 ≤ 12 ∧ Z6 S ∧ (¬ h2 (nI (B 0)) a b → Q (some (.int (-2))) (wM (nB B) im kp asd (rfM qt rf 0) qt ab be tx ty at9 st9 tk vl wd it mn (nB S) sb my we be9 rw fr)) ∧ (∀ i j, a = nI i → b = nI j → i < B 0 → j < B 0 → i ≠ j → Q (some (.int (nI (kaN (rmB B) (tlN (rmB B) (nw B) i j) (B 0))))) (wM (nB (kpB (rmB B) (tlN (rmB B) (nw B) i j) (B 0))) im kp asd rf qt ab be tx ty at9 st9 tk vl wd it mn (nB (tlN (rmB B) (nw B) i j)) sb my we be9 rw fr))
def T_X10_meet : List (Nat × em_Op) := [(0, o_aload 0 1), (1, o_iload 1 2), (2, o_iload 2 3), (3, o_call 3 (some 5) (sp_X10_areTwo) 6), (6, o_ifne 14 9), (9, o_aload 0 10), (10, o_call 1 (some 5) (sp_X10_bad) 13), (13, o_iret), (14, o_aload 0 15), (15, o_call 1 (some 5) (sp_X10_remembers) 18), (18, o_aload 0 19), (19, o_call 1 (some 5) (sp_X10_asNow) 22), (22, o_aload 0 23), (23, o_iload 1 24), (24, o_iload 2 25), (25, o_call 3 (some 5) (sp_X10_talks) 28), (28, o_aload 0 29), (29, o_call 1 (some 5) (sp_X10_keepsAll) 32), (32, o_iret)]
theorem me_X10_meet : em_Me T_X10_meet 3 sp_X10_meet := by
  intro Q K hK hle av hp hs
  obtain ⟨B, im, kp, asd, rf, qt, ab, be, tx, ty, at9, st9, tk, vl, wd, it, mn, S, sb, my, we, be9, rw, fr, a, b, rfl, rfl, hB, h3, hz, hbad, hq⟩ := hs
  have hG := GK_rmB hB
  have hS : SOK (nw B) := nw_ok hB
  have h0 := hB.1
  refine ⟨Nat.le_of_ble_eq_true rfl, hK 0 9999 0 _ _ _ ?_⟩
  refine ⟨_, _, _, _, _, _, _, _, _, _, _, _, _, _, _, _, _, _, _, _, _, _, _, _, _, _, B 0, rfl, rfl, rfl, h0, fun z => ?_, fun z1 => ?_⟩
  · refine ⟨fun _ => ?_, fun y => absurd y (by decide)⟩
    obtain ⟨i, hi, rfl⟩ := nI_at rfl z.1
    obtain ⟨j, hj, rfl⟩ := nI_at rfl z.2.1
    have hij : i ≠ j := fun q => z.2.2 (by rw [q])
    have hq := hq i j rfl rfl hi hj hij
    refine ⟨_, _, _, _, _, _, _, _, _, _, _, _, _, _, _, _, _, _, _, _, _, _, _, _, rfl, rfl, h3, _, _, _, _, _, _, _, _, _, _, _, _, _, _, _, _, _, _, _, _, _, _, _, _, rfl, rfl, fun so' h1 h2 => ?_⟩
    have e := nw_eq hz h1 h2
    subst e
    rw [nw_rmB]
    have et := tlk_nB (B := rmB B) (i := i) (j := j) (by omega) (by omega) hS hG.2.2.2.2.2.1
    refine ⟨_, _, _, _, _, _, _, _, _, _, _, _, _, _, _, _, _, _, _, _, _, _, _, _, i, j, rmB B 5, nw B i, nw B j, rfl, rfl, by omega, by omega, rfl, rfl, rfl, hS i (by omega), hS j (by omega), ?_⟩
    rw [et]
    refine ⟨_, _, _, _, _, _, _, _, _, _, _, _, _, _, _, _, _, _, _, _, _, _, _, _, rfl, rfl, ?_⟩
    rw [rmB_lo (show 0 ≠ 3 by omega) (by omega)]
    exact ⟨h0, fun p hp => by rw [rmB_14 hp]; exact hB.2.2.2.2.2.2.1 p hp, tlN_ok (by omega) (by omega) hS, hq⟩
  · exact ⟨fun y => absurd rfl y, fun _ => ⟨_, _, _, _, _, _, _, _, _, _, _, _, _, _, _, _, _, _, _, _, _, _, _, _, rfl, rfl, hbad z1⟩⟩
abbrev rm_X10_meet : Room := { frames := 3, cells := 0, slots := 0, locals := 68 }
set_option maxRecDepth 100000 in
set_option maxHeartbeats 4000000 in
theorem ct_X10_meet (l : Launch) (D : va_G) (dA : Nat → ClassId) (σ : Nat → Nat) : em_CT l D em_cl dA σ (em_F σ) y_X10_meet c_X10_meet 3 (Option.some ClassFile.FieldType.int) rm_X10_meet (sp_X10_meet ) := by
  refine em_CT_of (T := T_X10_meet ) (em_F_ok σ) (by decide) (fun p e s m args below meth c A ρ Q C hFok hF hret hlk hin => ?_) (me_X10_meet )
  unfold T_X10_meet
  refine List.forall_mem_cons.mpr ⟨s_aload_n C (by decide +kernel : decode c_X10_meet 0 = .ok (.aload_n 0, 1)) rfl rfl rfl, ?_⟩
  refine List.forall_mem_cons.mpr ⟨s_iload_n C (by decide +kernel : decode c_X10_meet 1 = .ok (.iload_n 1, 1)) rfl rfl rfl, ?_⟩
  refine List.forall_mem_cons.mpr ⟨s_iload_n C (by decide +kernel : decode c_X10_meet 2 = .ok (.iload_n 2, 1)) rfl rfl rfl, ?_⟩
  refine List.forall_mem_cons.mpr ⟨s_callV C hFok hF (ct_X10_areTwo l D dA σ) ⟨rfl, rfl⟩ ew820 em_cl_X10 ew817 ew819 ewp18 ew6 ⟨by decide, by decide, by decide +kernel⟩ ⟨by decide, by decide⟩ (by decide +kernel : decode c_X10_meet 3 = .ok (.invokevirtual 96, 3)) rfl rfl ⟨Nat.zero_le _, Nat.zero_le _⟩, ?_⟩
  refine List.forall_mem_cons.mpr ⟨s_ifne C (by decide +kernel : decode c_X10_meet 6 = .ok (.ifCond .ne 8, 3)) (by decide) rfl rfl rfl, ?_⟩
  refine List.forall_mem_cons.mpr ⟨s_aload_n C (by decide +kernel : decode c_X10_meet 9 = .ok (.aload_n 0, 1)) rfl rfl rfl, ?_⟩
  refine List.forall_mem_cons.mpr ⟨s_callV C hFok hF (ct_X10_bad l D dA σ) ⟨rfl, rfl⟩ ew779 em_cl_X10 ew776 ew778 ewp13 ew6 ⟨by decide, by decide, by decide +kernel⟩ ⟨by decide, by decide⟩ (by decide +kernel : decode c_X10_meet 10 = .ok (.invokevirtual 84, 3)) rfl rfl ⟨Nat.zero_le _, Nat.zero_le _⟩, ?_⟩
  refine List.forall_mem_cons.mpr ⟨s_iret C (by decide +kernel : decode c_X10_meet 13 = .ok (.ireturn, 1)) hret hlk ⟨Nat.le_refl 0, Nat.le_refl 0⟩, ?_⟩
  refine List.forall_mem_cons.mpr ⟨s_aload_n C (by decide +kernel : decode c_X10_meet 14 = .ok (.aload_n 0, 1)) rfl rfl rfl, ?_⟩
  refine List.forall_mem_cons.mpr ⟨s_callV C hFok hF (ct_X10_remembers l D dA σ) ⟨rfl, rfl⟩ ew919 em_cl_X10 ew916 ew918 ewp28 ew6 ⟨by decide, by decide, by decide +kernel⟩ ⟨by decide, by decide⟩ (by decide +kernel : decode c_X10_meet 15 = .ok (.invokevirtual 196, 3)) rfl rfl ⟨Nat.zero_le _, Nat.zero_le _⟩, ?_⟩
  refine List.forall_mem_cons.mpr ⟨s_aload_n C (by decide +kernel : decode c_X10_meet 18 = .ok (.aload_n 0, 1)) rfl rfl rfl, ?_⟩
  refine List.forall_mem_cons.mpr ⟨s_callV C hFok hF (ct_X10_asNow l D dA σ) ⟨rfl, rfl⟩ ew903 em_cl_X10 ew900 ew902 ewp26 ew6 ⟨by decide, by decide, by decide +kernel⟩ ⟨by decide, by decide⟩ (by decide +kernel : decode c_X10_meet 19 = .ok (.invokevirtual 182, 3)) rfl rfl ⟨Nat.zero_le _, Nat.zero_le _⟩, ?_⟩
  refine List.forall_mem_cons.mpr ⟨s_aload_n C (by decide +kernel : decode c_X10_meet 22 = .ok (.aload_n 0, 1)) rfl rfl rfl, ?_⟩
  refine List.forall_mem_cons.mpr ⟨s_iload_n C (by decide +kernel : decode c_X10_meet 23 = .ok (.iload_n 1, 1)) rfl rfl rfl, ?_⟩
  refine List.forall_mem_cons.mpr ⟨s_iload_n C (by decide +kernel : decode c_X10_meet 24 = .ok (.iload_n 2, 1)) rfl rfl rfl, ?_⟩
  refine List.forall_mem_cons.mpr ⟨s_callV C hFok hF (ct_X10_talks l D dA σ) ⟨rfl, rfl⟩ ew927 em_cl_X10 ew924 ew926 ewp30 ew6 ⟨by decide, by decide, by decide +kernel⟩ ⟨by decide, by decide⟩ (by decide +kernel : decode c_X10_meet 25 = .ok (.invokevirtual 192, 3)) rfl rfl ⟨Nat.zero_le _, Nat.zero_le _⟩, ?_⟩
  refine List.forall_mem_cons.mpr ⟨s_aload_n C (by decide +kernel : decode c_X10_meet 28 = .ok (.aload_n 0, 1)) rfl rfl rfl, ?_⟩
  refine List.forall_mem_cons.mpr ⟨s_callV C hFok hF (ct_X10_keepsAll l D dA σ) ⟨rfl, rfl⟩ ew935 em_cl_X10 ew932 ew934 ewp32 ew6 ⟨by decide, by decide, by decide +kernel⟩ ⟨by decide, by decide⟩ (by decide +kernel : decode c_X10_meet 29 = .ok (.invokevirtual 203, 3)) rfl rfl ⟨Nat.zero_le _, Nat.zero_le _⟩, ?_⟩
  refine List.forall_mem_cons.mpr ⟨s_iret C (by decide +kernel : decode c_X10_meet 32 = .ok (.ireturn, 1)) hret hlk ⟨Nat.le_refl 0, Nat.le_refl 0⟩, ?_⟩
  exact fun _ h => absurd h List.not_mem_nil
def udB (D : Nat → Nat) (a k : Nat) : Nat → Nat := fun j => if 14 ≤ j ∧ j < 14 + k then D (a + 1 + (j - 14)) else D j
theorem udB_0 (D : Nat → Nat) (a : Nat) : udB D a 0 = D := by
  funext j; exact if_neg (by omega)
theorem udB_s (D : Nat → Nat) {a k : Nat} (ha : 62 ≤ a) : un (udB D a k) (14 + k) (udB D a k (a + 1 + k)) = udB D a (k + 1) := by
  funext j
  by_cases h : j = 14 + k
  · by_cases h6 : a + 1 + k < 14 + k
    · omega
    · subst h; rw [un_s]; unfold udB; rw [if_neg (by omega), if_pos (by omega)]; congr 1; omega
  · rw [un_n h]; unfold udB
    by_cases h2 : 14 ≤ j ∧ j < 14 + k
    · rw [if_pos h2, if_pos (by omega)]
    · rw [if_neg h2, if_neg (by omega)]
def unB (B : Nat → Nat) (n : Nat) : Nat → Nat := udB (un (un B 3 n) 2 (B (62 + 7 * n))) (62 + 7 * n) 6
def sp_X10_undo : em_Sp := fun av hp Q => ∃ B im kp asd rf qt ab be tx ty at9 st9 tk vl wd it mn so sb my we be9 rw fr, av = [.ref 0] ∧ hp = (wM (nB B) im kp asd rf qt ab be tx ty at9 st9 tk vl wd it mn so sb my we be9 rw fr) ∧ B 3 ≤ 12 ∧ (B 3 = 0 → Q (some (.int (-3))) (wM (nB B) im kp asd (rfM qt rf 1) qt ab be tx ty at9 st9 tk vl wd it mn so sb my we be9 rw fr)) ∧ (∀ n, B 3 = n + 1 → Q (some (.int 1)) (wM (nB (unB B n)) im kp asd rf qt ab be tx ty at9 st9 tk vl wd it mn so sb my we be9 rw fr))
def T_X10_undo : List (Nat × em_Op) := [(0, o_aload 0 1), (1, o_getf 5 0 4), (4, o_iconst 3 5), (5, o_aldI 0 6), (6, o_ifne 14 9), (9, o_aload 0 10), (10, o_call 1 (some 5) (sp_X10_no) 13), (13, o_iret), (14, o_aload 0 15), (15, o_getf 5 0 18), (18, o_iconst 3 19), (19, o_dup2 20), (20, o_aldI 0 21), (21, o_iconst 1 22), (22, o_isub 23), (23, o_iast 24), (24, o_iconst 62 26), (26, o_iconst 7 28), (28, o_aload 0 29), (29, o_getf 5 0 32), (32, o_iconst 3 33), (33, o_aldI 0 34), (34, o_imul 35), (35, o_iadd 36), (36, o_istore 1 37), (37, o_aload 0 38), (38, o_getf 5 0 41), (41, o_iconst 2 42), (42, o_aload 0 43), (43, o_getf 5 0 46), (46, o_iload 1 47), (47, o_aldI 0 48), (48, o_iast 49), (49, o_iconst 0 50), (50, o_istore 2 51), (51, o_iload 2 52), (52, o_iconst 6 54), (54, o_icmpge 82 57), (57, o_aload 0 58), (58, o_getf 5 0 61), (61, o_iconst 14 63), (63, o_iload 2 64), (64, o_iadd 65), (65, o_aload 0 66), (66, o_getf 5 0 69), (69, o_iload 1 70), (70, o_iconst 1 71), (71, o_iadd 72), (72, o_iload 2 73), (73, o_iadd 74), (74, o_aldI 0 75), (75, o_iast 76), (76, o_iinc 2 1 79), (79, o_goto 51), (82, o_iconst 1 83), (83, o_iret)]
theorem me_X10_undo : em_Me T_X10_undo 3 sp_X10_undo := by
  intro Q K hK hle av hp hs
  obtain ⟨B, im, kp, asd, rf, qt, ab, be, tx, ty, at9, st9, tk, vl, wd, it, mn, so, sb, my, we, be9, rw, fr, rfl, rfl, h3, hno, hq⟩ := hs
  refine ⟨Nat.le_of_ble_eq_true rfl, hK 0 8 0 _ _ _ ?_⟩
  refine ⟨3, rfl, by decide, fun z => ?_, fun z => ?_⟩
  · have hn0 : ¬ B 3 = 0 := fun q => z (by show nI (B 3) = 0; rw [q]; rfl)
    obtain ⟨n, hn⟩ : ∃ n, B 3 = n + 1 := ⟨B 3 - 1, by omega⟩
    have hq := hq n hn
    have loop : ∀ (r p : Nat), p + r = 6 → K 51 [some (.ref 0), some (.int (nI (62 + 7 * n))), some (.int (nI p))] [] (wM (nB (udB (un (un B 3 n) 2 (B (62 + 7 * n))) (62 + 7 * n) p)) im kp asd rf qt ab be tx ty at9 st9 tk vl wd it mn so sb my we be9 rw fr) := by
      intro r
      induction r with
      | zero =>
        intro p hp
        have hp : p = 6 := by omega
        subst hp
        refine hK 35 9999 51 _ _ _ ?_
        exact ⟨fun _ => hq, fun z => absurd (nI_le (a := 6) (b := 6) (by omega) (by omega)) z⟩
      | succ r ih =>
        intro p hp
        have := ih (p + 1) (by omega)
        rw [← udB_s _ (by omega), nB_un, ← nI_1 p] at this
        refine hK 35 9999 51 _ _ _ ?_
        refine ⟨fun z => absurd z (nI_ge (a := p) (b := 6) (by omega) (by omega)), fun _ => ?_⟩
        exact ⟨62 + 7 * n + 1 + p, (by show nI (62 + 7 * n) + 1 + nI p = _; rw [nI_1, nI_add]), by omega, 14 + p, nI_add 14 p, by omega, this⟩
    have l0 := loop 6 0 rfl
    have eb : nI (B (62 + 7 * n)) = nB (un B 3 n) (62 + 7 * n) := by unfold nB; rw [un_n (by omega)]
    rw [udB_0, nB_un, eb] at l0
    have ent : K 37 [some (.ref 0), some (.int (nI (62 + 7 * n))), none] [] (wM (nB (un B 3 n)) im kp asd rf qt ab be tx ty at9 st9 tk vl wd it mn so sb my we be9 rw fr) := by
      refine hK 25 10 37 _ _ _ ?_
      exact ⟨62 + 7 * n, rfl, by omega, 2, rfl, by decide, l0⟩
    have e : (62 : Int32) + 7 * nB (un B 3 n) 3 = nI (62 + 7 * n) := by
      unfold nB
      rw [un_s, show (7 : Int32) = nI 7 from rfl, pk_mul]; exact nI_add 62 _
    rw [← e] at ent
    have ent2 : K 24 [some (.ref 0), none, none] [] (wM (nB (un B 3 n)) im kp asd rf qt ab be tx ty at9 st9 tk vl wd it mn so sb my we be9 rw fr) := by
      refine hK 16 9 24 _ _ _ ?_
      exact ⟨3, rfl, by decide, ent⟩
    have e3 : nB B 3 - 1 = nI n := by unfold nB; rw [hn]; exact nI_pred n
    rw [nB_un, ← e3] at ent2
    refine hK 8 8 14 _ _ _ ?_
    exact ⟨3, rfl, by decide, 3, rfl, by decide, hle _ _ _ _ _ (by repeat (first | exact trivial | refine ⟨rfl, ?_⟩)) ent2⟩
  · have hn0 : B 3 = 0 := (nI_eq (b := 0) (by omega) (by omega)).mp z
    exact ⟨_, _, _, _, _, _, _, _, _, _, _, _, _, _, _, _, _, _, _, _, _, _, _, _, rfl, rfl, hno hn0⟩
abbrev rm_X10_undo : Room := { frames := 2, cells := 0, slots := 0, locals := 42 }
set_option maxRecDepth 100000 in
set_option maxHeartbeats 4000000 in
theorem ct_X10_undo (l : Launch) (D : va_G) (dA : Nat → ClassId) (σ : Nat → Nat) : em_CT l D em_cl dA σ (em_F σ) y_X10_undo c_X10_undo 3 (Option.some ClassFile.FieldType.int) rm_X10_undo (sp_X10_undo ) := by
  refine em_CT_of (T := T_X10_undo ) (em_F_ok σ) (by decide) (fun p e s m args below meth c A ρ Q C hFok hF hret hlk hin => ?_) (me_X10_undo )
  unfold T_X10_undo
  refine List.forall_mem_cons.mpr ⟨s_aload_n C (by decide +kernel : decode c_X10_undo 0 = .ok (.aload_n 0, 1)) rfl rfl rfl, ?_⟩
  refine List.forall_mem_cons.mpr ⟨s_getf C (by decide +kernel : decode c_X10_undo 1 = .ok (.getfield 7, 3)) rfl rfl em_cl_X10 (by decide) ew691 rfl, ?_⟩
  refine List.forall_mem_cons.mpr ⟨s_iconst C (by decide +kernel : decode c_X10_undo 4 = .ok (.iconst 3, 1)) rfl rfl (by decide), ?_⟩
  refine List.forall_mem_cons.mpr ⟨s_iald C (by decide +kernel : decode c_X10_undo 5 = .ok (.iaload, 1)) rfl rfl, ?_⟩
  refine List.forall_mem_cons.mpr ⟨s_ifne C (by decide +kernel : decode c_X10_undo 6 = .ok (.ifCond .ne 8, 3)) (by decide) rfl rfl rfl, ?_⟩
  refine List.forall_mem_cons.mpr ⟨s_aload_n C (by decide +kernel : decode c_X10_undo 9 = .ok (.aload_n 0, 1)) rfl rfl rfl, ?_⟩
  refine List.forall_mem_cons.mpr ⟨s_callV C hFok hF (ct_X10_no l D dA σ) ⟨rfl, rfl⟩ ew947 em_cl_X10 ew944 ew946 ewp33 ew6 ⟨by decide, by decide, by decide +kernel⟩ ⟨by decide, by decide⟩ (by decide +kernel : decode c_X10_undo 10 = .ok (.invokevirtual 206, 3)) rfl rfl ⟨Nat.zero_le _, Nat.zero_le _⟩, ?_⟩
  refine List.forall_mem_cons.mpr ⟨s_iret C (by decide +kernel : decode c_X10_undo 13 = .ok (.ireturn, 1)) hret hlk ⟨Nat.le_refl 0, Nat.le_refl 0⟩, ?_⟩
  refine List.forall_mem_cons.mpr ⟨s_aload_n C (by decide +kernel : decode c_X10_undo 14 = .ok (.aload_n 0, 1)) rfl rfl rfl, ?_⟩
  refine List.forall_mem_cons.mpr ⟨s_getf C (by decide +kernel : decode c_X10_undo 15 = .ok (.getfield 7, 3)) rfl rfl em_cl_X10 (by decide) ew691 rfl, ?_⟩
  refine List.forall_mem_cons.mpr ⟨s_iconst C (by decide +kernel : decode c_X10_undo 18 = .ok (.iconst 3, 1)) rfl rfl (by decide), ?_⟩
  refine List.forall_mem_cons.mpr ⟨s_dup2 C (by decide +kernel : decode c_X10_undo 19 = .ok (.dup2, 1)) rfl rfl, ?_⟩
  refine List.forall_mem_cons.mpr ⟨s_iald C (by decide +kernel : decode c_X10_undo 20 = .ok (.iaload, 1)) rfl rfl, ?_⟩
  refine List.forall_mem_cons.mpr ⟨s_iconst C (by decide +kernel : decode c_X10_undo 21 = .ok (.iconst 1, 1)) rfl rfl (by decide), ?_⟩
  refine List.forall_mem_cons.mpr ⟨s_isub C (by decide +kernel : decode c_X10_undo 22 = .ok (.isub, 1)) rfl rfl, ?_⟩
  refine List.forall_mem_cons.mpr ⟨s_iast C (by decide +kernel : decode c_X10_undo 23 = .ok (.iastore, 1)) rfl rfl, ?_⟩
  refine List.forall_mem_cons.mpr ⟨s_bipush C (by decide +kernel : decode c_X10_undo 24 = .ok (.bipush 62, 2)) rfl rfl (by decide), ?_⟩
  refine List.forall_mem_cons.mpr ⟨s_bipush C (by decide +kernel : decode c_X10_undo 26 = .ok (.bipush 7, 2)) rfl rfl (by decide), ?_⟩
  refine List.forall_mem_cons.mpr ⟨s_aload_n C (by decide +kernel : decode c_X10_undo 28 = .ok (.aload_n 0, 1)) rfl rfl rfl, ?_⟩
  refine List.forall_mem_cons.mpr ⟨s_getf C (by decide +kernel : decode c_X10_undo 29 = .ok (.getfield 7, 3)) rfl rfl em_cl_X10 (by decide) ew691 rfl, ?_⟩
  refine List.forall_mem_cons.mpr ⟨s_iconst C (by decide +kernel : decode c_X10_undo 32 = .ok (.iconst 3, 1)) rfl rfl (by decide), ?_⟩
  refine List.forall_mem_cons.mpr ⟨s_iald C (by decide +kernel : decode c_X10_undo 33 = .ok (.iaload, 1)) rfl rfl, ?_⟩
  refine List.forall_mem_cons.mpr ⟨s_imul C (by decide +kernel : decode c_X10_undo 34 = .ok (.imul, 1)) rfl rfl, ?_⟩
  refine List.forall_mem_cons.mpr ⟨s_iadd C (by decide +kernel : decode c_X10_undo 35 = .ok (.iadd, 1)) rfl rfl, ?_⟩
  refine List.forall_mem_cons.mpr ⟨s_istore_n C (by decide +kernel : decode c_X10_undo 36 = .ok (.istore_n 1, 1)) rfl rfl rfl (by decide), ?_⟩
  refine List.forall_mem_cons.mpr ⟨s_aload_n C (by decide +kernel : decode c_X10_undo 37 = .ok (.aload_n 0, 1)) rfl rfl rfl, ?_⟩
  refine List.forall_mem_cons.mpr ⟨s_getf C (by decide +kernel : decode c_X10_undo 38 = .ok (.getfield 7, 3)) rfl rfl em_cl_X10 (by decide) ew691 rfl, ?_⟩
  refine List.forall_mem_cons.mpr ⟨s_iconst C (by decide +kernel : decode c_X10_undo 41 = .ok (.iconst 2, 1)) rfl rfl (by decide), ?_⟩
  refine List.forall_mem_cons.mpr ⟨s_aload_n C (by decide +kernel : decode c_X10_undo 42 = .ok (.aload_n 0, 1)) rfl rfl rfl, ?_⟩
  refine List.forall_mem_cons.mpr ⟨s_getf C (by decide +kernel : decode c_X10_undo 43 = .ok (.getfield 7, 3)) rfl rfl em_cl_X10 (by decide) ew691 rfl, ?_⟩
  refine List.forall_mem_cons.mpr ⟨s_iload_n C (by decide +kernel : decode c_X10_undo 46 = .ok (.iload_n 1, 1)) rfl rfl rfl, ?_⟩
  refine List.forall_mem_cons.mpr ⟨s_iald C (by decide +kernel : decode c_X10_undo 47 = .ok (.iaload, 1)) rfl rfl, ?_⟩
  refine List.forall_mem_cons.mpr ⟨s_iast C (by decide +kernel : decode c_X10_undo 48 = .ok (.iastore, 1)) rfl rfl, ?_⟩
  refine List.forall_mem_cons.mpr ⟨s_iconst C (by decide +kernel : decode c_X10_undo 49 = .ok (.iconst 0, 1)) rfl rfl (by decide), ?_⟩
  refine List.forall_mem_cons.mpr ⟨s_istore_n C (by decide +kernel : decode c_X10_undo 50 = .ok (.istore_n 2, 1)) rfl rfl rfl (by decide), ?_⟩
  refine List.forall_mem_cons.mpr ⟨s_iload_n C (by decide +kernel : decode c_X10_undo 51 = .ok (.iload_n 2, 1)) rfl rfl rfl, ?_⟩
  refine List.forall_mem_cons.mpr ⟨s_bipush C (by decide +kernel : decode c_X10_undo 52 = .ok (.bipush 6, 2)) rfl rfl (by decide), ?_⟩
  refine List.forall_mem_cons.mpr ⟨s_icmpge C (by decide +kernel : decode c_X10_undo 54 = .ok (.if_icmp .ge 28, 3)) (by decide) rfl rfl rfl, ?_⟩
  refine List.forall_mem_cons.mpr ⟨s_aload_n C (by decide +kernel : decode c_X10_undo 57 = .ok (.aload_n 0, 1)) rfl rfl rfl, ?_⟩
  refine List.forall_mem_cons.mpr ⟨s_getf C (by decide +kernel : decode c_X10_undo 58 = .ok (.getfield 7, 3)) rfl rfl em_cl_X10 (by decide) ew691 rfl, ?_⟩
  refine List.forall_mem_cons.mpr ⟨s_bipush C (by decide +kernel : decode c_X10_undo 61 = .ok (.bipush 14, 2)) rfl rfl (by decide), ?_⟩
  refine List.forall_mem_cons.mpr ⟨s_iload_n C (by decide +kernel : decode c_X10_undo 63 = .ok (.iload_n 2, 1)) rfl rfl rfl, ?_⟩
  refine List.forall_mem_cons.mpr ⟨s_iadd C (by decide +kernel : decode c_X10_undo 64 = .ok (.iadd, 1)) rfl rfl, ?_⟩
  refine List.forall_mem_cons.mpr ⟨s_aload_n C (by decide +kernel : decode c_X10_undo 65 = .ok (.aload_n 0, 1)) rfl rfl rfl, ?_⟩
  refine List.forall_mem_cons.mpr ⟨s_getf C (by decide +kernel : decode c_X10_undo 66 = .ok (.getfield 7, 3)) rfl rfl em_cl_X10 (by decide) ew691 rfl, ?_⟩
  refine List.forall_mem_cons.mpr ⟨s_iload_n C (by decide +kernel : decode c_X10_undo 69 = .ok (.iload_n 1, 1)) rfl rfl rfl, ?_⟩
  refine List.forall_mem_cons.mpr ⟨s_iconst C (by decide +kernel : decode c_X10_undo 70 = .ok (.iconst 1, 1)) rfl rfl (by decide), ?_⟩
  refine List.forall_mem_cons.mpr ⟨s_iadd C (by decide +kernel : decode c_X10_undo 71 = .ok (.iadd, 1)) rfl rfl, ?_⟩
  refine List.forall_mem_cons.mpr ⟨s_iload_n C (by decide +kernel : decode c_X10_undo 72 = .ok (.iload_n 2, 1)) rfl rfl rfl, ?_⟩
  refine List.forall_mem_cons.mpr ⟨s_iadd C (by decide +kernel : decode c_X10_undo 73 = .ok (.iadd, 1)) rfl rfl, ?_⟩
  refine List.forall_mem_cons.mpr ⟨s_iald C (by decide +kernel : decode c_X10_undo 74 = .ok (.iaload, 1)) rfl rfl, ?_⟩
  refine List.forall_mem_cons.mpr ⟨s_iast C (by decide +kernel : decode c_X10_undo 75 = .ok (.iastore, 1)) rfl rfl, ?_⟩
  refine List.forall_mem_cons.mpr ⟨s_iinc C (by decide +kernel : decode c_X10_undo 76 = .ok (.iinc 2 1, 3)) rfl rfl (by decide) (by decide), ?_⟩
  refine List.forall_mem_cons.mpr ⟨s_goto C (by decide +kernel : decode c_X10_undo 79 = .ok (.goto (-28), 3)) (by decide) rfl, ?_⟩
  refine List.forall_mem_cons.mpr ⟨s_iconst C (by decide +kernel : decode c_X10_undo 82 = .ok (.iconst 1, 1)) rfl rfl (by decide), ?_⟩
  refine List.forall_mem_cons.mpr ⟨s_iret C (by decide +kernel : decode c_X10_undo 83 = .ok (.ireturn, 1)) hret hlk ⟨Nat.le_refl 0, Nat.le_refl 0⟩, ?_⟩
  exact fun _ h => absurd h List.not_mem_nil
