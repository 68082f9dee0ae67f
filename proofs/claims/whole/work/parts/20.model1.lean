/-! ===== WedApartModel: its world; what is small ===== -/
def wM (bk im kp asd rf : Nat → Int32) (qt : Int32) (ab be : Int64) (tx : Nat → Int32) (ty at9 st9 tk vl : Int32) (wd : Int64) (it : Nat → Int32) (mn : Int32) (so : Nat → Int32) (sb : Nat → Int64) (my we be9 rw fr : Nat → Int32) : em_H :=
  [.inr (5, [.ref 1, .ref 2, .ref 3, .ref 4, .ref 5, .int qt, .long ab, .long be, .ref 6, .int ty, .int at9, .int st9, .int tk, .int vl, .long wd, .ref 7, .int mn, .ref 8, .ref 9, .ref 10, .ref 11, .ref 12, .ref 13, .ref 14]), .inl (0, 146, .inl bk), .inl (0, 292, .inl im), .inl (3, 2, .inl kp), .inl (0, 146, .inl asd), .inl (0, 3, .inl rf), .inl (0, 150, .inl tx), .inl (0, 150, .inl it), .inl (0, 6, .inl so), .inl (1, 201, .inr (.inl sb)), .inl (0, 6, .inl my), .inl (0, 6, .inl we), .inl (0, 6, .inl be9), .inl (0, 4, .inl rw), .inl (0, 4, .inl fr)]
def inL (v a b : Int64) : Prop := ¬ lg_cmp v a < 0 ∧ ¬ 0 < lg_cmp v b
theorem lg_lt {x y : Int64} : lg_cmp x y < 0 ↔ x < y := by
  unfold lg_cmp
  constructor
  · intro h
    split at h
    · exact absurd h (by decide)
    · split at h
      · exact absurd h (by decide)
      · rename_i h1 h2
        have h1 := Int64.not_lt.mp h1
        have h1' := Int64.le_iff_toInt_le.mp h1
        apply Int64.lt_iff_toInt_lt.mpr
        have : x.toInt ≠ y.toInt := fun q => h2 (Int64.toInt_inj.mp q)
        omega
  · intro h
    have h' := Int64.lt_iff_toInt_lt.mp h
    rw [if_neg (fun q => by have := Int64.lt_iff_toInt_lt.mp q; omega), if_neg (fun q => by rw [q] at h'; omega)]
    decide
theorem lg_gt {x y : Int64} : 0 < lg_cmp x y ↔ y < x := by
  unfold lg_cmp
  constructor
  · intro h
    split at h
    · assumption
    · split at h
      · exact absurd h (by decide)
      · exact absurd h (by decide)
  · intro h
    rw [if_pos h]
    decide
theorem inL_i {x : Int32} {a b : Int64} : inL x.toInt64 a b ↔ a.toInt ≤ x.toInt ∧ x.toInt ≤ b.toInt := by
  unfold inL
  rw [lg_lt, lg_gt, Int64.lt_iff_toInt_lt, Int64.lt_iff_toInt_lt, Int32.toInt_toInt64]
  omega
theorem i_lt {x y : Int32} : x < y ↔ x.toInt < y.toInt := Int32.lt_iff_toInt_lt
theorem i_le {x y : Int32} : x ≤ y ↔ x.toInt ≤ y.toInt := Int32.le_iff_toInt_le
theorem in_isk {k : Int32} : inL k.toInt64 0 5 ↔ isk k := by
  rw [inL_i, isk, i_lt, i_lt, show (0 : Int64).toInt = 0 by decide, show (5 : Int64).toInt = 5 by decide, show (0 : Int32).toInt = 0 by decide, show (5 : Int32).toInt = 5 by decide]
  omega
theorem in_iss {k : Int32} : inL k.toInt64 0 1023 ↔ iss k := by
  rw [inL_i, iss, i_lt, i_lt, show (0 : Int64).toInt = 0 by decide, show (1023 : Int64).toInt = 1023 by decide, show (0 : Int32).toInt = 0 by decide, show (1023 : Int32).toInt = 1023 by decide]
  omega
theorem in_20 {k : Int32} : inL k.toInt64 0 20 ↔ rng20 k := by
  rw [inL_i, rng20, i_lt, i_le, show (0 : Int64).toInt = 0 by decide, show (20 : Int64).toInt = 20 by decide, show (0 : Int32).toInt = 0 by decide, show (20 : Int32).toInt = 20 by decide]
  omega
theorem in_chk {k : Int32} : inL k.toInt64 0 20 ↔ chk k := by
  rw [inL_i, chk, i_lt, i_lt, show (0 : Int64).toInt = 0 by decide, show (20 : Int64).toInt = 20 by decide, show (0 : Int32).toInt = 0 by decide, show (20 : Int32).toInt = 20 by decide]
  omega
theorem in_200 {k : Int32} : inL k.toInt64 0 200 ↔ inm k := by
  rw [inL_i, inm, i_lt, i_le, show (0 : Int64).toInt = 0 by decide, show (200 : Int64).toInt = 200 by decide, show (0 : Int32).toInt = 0 by decide, show (200 : Int32).toInt = 200 by decide]
  omega
theorem in_40 {k : Int32} : inL k.toInt64 0 40 ↔ inw k := by
  rw [inL_i, inw, i_lt, i_le, show (0 : Int64).toInt = 0 by decide, show (40 : Int64).toInt = 40 by decide, show (0 : Int32).toInt = 0 by decide, show (40 : Int32).toInt = 40 by decide]
  omega
theorem in_14 {k : Int32} : inL k.toInt64 1 4 ↔ (¬ k < 1 ∧ ¬ 4 < k) := by
  rw [inL_i, i_lt, i_lt, show (1 : Int64).toInt = 1 by decide, show (4 : Int64).toInt = 4 by decide, show (1 : Int32).toInt = 1 by decide, show (4 : Int32).toInt = 4 by decide]
  omega
theorem in_seed {k : Int32} : inL k.toInt64 0 999999 ↔ sdk k := by
  rw [inL_i, sdk, i_lt, i_le, show (0 : Int64).toInt = 0 by decide, show (999999 : Int64).toInt = 999999 by decide, show (0 : Int32).toInt = 0 by decide, show (999999 : Int32).toInt = 999999 by decide]
  omega
theorem in_02 {k : Int32} : inL k.toInt64 0 2 ↔ (¬ k < 0 ∧ k < 3) := by
  rw [inL_i, i_lt, i_lt, show (0 : Int64).toInt = 0 by decide, show (2 : Int64).toInt = 2 by decide, show (0 : Int32).toInt = 0 by decide, show (3 : Int32).toInt = 3 by decide]
  omega
theorem in_05 {k : Int32} : inL k.toInt64 0 5 ↔ (¬ k < 0 ∧ k ≤ 5) := by
  rw [inL_i, i_lt, i_le, show (0 : Int64).toInt = 0 by decide, show (5 : Int64).toInt = 5 by decide, show (0 : Int32).toInt = 0 by decide, show (5 : Int32).toInt = 5 by decide]
  omega
theorem in_127 {k : Int32} : inL k.toInt64 0 127 ↔ (¬ k < 0 ∧ k ≤ 127) := by
  rw [inL_i, i_lt, i_le, show (0 : Int64).toInt = 0 by decide, show (127 : Int64).toInt = 127 by decide, show (0 : Int32).toInt = 0 by decide, show (127 : Int32).toInt = 127 by decide]
  omega
theorem in_01 {k : Int32} : inL k.toInt64 0 1 ↔ (k = 0 ∨ k = 1) := by
  rw [inL_i, show (0 : Int64).toInt = 0 by decide, show (1 : Int64).toInt = 1 by decide]
  have e0 : (0 : Int32).toInt = 0 := by decide
  have e1 : (1 : Int32).toInt = 1 := by decide
  constructor
  · intro h
    rcases (by omega : k.toInt = 0 ∨ k.toInt = 1) with q | q
    · exact Or.inl (Int32.toInt_inj.mp (q.trans e0.symm))
    · exact Or.inr (Int32.toInt_inj.mp (q.trans e1.symm))
  · rintro (q | q)
    · rw [q, e0]; omega
    · rw [q, e1]; omega
theorem in_prm {a b : Int32} : (inL b.toInt64 0 20 ∧ inL a.toInt64 0 b.toInt64) ↔ prm a b := by
  rw [inL_i, inL_i, prm, i_lt, i_lt, i_le, Int32.toInt_toInt64, show (0 : Int64).toInt = 0 by decide, show (20 : Int64).toInt = 20 by decide, show (0 : Int32).toInt = 0 by decide, show (20 : Int32).toInt = 20 by decide]
  omega
theorem nI_sub1 {n : Nat} (h : n < 2 ^ 30) : (nI n - 1).toInt = (n : Int) - 1 := by
  exact pk_sub_toInt (a := n) (b := 1) h (by omega)
theorem in_hs {n : Nat} {p : Int32} (h : n < 2 ^ 30) : inL p.toInt64 0 (nI n - 1).toInt64 ↔ hs (nI n) p := by
  rw [inL_i, hs, i_lt, i_le, Int32.toInt_toInt64, nI_sub1 h, nI_toInt (by omega), show (0 : Int64).toInt = 0 by decide, show (0 : Int32).toInt = 0 by decide]
  omega
def sp_X10_in : em_Sp := fun av hp Q => ∃ v a b, av = [.long v, .long a, .long b] ∧ (inL v a b → Q (some (.int 1)) hp) ∧ (¬ inL v a b → Q (some (.int 0)) hp)
def T_X10_in : List (Nat × em_Op) := [(0, o_lload 0 1), (1, o_lload 2 2), (2, o_lcmp 3), (3, o_iflt 17 6), (6, o_lload 0 7), (7, o_lload 4 9), (9, o_lcmp 10), (10, o_ifgt 17 13), (13, o_iconst 1 14), (14, o_goto 18), (17, o_iconst 0 18), (18, o_zret)]
theorem me_X10_in : em_Me T_X10_in 6 sp_X10_in := by
  intro Q K hK hle av hp hs
  obtain ⟨v, a, b, rfl, h1, h0⟩ := hs
  refine ⟨Nat.le_of_ble_eq_true rfl, hK 0 9999 0 _ _ _ ?_⟩
  exact ⟨fun z => ⟨Or.inl rfl, h0 (fun q => q.1 z)⟩, fun z => ⟨fun y => ⟨Or.inl rfl, h0 (fun q => q.2 y)⟩, fun y => ⟨Or.inr rfl, h1 ⟨z, y⟩⟩⟩⟩
abbrev rm_X10_in : Room := { frames := 0, cells := 0, slots := 0, locals := 0 }
set_option maxRecDepth 100000 in
set_option maxHeartbeats 4000000 in
theorem ct_X10_in (l : Launch) (D : va_G) (dA : Nat → ClassId) (σ : Nat → Nat) : em_CT l D em_cl dA σ (em_F σ) y_X10_in c_X10_in 6 (Option.some ClassFile.FieldType.boolean) rm_X10_in (sp_X10_in ) := by
  refine em_CT_of (T := T_X10_in ) (em_F_ok σ) (by decide) (fun p e s m args below meth c A ρ Q C hFok hF hret hlk hin => ?_) (me_X10_in )
  unfold T_X10_in
  refine List.forall_mem_cons.mpr ⟨s_lload_n C (by decide +kernel : decode c_X10_in 0 = .ok (.lload_n 0, 1)) rfl rfl rfl, ?_⟩
  refine List.forall_mem_cons.mpr ⟨s_lload_n C (by decide +kernel : decode c_X10_in 1 = .ok (.lload_n 2, 1)) rfl rfl rfl, ?_⟩
  refine List.forall_mem_cons.mpr ⟨s_lcmp C (by decide +kernel : decode c_X10_in 2 = .ok (.lcmp, 1)) rfl rfl, ?_⟩
  refine List.forall_mem_cons.mpr ⟨s_iflt C (by decide +kernel : decode c_X10_in 3 = .ok (.ifCond .lt 14, 3)) (by decide) rfl rfl rfl, ?_⟩
  refine List.forall_mem_cons.mpr ⟨s_lload_n C (by decide +kernel : decode c_X10_in 6 = .ok (.lload_n 0, 1)) rfl rfl rfl, ?_⟩
  refine List.forall_mem_cons.mpr ⟨s_lload C (by decide +kernel : decode c_X10_in 7 = .ok (.lload 4, 2)) rfl rfl, ?_⟩
  refine List.forall_mem_cons.mpr ⟨s_lcmp C (by decide +kernel : decode c_X10_in 9 = .ok (.lcmp, 1)) rfl rfl, ?_⟩
  refine List.forall_mem_cons.mpr ⟨s_ifgt C (by decide +kernel : decode c_X10_in 10 = .ok (.ifCond .gt 7, 3)) (by decide) rfl rfl rfl, ?_⟩
  refine List.forall_mem_cons.mpr ⟨s_iconst C (by decide +kernel : decode c_X10_in 13 = .ok (.iconst 1, 1)) rfl rfl (by decide), ?_⟩
  refine List.forall_mem_cons.mpr ⟨s_goto C (by decide +kernel : decode c_X10_in 14 = .ok (.goto 4, 3)) (by decide) rfl, ?_⟩
  refine List.forall_mem_cons.mpr ⟨s_iconst C (by decide +kernel : decode c_X10_in 17 = .ok (.iconst 0, 1)) rfl rfl (by decide), ?_⟩
  refine List.forall_mem_cons.mpr ⟨s_zret C (by decide +kernel : decode c_X10_in 18 = .ok (.ireturn, 1)) hret hlk ⟨Nat.le_refl 0, Nat.le_refl 0⟩, ?_⟩
  exact fun _ h => absurd h List.not_mem_nil
def rfM (qt : Int32) (rf : Nat → Int32) (s : Nat) : Nat → Int32 := upd rf s (rf s + (if qt = 0 then 1 else 0))
def sp_X10_refuses : em_Sp := fun av hp Q => ∃ bk im kp asd rf qt ab be tx ty at9 st9 tk vl wd it mn so sb my we be9 rw fr s v, av = [.ref 0, .int (nI s), .int v] ∧ hp = (wM bk im kp asd rf qt ab be tx ty at9 st9 tk vl wd it mn so sb my we be9 rw fr) ∧ s < 3 ∧ Q (some (.int v)) (wM bk im kp asd (rfM qt rf s) qt ab be tx ty at9 st9 tk vl wd it mn so sb my we be9 rw fr)
def T_X10_refuses : List (Nat × em_Op) := [(0, o_aload 0 1), (1, o_getf 5 4 4), (4, o_iload 1 5), (5, o_dup2 6), (6, o_aldI 0 7), (7, o_aload 0 8), (8, o_getf 5 5 11), (11, o_ifeq 18 14), (14, o_iconst 0 15), (15, o_goto 19), (18, o_iconst 1 19), (19, o_iadd 20), (20, o_iast 21), (21, o_iload 2 22), (22, o_iret)]
theorem me_X10_refuses : em_Me T_X10_refuses 3 sp_X10_refuses := by
  intro Q K hK hle av hp hs
  obtain ⟨bk, im, kp, asd, rf, qt, ab, be, tx, ty, at9, st9, tk, vl, wd, it, mn, so, sb, my, we, be9, rw, fr, s, v, rfl, rfl, hs3, hq⟩ := hs
  refine ⟨Nat.le_of_ble_eq_true rfl, hK 0 9999 0 _ _ _ ?_⟩
  rw [rfM] at hq
  refine ⟨s, rfl, hs3, fun z => ?_, fun z => ?_⟩
  · rw [if_pos z] at hq
    exact ⟨s, rfl, hs3, hq⟩
  · rw [if_neg z] at hq
    exact ⟨s, rfl, hs3, hq⟩
abbrev rm_X10_refuses : Room := { frames := 0, cells := 0, slots := 0, locals := 0 }
set_option maxRecDepth 100000 in
set_option maxHeartbeats 4000000 in
theorem ct_X10_refuses (l : Launch) (D : va_G) (dA : Nat → ClassId) (σ : Nat → Nat) : em_CT l D em_cl dA σ (em_F σ) y_X10_refuses c_X10_refuses 3 (Option.some ClassFile.FieldType.int) rm_X10_refuses (sp_X10_refuses ) := by
  refine em_CT_of (T := T_X10_refuses ) (em_F_ok σ) (by decide) (fun p e s m args below meth c A ρ Q C hFok hF hret hlk hin => ?_) (me_X10_refuses )
  unfold T_X10_refuses
  refine List.forall_mem_cons.mpr ⟨s_aload_n C (by decide +kernel : decode c_X10_refuses 0 = .ok (.aload_n 0, 1)) rfl rfl rfl, ?_⟩
  refine List.forall_mem_cons.mpr ⟨s_getf C (by decide +kernel : decode c_X10_refuses 1 = .ok (.getfield 23, 3)) rfl rfl em_cl_X10 (by decide) ew695 rfl, ?_⟩
  refine List.forall_mem_cons.mpr ⟨s_iload_n C (by decide +kernel : decode c_X10_refuses 4 = .ok (.iload_n 1, 1)) rfl rfl rfl, ?_⟩
  refine List.forall_mem_cons.mpr ⟨s_dup2 C (by decide +kernel : decode c_X10_refuses 5 = .ok (.dup2, 1)) rfl rfl, ?_⟩
  refine List.forall_mem_cons.mpr ⟨s_iald C (by decide +kernel : decode c_X10_refuses 6 = .ok (.iaload, 1)) rfl rfl, ?_⟩
  refine List.forall_mem_cons.mpr ⟨s_aload_n C (by decide +kernel : decode c_X10_refuses 7 = .ok (.aload_n 0, 1)) rfl rfl rfl, ?_⟩
  refine List.forall_mem_cons.mpr ⟨s_getf C (by decide +kernel : decode c_X10_refuses 8 = .ok (.getfield 61, 3)) rfl rfl em_cl_X10 (by decide) ew696 rfl, ?_⟩
  refine List.forall_mem_cons.mpr ⟨s_ifeq C (by decide +kernel : decode c_X10_refuses 11 = .ok (.ifCond .eq 7, 3)) (by decide) rfl rfl rfl, ?_⟩
  refine List.forall_mem_cons.mpr ⟨s_iconst C (by decide +kernel : decode c_X10_refuses 14 = .ok (.iconst 0, 1)) rfl rfl (by decide), ?_⟩
  refine List.forall_mem_cons.mpr ⟨s_goto C (by decide +kernel : decode c_X10_refuses 15 = .ok (.goto 4, 3)) (by decide) rfl, ?_⟩
  refine List.forall_mem_cons.mpr ⟨s_iconst C (by decide +kernel : decode c_X10_refuses 18 = .ok (.iconst 1, 1)) rfl rfl (by decide), ?_⟩
  refine List.forall_mem_cons.mpr ⟨s_iadd C (by decide +kernel : decode c_X10_refuses 19 = .ok (.iadd, 1)) rfl rfl, ?_⟩
  refine List.forall_mem_cons.mpr ⟨s_iast C (by decide +kernel : decode c_X10_refuses 20 = .ok (.iastore, 1)) rfl rfl, ?_⟩
  refine List.forall_mem_cons.mpr ⟨s_iload_n C (by decide +kernel : decode c_X10_refuses 21 = .ok (.iload_n 2, 1)) rfl rfl rfl, ?_⟩
  refine List.forall_mem_cons.mpr ⟨s_iret C (by decide +kernel : decode c_X10_refuses 22 = .ok (.ireturn, 1)) hret hlk ⟨Nat.le_refl 0, Nat.le_refl 0⟩, ?_⟩
  exact fun _ h => absurd h List.not_mem_nil
def sp_X10_bad : em_Sp := fun av hp Q => ∃ bk im kp asd rf qt ab be tx ty at9 st9 tk vl wd it mn so sb my we be9 rw fr, av = [.ref 0] ∧ hp = (wM bk im kp asd rf qt ab be tx ty at9 st9 tk vl wd it mn so sb my we be9 rw fr) ∧ Q (some (.int (-2))) (wM bk im kp asd (rfM qt rf 0) qt ab be tx ty at9 st9 tk vl wd it mn so sb my we be9 rw fr)
def T_X10_bad : List (Nat × em_Op) := [(0, o_aload 0 1), (1, o_iconst 0 2), (2, o_iconst (-2) 4), (4, o_call 3 (some 5) (sp_X10_refuses) 7), (7, o_iret)]
theorem me_X10_bad : em_Me T_X10_bad 1 sp_X10_bad := by
  intro Q K hK hle av hp hs
  obtain ⟨bk, im, kp, asd, rf, qt, ab, be, tx, ty, at9, st9, tk, vl, wd, it, mn, so, sb, my, we, be9, rw, fr, rfl, rfl, hq⟩ := hs
  exact ⟨Nat.le_of_ble_eq_true rfl, hK 0 9999 0 _ _ _ ⟨_, _, _, _, _, _, _, _, _, _, _, _, _, _, _, _, _, _, _, _, _, _, _, _, 0, _, rfl, rfl, by decide, hq⟩⟩
abbrev rm_X10_bad : Room := { frames := 1, cells := 0, slots := 0, locals := 22 }
set_option maxRecDepth 100000 in
set_option maxHeartbeats 4000000 in
theorem ct_X10_bad (l : Launch) (D : va_G) (dA : Nat → ClassId) (σ : Nat → Nat) : em_CT l D em_cl dA σ (em_F σ) y_X10_bad c_X10_bad 1 (Option.some ClassFile.FieldType.int) rm_X10_bad (sp_X10_bad ) := by
  refine em_CT_of (T := T_X10_bad ) (em_F_ok σ) (by decide) (fun p e s m args below meth c A ρ Q C hFok hF hret hlk hin => ?_) (me_X10_bad )
  unfold T_X10_bad
  refine List.forall_mem_cons.mpr ⟨s_aload_n C (by decide +kernel : decode c_X10_bad 0 = .ok (.aload_n 0, 1)) rfl rfl rfl, ?_⟩
  refine List.forall_mem_cons.mpr ⟨s_iconst C (by decide +kernel : decode c_X10_bad 1 = .ok (.iconst 0, 1)) rfl rfl (by decide), ?_⟩
  refine List.forall_mem_cons.mpr ⟨s_bipush C (by decide +kernel : decode c_X10_bad 2 = .ok (.bipush (-2), 2)) rfl rfl (by decide), ?_⟩
  refine List.forall_mem_cons.mpr ⟨s_callV C hFok hF (ct_X10_refuses l D dA σ) ⟨rfl, rfl⟩ ew783 em_cl_X10 ew780 ew782 ewp14 ew6 ⟨by decide, by decide, by decide +kernel⟩ ⟨by decide, by decide⟩ (by decide +kernel : decode c_X10_bad 4 = .ok (.invokevirtual 65, 3)) rfl rfl ⟨Nat.zero_le _, Nat.zero_le _⟩, ?_⟩
  refine List.forall_mem_cons.mpr ⟨s_iret C (by decide +kernel : decode c_X10_bad 7 = .ok (.ireturn, 1)) hret hlk ⟨Nat.le_refl 0, Nat.le_refl 0⟩, ?_⟩
  exact fun _ h => absurd h List.not_mem_nil
def sp_X10_no : em_Sp := fun av hp Q => ∃ bk im kp asd rf qt ab be tx ty at9 st9 tk vl wd it mn so sb my we be9 rw fr, av = [.ref 0] ∧ hp = (wM bk im kp asd rf qt ab be tx ty at9 st9 tk vl wd it mn so sb my we be9 rw fr) ∧ Q (some (.int (-3))) (wM bk im kp asd (rfM qt rf 1) qt ab be tx ty at9 st9 tk vl wd it mn so sb my we be9 rw fr)
def T_X10_no : List (Nat × em_Op) := [(0, o_aload 0 1), (1, o_iconst 1 2), (2, o_iconst (-3) 4), (4, o_call 3 (some 5) (sp_X10_refuses) 7), (7, o_iret)]
theorem me_X10_no : em_Me T_X10_no 1 sp_X10_no := by
  intro Q K hK hle av hp hs
  obtain ⟨bk, im, kp, asd, rf, qt, ab, be, tx, ty, at9, st9, tk, vl, wd, it, mn, so, sb, my, we, be9, rw, fr, rfl, rfl, hq⟩ := hs
  exact ⟨Nat.le_of_ble_eq_true rfl, hK 0 9999 0 _ _ _ ⟨_, _, _, _, _, _, _, _, _, _, _, _, _, _, _, _, _, _, _, _, _, _, _, _, 1, _, rfl, rfl, by decide, hq⟩⟩
abbrev rm_X10_no : Room := { frames := 1, cells := 0, slots := 0, locals := 22 }
set_option maxRecDepth 100000 in
set_option maxHeartbeats 4000000 in
theorem ct_X10_no (l : Launch) (D : va_G) (dA : Nat → ClassId) (σ : Nat → Nat) : em_CT l D em_cl dA σ (em_F σ) y_X10_no c_X10_no 1 (Option.some ClassFile.FieldType.int) rm_X10_no (sp_X10_no ) := by
  refine em_CT_of (T := T_X10_no ) (em_F_ok σ) (by decide) (fun p e s m args below meth c A ρ Q C hFok hF hret hlk hin => ?_) (me_X10_no )
  unfold T_X10_no
  refine List.forall_mem_cons.mpr ⟨s_aload_n C (by decide +kernel : decode c_X10_no 0 = .ok (.aload_n 0, 1)) rfl rfl rfl, ?_⟩
  refine List.forall_mem_cons.mpr ⟨s_iconst C (by decide +kernel : decode c_X10_no 1 = .ok (.iconst 1, 1)) rfl rfl (by decide), ?_⟩
  refine List.forall_mem_cons.mpr ⟨s_bipush C (by decide +kernel : decode c_X10_no 2 = .ok (.bipush (-3), 2)) rfl rfl (by decide), ?_⟩
  refine List.forall_mem_cons.mpr ⟨s_callV C hFok hF (ct_X10_refuses l D dA σ) ⟨rfl, rfl⟩ ew783 em_cl_X10 ew780 ew782 ewp14 ew6 ⟨by decide, by decide, by decide +kernel⟩ ⟨by decide, by decide⟩ (by decide +kernel : decode c_X10_no 4 = .ok (.invokevirtual 65, 3)) rfl rfl ⟨Nat.zero_le _, Nat.zero_le _⟩, ?_⟩
  refine List.forall_mem_cons.mpr ⟨s_iret C (by decide +kernel : decode c_X10_no 7 = .ok (.ireturn, 1)) hret hlk ⟨Nat.le_refl 0, Nat.le_refl 0⟩, ?_⟩
  exact fun _ h => absurd h List.not_mem_nil
def sp_X10_full : em_Sp := fun av hp Q => ∃ bk im kp asd rf qt ab be tx ty at9 st9 tk vl wd it mn so sb my we be9 rw fr, av = [.ref 0] ∧ hp = (wM bk im kp asd rf qt ab be tx ty at9 st9 tk vl wd it mn so sb my we be9 rw fr) ∧ Q (some (.int (-4))) (wM bk im kp asd (rfM qt rf 2) qt ab be tx ty at9 st9 tk vl wd it mn so sb my we be9 rw fr)
def T_X10_full : List (Nat × em_Op) := [(0, o_aload 0 1), (1, o_iconst 2 2), (2, o_iconst (-4) 4), (4, o_call 3 (some 5) (sp_X10_refuses) 7), (7, o_iret)]
theorem me_X10_full : em_Me T_X10_full 1 sp_X10_full := by
  intro Q K hK hle av hp hs
  obtain ⟨bk, im, kp, asd, rf, qt, ab, be, tx, ty, at9, st9, tk, vl, wd, it, mn, so, sb, my, we, be9, rw, fr, rfl, rfl, hq⟩ := hs
  exact ⟨Nat.le_of_ble_eq_true rfl, hK 0 9999 0 _ _ _ ⟨_, _, _, _, _, _, _, _, _, _, _, _, _, _, _, _, _, _, _, _, _, _, _, _, 2, _, rfl, rfl, by decide, hq⟩⟩
abbrev rm_X10_full : Room := { frames := 1, cells := 0, slots := 0, locals := 22 }
set_option maxRecDepth 100000 in
set_option maxHeartbeats 4000000 in
theorem ct_X10_full (l : Launch) (D : va_G) (dA : Nat → ClassId) (σ : Nat → Nat) : em_CT l D em_cl dA σ (em_F σ) y_X10_full c_X10_full 1 (Option.some ClassFile.FieldType.int) rm_X10_full (sp_X10_full ) := by
  refine em_CT_of (T := T_X10_full ) (em_F_ok σ) (by decide) (fun p e s m args below meth c A ρ Q C hFok hF hret hlk hin => ?_) (me_X10_full )
  unfold T_X10_full
  refine List.forall_mem_cons.mpr ⟨s_aload_n C (by decide +kernel : decode c_X10_full 0 = .ok (.aload_n 0, 1)) rfl rfl rfl, ?_⟩
  refine List.forall_mem_cons.mpr ⟨s_iconst C (by decide +kernel : decode c_X10_full 1 = .ok (.iconst 2, 1)) rfl rfl (by decide), ?_⟩
  refine List.forall_mem_cons.mpr ⟨s_bipush C (by decide +kernel : decode c_X10_full 2 = .ok (.bipush (-4), 2)) rfl rfl (by decide), ?_⟩
  refine List.forall_mem_cons.mpr ⟨s_callV C hFok hF (ct_X10_refuses l D dA σ) ⟨rfl, rfl⟩ ew783 em_cl_X10 ew780 ew782 ewp14 ew6 ⟨by decide, by decide, by decide +kernel⟩ ⟨by decide, by decide⟩ (by decide +kernel : decode c_X10_full 4 = .ok (.invokevirtual 65, 3)) rfl rfl ⟨Nat.zero_le _, Nat.zero_le _⟩, ?_⟩
  refine List.forall_mem_cons.mpr ⟨s_iret C (by decide +kernel : decode c_X10_full 7 = .ok (.ireturn, 1)) hret hlk ⟨Nat.le_refl 0, Nat.le_refl 0⟩, ?_⟩
  exact fun _ h => absurd h List.not_mem_nil
def sp_X10_isPerson : em_Sp := fun av hp Q => ∃ bk im kp asd rf qt ab be tx ty at9 st9 tk vl wd it mn so sb my we be9 rw fr p n, av = [.ref 0, .int p] ∧ hp = (wM bk im kp asd rf qt ab be tx ty at9 st9 tk vl wd it mn so sb my we be9 rw fr) ∧ bk 0 = nI n ∧ n ≤ 6 ∧ (hs (nI n) p → Q (some (.int 1)) hp) ∧ (¬ hs (nI n) p → Q (some (.int 0)) hp)
def T_X10_isPerson : List (Nat × em_Op) := [(0, o_iload 1 1), (1, o_i2l 2), (2, o_lconst 0 3), (3, o_aload 0 4), (4, o_getf 5 0 7), (7, o_iconst 0 8), (8, o_aldI 0 9), (9, o_iconst 1 10), (10, o_isub 11), (11, o_i2l 12), (12, o_call 3 none (sp_X10_in) 15), (15, o_zret)]
theorem me_X10_isPerson : em_Me T_X10_isPerson 2 sp_X10_isPerson := by
  intro Q K hK hle av hp hs
  obtain ⟨bk, im, kp, asd, rf, qt, ab, be, tx, ty, at9, st9, tk, vl, wd, it, mn, so, sb, my, we, be9, rw, fr, p, n, rfl, rfl, hb, hn, h1, h0⟩ := hs
  refine ⟨Nat.le_of_ble_eq_true rfl, hK 0 9999 0 _ _ _ ?_⟩
  refine ⟨0, rfl, by decide, ?_⟩
  rw [hb]
  exact ⟨_, _, _, rfl, fun z => ⟨Or.inr rfl, h1 ((in_hs (by omega)).mp z)⟩, fun z => ⟨Or.inl rfl, h0 (fun q => z ((in_hs (by omega)).mpr q))⟩⟩
abbrev rm_X10_isPerson : Room := { frames := 1, cells := 0, slots := 0, locals := 25 }
set_option maxRecDepth 100000 in
set_option maxHeartbeats 4000000 in
theorem ct_X10_isPerson (l : Launch) (D : va_G) (dA : Nat → ClassId) (σ : Nat → Nat) : em_CT l D em_cl dA σ (em_F σ) y_X10_isPerson c_X10_isPerson 2 (Option.some ClassFile.FieldType.boolean) rm_X10_isPerson (sp_X10_isPerson ) := by
  refine em_CT_of (T := T_X10_isPerson ) (em_F_ok σ) (by decide) (fun p e s m args below meth c A ρ Q C hFok hF hret hlk hin => ?_) (me_X10_isPerson )
  unfold T_X10_isPerson
  refine List.forall_mem_cons.mpr ⟨s_iload_n C (by decide +kernel : decode c_X10_isPerson 0 = .ok (.iload_n 1, 1)) rfl rfl rfl, ?_⟩
  refine List.forall_mem_cons.mpr ⟨s_i2l C (by decide +kernel : decode c_X10_isPerson 1 = .ok (.i2l, 1)) rfl rfl, ?_⟩
  refine List.forall_mem_cons.mpr ⟨s_lconst C (by decide +kernel : decode c_X10_isPerson 2 = .ok (.lconst 0, 1)) rfl rfl (by decide), ?_⟩
  refine List.forall_mem_cons.mpr ⟨s_aload_n C (by decide +kernel : decode c_X10_isPerson 3 = .ok (.aload_n 0, 1)) rfl rfl rfl, ?_⟩
  refine List.forall_mem_cons.mpr ⟨s_getf C (by decide +kernel : decode c_X10_isPerson 4 = .ok (.getfield 7, 3)) rfl rfl em_cl_X10 (by decide) ew691 rfl, ?_⟩
  refine List.forall_mem_cons.mpr ⟨s_iconst C (by decide +kernel : decode c_X10_isPerson 7 = .ok (.iconst 0, 1)) rfl rfl (by decide), ?_⟩
  refine List.forall_mem_cons.mpr ⟨s_iald C (by decide +kernel : decode c_X10_isPerson 8 = .ok (.iaload, 1)) rfl rfl, ?_⟩
  refine List.forall_mem_cons.mpr ⟨s_iconst C (by decide +kernel : decode c_X10_isPerson 9 = .ok (.iconst 1, 1)) rfl rfl (by decide), ?_⟩
  refine List.forall_mem_cons.mpr ⟨s_isub C (by decide +kernel : decode c_X10_isPerson 10 = .ok (.isub, 1)) rfl rfl, ?_⟩
  refine List.forall_mem_cons.mpr ⟨s_i2l C (by decide +kernel : decode c_X10_isPerson 11 = .ok (.i2l, 1)) rfl rfl, ?_⟩
  refine List.forall_mem_cons.mpr ⟨s_callS C hFok hF (ct_X10_in l D dA σ) ⟨rfl, rfl⟩ ew771 ew769 ew770 ew6 ⟨by decide, by decide, by decide +kernel⟩ ⟨by decide, by decide⟩ (by decide +kernel : decode c_X10_isPerson 12 = .ok (.invokestatic 69, 3)) rfl rfl ⟨Nat.zero_le _, Nat.zero_le _⟩, ?_⟩
  refine List.forall_mem_cons.mpr ⟨s_zret C (by decide +kernel : decode c_X10_isPerson 15 = .ok (.ireturn, 1)) hret hlk ⟨Nat.le_refl 0, Nat.le_refl 0⟩, ?_⟩
  exact fun _ h => absurd h List.not_mem_nil
def sp_X10_areTwo : em_Sp := fun av hp Q => ∃ bk im kp asd rf qt ab be tx ty at9 st9 tk vl wd it mn so sb my we be9 rw fr a b n, av = [.ref 0, .int a, .int b] ∧ hp = (wM bk im kp asd rf qt ab be tx ty at9 st9 tk vl wd it mn so sb my we be9 rw fr) ∧ bk 0 = nI n ∧ n ≤ 6 ∧ (h2 (nI n) a b → Q (some (.int 1)) hp) ∧ (¬ h2 (nI n) a b → Q (some (.int 0)) hp)
def T_X10_areTwo : List (Nat × em_Op) := [(0, o_aload 0 1), (1, o_iload 1 2), (2, o_call 2 (some 5) (sp_X10_isPerson) 5), (5, o_ifeq 25 8), (8, o_aload 0 9), (9, o_iload 2 10), (10, o_call 2 (some 5) (sp_X10_isPerson) 13), (13, o_ifeq 25 16), (16, o_iload 1 17), (17, o_iload 2 18), (18, o_icmpeq 25 21), (21, o_iconst 1 22), (22, o_goto 26), (25, o_iconst 0 26), (26, o_zret)]
theorem me_X10_areTwo : em_Me T_X10_areTwo 3 sp_X10_areTwo := by
  intro Q K hK hle av hp hs
  obtain ⟨bk, im, kp, asd, rf, qt, ab, be, tx, ty, at9, st9, tk, vl, wd, it, mn, so, sb, my, we, be9, rw, fr, a, b, n, rfl, rfl, hb, hn, h1, h0⟩ := hs
  refine ⟨Nat.le_of_ble_eq_true rfl, hK 0 9999 0 _ _ _ ?_⟩
  refine ⟨_, _, _, _, _, _, _, _, _, _, _, _, _, _, _, _, _, _, _, _, _, _, _, _, _, n, rfl, rfl, hb, hn, fun z1 => ?_, fun z1 => ?_⟩
  · refine ⟨fun z => absurd z (by decide), fun _ => ?_⟩
    refine ⟨_, _, _, _, _, _, _, _, _, _, _, _, _, _, _, _, _, _, _, _, _, _, _, _, _, n, rfl, rfl, hb, hn, fun z2 => ?_, fun z2 => ?_⟩
    · refine ⟨fun z => absurd z (by decide), fun _ => ?_⟩
      exact ⟨fun z => ⟨Or.inl rfl, h0 (fun y => y.2.2 z)⟩, fun z => ⟨Or.inr rfl, h1 ⟨z1, z2, z⟩⟩⟩
    · exact ⟨fun _ => ⟨Or.inl rfl, h0 (fun y => z2 y.2.1)⟩, fun z => absurd z (by decide)⟩
  · exact ⟨fun _ => ⟨Or.inl rfl, h0 (fun y => z1 y.1)⟩, fun z => absurd z (by decide)⟩
abbrev rm_X10_areTwo : Room := { frames := 2, cells := 0, slots := 0, locals := 46 }
set_option maxRecDepth 100000 in
set_option maxHeartbeats 4000000 in
theorem ct_X10_areTwo (l : Launch) (D : va_G) (dA : Nat → ClassId) (σ : Nat → Nat) : em_CT l D em_cl dA σ (em_F σ) y_X10_areTwo c_X10_areTwo 3 (Option.some ClassFile.FieldType.boolean) rm_X10_areTwo (sp_X10_areTwo ) := by
  refine em_CT_of (T := T_X10_areTwo ) (em_F_ok σ) (by decide) (fun p e s m args below meth c A ρ Q C hFok hF hret hlk hin => ?_) (me_X10_areTwo )
  unfold T_X10_areTwo
  refine List.forall_mem_cons.mpr ⟨s_aload_n C (by decide +kernel : decode c_X10_areTwo 0 = .ok (.aload_n 0, 1)) rfl rfl rfl, ?_⟩
  refine List.forall_mem_cons.mpr ⟨s_iload_n C (by decide +kernel : decode c_X10_areTwo 1 = .ok (.iload_n 1, 1)) rfl rfl rfl, ?_⟩
  refine List.forall_mem_cons.mpr ⟨s_callV C hFok hF (ct_X10_isPerson l D dA σ) ⟨rfl, rfl⟩ ew795 em_cl_X10 ew792 ew794 ewp16 ew6 ⟨by decide, by decide, by decide +kernel⟩ ⟨by decide, by decide⟩ (by decide +kernel : decode c_X10_areTwo 2 = .ok (.invokevirtual 73, 3)) rfl rfl ⟨Nat.zero_le _, Nat.zero_le _⟩, ?_⟩
  refine List.forall_mem_cons.mpr ⟨s_ifeq C (by decide +kernel : decode c_X10_areTwo 5 = .ok (.ifCond .eq 20, 3)) (by decide) rfl rfl rfl, ?_⟩
  refine List.forall_mem_cons.mpr ⟨s_aload_n C (by decide +kernel : decode c_X10_areTwo 8 = .ok (.aload_n 0, 1)) rfl rfl rfl, ?_⟩
  refine List.forall_mem_cons.mpr ⟨s_iload_n C (by decide +kernel : decode c_X10_areTwo 9 = .ok (.iload_n 2, 1)) rfl rfl rfl, ?_⟩
  refine List.forall_mem_cons.mpr ⟨s_callV C hFok hF (ct_X10_isPerson l D dA σ) ⟨rfl, rfl⟩ ew795 em_cl_X10 ew792 ew794 ewp16 ew6 ⟨by decide, by decide, by decide +kernel⟩ ⟨by decide, by decide⟩ (by decide +kernel : decode c_X10_areTwo 10 = .ok (.invokevirtual 73, 3)) rfl rfl ⟨Nat.zero_le _, Nat.zero_le _⟩, ?_⟩
  refine List.forall_mem_cons.mpr ⟨s_ifeq C (by decide +kernel : decode c_X10_areTwo 13 = .ok (.ifCond .eq 12, 3)) (by decide) rfl rfl rfl, ?_⟩
  refine List.forall_mem_cons.mpr ⟨s_iload_n C (by decide +kernel : decode c_X10_areTwo 16 = .ok (.iload_n 1, 1)) rfl rfl rfl, ?_⟩
  refine List.forall_mem_cons.mpr ⟨s_iload_n C (by decide +kernel : decode c_X10_areTwo 17 = .ok (.iload_n 2, 1)) rfl rfl rfl, ?_⟩
  refine List.forall_mem_cons.mpr ⟨s_icmpeq C (by decide +kernel : decode c_X10_areTwo 18 = .ok (.if_icmp .eq 7, 3)) (by decide) rfl rfl rfl, ?_⟩
  refine List.forall_mem_cons.mpr ⟨s_iconst C (by decide +kernel : decode c_X10_areTwo 21 = .ok (.iconst 1, 1)) rfl rfl (by decide), ?_⟩
  refine List.forall_mem_cons.mpr ⟨s_goto C (by decide +kernel : decode c_X10_areTwo 22 = .ok (.goto 4, 3)) (by decide) rfl, ?_⟩
  refine List.forall_mem_cons.mpr ⟨s_iconst C (by decide +kernel : decode c_X10_areTwo 25 = .ok (.iconst 0, 1)) rfl rfl (by decide), ?_⟩
  refine List.forall_mem_cons.mpr ⟨s_zret C (by decide +kernel : decode c_X10_areTwo 26 = .ok (.ireturn, 1)) hret hlk ⟨Nat.le_refl 0, Nat.le_refl 0⟩, ?_⟩
  exact fun _ h => absurd h List.not_mem_nil
def sp_X10_isSet : em_Sp := fun av hp Q => ∃ k, av = [.int k] ∧ (iss k → Q (some (.int 1)) hp) ∧ (¬ iss k → Q (some (.int 0)) hp)
def T_X10_isSet : List (Nat × em_Op) := [(0, o_iload 0 1), (1, o_i2l 2), (2, o_lconst 0 3), (3, o_lconst 1023 6), (6, o_call 3 none (sp_X10_in) 9), (9, o_zret)]
theorem me_X10_isSet : em_Me T_X10_isSet 1 sp_X10_isSet := by
  intro Q K hK hle av hp hs
  obtain ⟨k, rfl, h1, h0⟩ := hs
  refine ⟨Nat.le_of_ble_eq_true rfl, hK 0 9999 0 _ _ _ ?_⟩
  exact ⟨_, _, _, rfl, fun z => ⟨Or.inr rfl, h1 (in_iss.mp z)⟩, fun z => ⟨Or.inl rfl, h0 (fun q => z (in_iss.mpr q))⟩⟩
abbrev rm_X10_isSet : Room := { frames := 1, cells := 0, slots := 0, locals := 25 }
set_option maxRecDepth 100000 in
set_option maxHeartbeats 4000000 in
theorem ct_X10_isSet (l : Launch) (D : va_G) (dA : Nat → ClassId) (σ : Nat → Nat) : em_CT l D em_cl dA σ (em_F σ) y_X10_isSet c_X10_isSet 1 (Option.some ClassFile.FieldType.boolean) rm_X10_isSet (sp_X10_isSet ) := by
  refine em_CT_of (T := T_X10_isSet ) (em_F_ok σ) (by decide) (fun p e s m args below meth c A ρ Q C hFok hF hret hlk hin => ?_) (me_X10_isSet )
  unfold T_X10_isSet
  refine List.forall_mem_cons.mpr ⟨s_iload_n C (by decide +kernel : decode c_X10_isSet 0 = .ok (.iload_n 0, 1)) rfl rfl rfl, ?_⟩
  refine List.forall_mem_cons.mpr ⟨s_i2l C (by decide +kernel : decode c_X10_isSet 1 = .ok (.i2l, 1)) rfl rfl, ?_⟩
  refine List.forall_mem_cons.mpr ⟨s_lconst C (by decide +kernel : decode c_X10_isSet 2 = .ok (.lconst 0, 1)) rfl rfl (by decide), ?_⟩
  refine List.forall_mem_cons.mpr ⟨s_ldc2 C (by decide +kernel : decode c_X10_isSet 3 = .ok (.ldc2_w 77, 3)) rfl rfl ew775, ?_⟩
  refine List.forall_mem_cons.mpr ⟨s_callS C hFok hF (ct_X10_in l D dA σ) ⟨rfl, rfl⟩ ew771 ew769 ew770 ew6 ⟨by decide, by decide, by decide +kernel⟩ ⟨by decide, by decide⟩ (by decide +kernel : decode c_X10_isSet 6 = .ok (.invokestatic 69, 3)) rfl rfl ⟨Nat.zero_le _, Nat.zero_le _⟩, ?_⟩
  refine List.forall_mem_cons.mpr ⟨s_zret C (by decide +kernel : decode c_X10_isSet 9 = .ok (.ireturn, 1)) hret hlk ⟨Nat.le_refl 0, Nat.le_refl 0⟩, ?_⟩
  exact fun _ h => absurd h List.not_mem_nil
def sp_X10_puts : em_Sp := fun av hp Q => ∃ bk im kp asd rf qt ab be tx ty at9 st9 tk vl wd it mn so sb my we be9 rw fr i v, av = [.ref 0, .int (nI i), .int v] ∧ hp = (wM bk im kp asd rf qt ab be tx ty at9 st9 tk vl wd it mn so sb my we be9 rw fr) ∧ i < 146 ∧ Q (some (.int (bk i))) (wM (upd bk i v) im kp asd rf qt ab be tx ty at9 st9 tk vl wd it mn so sb my we be9 rw fr)
def T_X10_puts : List (Nat × em_Op) := [(0, o_aload 0 1), (1, o_getf 5 0 4), (4, o_iload 1 5), (5, o_aldI 0 6), (6, o_istore 3 7), (7, o_aload 0 8), (8, o_getf 5 0 11), (11, o_iload 1 12), (12, o_iload 2 13), (13, o_iast 14), (14, o_iload 3 15), (15, o_iret)]
theorem me_X10_puts : em_Me T_X10_puts 4 sp_X10_puts := by
  intro Q K hK hle av hp hs
  obtain ⟨bk, im, kp, asd, rf, qt, ab, be, tx, ty, at9, st9, tk, vl, wd, it, mn, so, sb, my, we, be9, rw, fr, i, v, rfl, rfl, hi, hq⟩ := hs
  exact ⟨Nat.le_of_ble_eq_true rfl, hK 0 9999 0 _ _ _ ⟨i, rfl, hi, i, rfl, hi, hq⟩⟩
abbrev rm_X10_puts : Room := { frames := 0, cells := 0, slots := 0, locals := 0 }
set_option maxRecDepth 100000 in
set_option maxHeartbeats 4000000 in
theorem ct_X10_puts (l : Launch) (D : va_G) (dA : Nat → ClassId) (σ : Nat → Nat) : em_CT l D em_cl dA σ (em_F σ) y_X10_puts c_X10_puts 4 (Option.some ClassFile.FieldType.int) rm_X10_puts (sp_X10_puts ) := by
  refine em_CT_of (T := T_X10_puts ) (em_F_ok σ) (by decide) (fun p e s m args below meth c A ρ Q C hFok hF hret hlk hin => ?_) (me_X10_puts )
  unfold T_X10_puts
  refine List.forall_mem_cons.mpr ⟨s_aload_n C (by decide +kernel : decode c_X10_puts 0 = .ok (.aload_n 0, 1)) rfl rfl rfl, ?_⟩
  refine List.forall_mem_cons.mpr ⟨s_getf C (by decide +kernel : decode c_X10_puts 1 = .ok (.getfield 7, 3)) rfl rfl em_cl_X10 (by decide) ew691 rfl, ?_⟩
  refine List.forall_mem_cons.mpr ⟨s_iload_n C (by decide +kernel : decode c_X10_puts 4 = .ok (.iload_n 1, 1)) rfl rfl rfl, ?_⟩
  refine List.forall_mem_cons.mpr ⟨s_iald C (by decide +kernel : decode c_X10_puts 5 = .ok (.iaload, 1)) rfl rfl, ?_⟩
  refine List.forall_mem_cons.mpr ⟨s_istore_n C (by decide +kernel : decode c_X10_puts 6 = .ok (.istore_n 3, 1)) rfl rfl rfl (by decide), ?_⟩
  refine List.forall_mem_cons.mpr ⟨s_aload_n C (by decide +kernel : decode c_X10_puts 7 = .ok (.aload_n 0, 1)) rfl rfl rfl, ?_⟩
  refine List.forall_mem_cons.mpr ⟨s_getf C (by decide +kernel : decode c_X10_puts 8 = .ok (.getfield 7, 3)) rfl rfl em_cl_X10 (by decide) ew691 rfl, ?_⟩
  refine List.forall_mem_cons.mpr ⟨s_iload_n C (by decide +kernel : decode c_X10_puts 11 = .ok (.iload_n 1, 1)) rfl rfl rfl, ?_⟩
  refine List.forall_mem_cons.mpr ⟨s_iload_n C (by decide +kernel : decode c_X10_puts 12 = .ok (.iload_n 2, 1)) rfl rfl rfl, ?_⟩
  refine List.forall_mem_cons.mpr ⟨s_iast C (by decide +kernel : decode c_X10_puts 13 = .ok (.iastore, 1)) rfl rfl, ?_⟩
  refine List.forall_mem_cons.mpr ⟨s_iload_n C (by decide +kernel : decode c_X10_puts 14 = .ok (.iload_n 3, 1)) rfl rfl rfl, ?_⟩
  refine List.forall_mem_cons.mpr ⟨s_iret C (by decide +kernel : decode c_X10_puts 15 = .ok (.ireturn, 1)) hret hlk ⟨Nat.le_refl 0, Nat.le_refl 0⟩, ?_⟩
  exact fun _ h => absurd h List.not_mem_nil
def sp_X10_person : em_Sp := fun av hp Q => ∃ bk im kp asd rf qt ab be tx ty at9 st9 tk vl wd it mn so sb my we be9 rw fr k o n, av = [.ref 0, .int k, .int o] ∧ hp = (wM bk im kp asd rf qt ab be tx ty at9 st9 tk vl wd it mn so sb my we be9 rw fr) ∧ bk 0 = nI n ∧ n ≤ 6 ∧ (¬ (isk k ∧ iss o) → Q (some (.int (-2))) (wM bk im kp asd (rfM qt rf 0) qt ab be tx ty at9 st9 tk vl wd it mn so sb my we be9 rw fr)) ∧ (isk k → iss o → n = 6 → Q (some (.int (-4))) (wM bk im kp asd (rfM qt rf 2) qt ab be tx ty at9 st9 tk vl wd it mn so sb my we be9 rw fr)) ∧ (isk k → iss o → n < 6 → Q (some (.int (nI n))) (wM (upd (upd (upd (upd (upd bk (8 + n) k) (14 + n) o) (20 + n) o) 0 (nI (n + 1))) 3 0) im kp asd rf qt ab be tx ty at9 st9 tk vl wd it mn so sb my we be9 rw fr))
def T_X10_person : List (Nat × em_Op) := [(0, o_iload 1 1), (1, o_i2l 2), (2, o_lconst 0 3), (3, o_lconst 5 6), (6, o_call 3 none (sp_X10_in) 9), (9, o_ifeq 19 12), (12, o_iload 2 13), (13, o_call 1 none (sp_X10_isSet) 16), (16, o_ifne 24 19), (19, o_aload 0 20), (20, o_call 1 (some 5) (sp_X10_bad) 23), (23, o_iret), (24, o_aload 0 25), (25, o_getf 5 0 28), (28, o_iconst 0 29), (29, o_aldI 0 30), (30, o_iconst 6 32), (32, o_icmpne 40 35), (35, o_aload 0 36), (36, o_call 1 (some 5) (sp_X10_full) 39), (39, o_iret), (40, o_aload 0 41), (41, o_getf 5 0 44), (44, o_iconst 0 45), (45, o_aldI 0 46), (46, o_istore 3 47), (47, o_aload 0 48), (48, o_getf 5 0 51), (51, o_iconst 8 53), (53, o_iload 3 54), (54, o_iadd 55), (55, o_iload 1 56), (56, o_iast 57), (57, o_aload 0 58), (58, o_getf 5 0 61), (61, o_iconst 14 63), (63, o_iload 3 64), (64, o_iadd 65), (65, o_iload 2 66), (66, o_iast 67), (67, o_aload 0 68), (68, o_getf 5 0 71), (71, o_iconst 20 73), (73, o_iload 3 74), (74, o_iadd 75), (75, o_iload 2 76), (76, o_iast 77), (77, o_aload 0 78), (78, o_getf 5 0 81), (81, o_iconst 0 82), (82, o_dup2 83), (83, o_aldI 0 84), (84, o_iconst 1 85), (85, o_iadd 86), (86, o_iast 87), (87, o_aload 0 88), (88, o_getf 5 0 91), (91, o_iconst 3 92), (92, o_iconst 0 93), (93, o_iast 94), (94, o_iload 3 95), (95, o_iret)]
theorem me_X10_person : em_Me T_X10_person 4 sp_X10_person := by
  intro Q K hK hle av hp hs
  obtain ⟨bk, im, kp, asd, rf, qt, ab, be, tx, ty, at9, st9, tk, vl, wd, it, mn, so, sb, my, we, be9, rw, fr, k, o, n, rfl, rfl, hb, hn, hbad, hf, hq⟩ := hs
  refine ⟨Nat.le_of_ble_eq_true rfl, hK 0 9999 0 _ _ _ ?_⟩
  refine ⟨_, _, _, rfl, fun z1 => ?_, fun z1 => ?_⟩
  · refine ⟨fun z => absurd z (by decide), fun _ => ?_⟩
    refine ⟨_, rfl, fun z2 => ?_, fun z2 => ?_⟩
    · refine ⟨fun _ => ?_, fun z => absurd z (by decide)⟩
      have z1 := in_isk.mp z1
      refine ⟨0, rfl, by decide, fun z => ?_, fun z => ?_⟩
      · have h6 : n < 6 := by
          rcases Nat.lt_or_ge n 6 with q | q
          · exact q
          · exact absurd (by rw [hb, show n = 6 by omega]; rfl) z
        refine ⟨0, rfl, by decide, ?_⟩
        rw [hb]
        have hq := hq z1 z2 h6
        have e0 : upd (upd (upd bk (8 + n) k) (14 + n) o) (20 + n) o 0 = nI n := by
          rw [pk_un (by omega), pk_un (by omega), pk_un (by omega), hb]
        rw [← nI_1 n, ← e0] at hq
        refine ⟨8 + n, nI_add 8 n, by omega, 14 + n, nI_add 14 n, by omega, 20 + n, nI_add 20 n, by omega, 0, rfl, by decide, 0, rfl, by decide, 3, rfl, by decide, ?_⟩
        rw [e0] at hq ⊢
        exact hq
      · have h6 : n = 6 := by
          rw [hb] at z
          exact (nI_eq (b := 6) (by omega) (by omega)).mp z
        exact ⟨_, _, _, _, _, _, _, _, _, _, _, _, _, _, _, _, _, _, _, _, _, _, _, _, rfl, rfl, hf z1 z2 h6⟩
    · refine ⟨fun z => absurd rfl z, fun _ => ?_⟩
      exact ⟨_, _, _, _, _, _, _, _, _, _, _, _, _, _, _, _, _, _, _, _, _, _, _, _, rfl, rfl, hbad (fun q => z2 q.2)⟩
  · refine ⟨fun _ => ?_, fun z => absurd z (by decide)⟩
    exact ⟨_, _, _, _, _, _, _, _, _, _, _, _, _, _, _, _, _, _, _, _, _, _, _, _, rfl, rfl, hbad (fun q => z1 (in_isk.mpr q.1))⟩
abbrev rm_X10_person : Room := { frames := 2, cells := 0, slots := 0, locals := 45 }
set_option maxRecDepth 100000 in
set_option maxHeartbeats 4000000 in
theorem ct_X10_person (l : Launch) (D : va_G) (dA : Nat → ClassId) (σ : Nat → Nat) : em_CT l D em_cl dA σ (em_F σ) y_X10_person c_X10_person 4 (Option.some ClassFile.FieldType.int) rm_X10_person (sp_X10_person ) := by
  refine em_CT_of (T := T_X10_person ) (em_F_ok σ) (by decide) (fun p e s m args below meth c A ρ Q C hFok hF hret hlk hin => ?_) (me_X10_person )
  unfold T_X10_person
  refine List.forall_mem_cons.mpr ⟨s_iload_n C (by decide +kernel : decode c_X10_person 0 = .ok (.iload_n 1, 1)) rfl rfl rfl, ?_⟩
  refine List.forall_mem_cons.mpr ⟨s_i2l C (by decide +kernel : decode c_X10_person 1 = .ok (.i2l, 1)) rfl rfl, ?_⟩
  refine List.forall_mem_cons.mpr ⟨s_lconst C (by decide +kernel : decode c_X10_person 2 = .ok (.lconst 0, 1)) rfl rfl (by decide), ?_⟩
  refine List.forall_mem_cons.mpr ⟨s_ldc2 C (by decide +kernel : decode c_X10_person 3 = .ok (.ldc2_w 79, 3)) rfl rfl ew768, ?_⟩
  refine List.forall_mem_cons.mpr ⟨s_callS C hFok hF (ct_X10_in l D dA σ) ⟨rfl, rfl⟩ ew771 ew769 ew770 ew6 ⟨by decide, by decide, by decide +kernel⟩ ⟨by decide, by decide⟩ (by decide +kernel : decode c_X10_person 6 = .ok (.invokestatic 69, 3)) rfl rfl ⟨Nat.zero_le _, Nat.zero_le _⟩, ?_⟩
  refine List.forall_mem_cons.mpr ⟨s_ifeq C (by decide +kernel : decode c_X10_person 9 = .ok (.ifCond .eq 10, 3)) (by decide) rfl rfl rfl, ?_⟩
  refine List.forall_mem_cons.mpr ⟨s_iload_n C (by decide +kernel : decode c_X10_person 12 = .ok (.iload_n 2, 1)) rfl rfl rfl, ?_⟩
  refine List.forall_mem_cons.mpr ⟨s_callS C hFok hF (ct_X10_isSet l D dA σ) ⟨rfl, rfl⟩ ew774 ew772 ew773 ew6 ⟨by decide, by decide, by decide +kernel⟩ ⟨by decide, by decide⟩ (by decide +kernel : decode c_X10_person 13 = .ok (.invokestatic 81, 3)) rfl rfl ⟨Nat.zero_le _, Nat.zero_le _⟩, ?_⟩
  refine List.forall_mem_cons.mpr ⟨s_ifne C (by decide +kernel : decode c_X10_person 16 = .ok (.ifCond .ne 8, 3)) (by decide) rfl rfl rfl, ?_⟩
  refine List.forall_mem_cons.mpr ⟨s_aload_n C (by decide +kernel : decode c_X10_person 19 = .ok (.aload_n 0, 1)) rfl rfl rfl, ?_⟩
  refine List.forall_mem_cons.mpr ⟨s_callV C hFok hF (ct_X10_bad l D dA σ) ⟨rfl, rfl⟩ ew779 em_cl_X10 ew776 ew778 ewp13 ew6 ⟨by decide, by decide, by decide +kernel⟩ ⟨by decide, by decide⟩ (by decide +kernel : decode c_X10_person 20 = .ok (.invokevirtual 84, 3)) rfl rfl ⟨Nat.zero_le _, Nat.zero_le _⟩, ?_⟩
  refine List.forall_mem_cons.mpr ⟨s_iret C (by decide +kernel : decode c_X10_person 23 = .ok (.ireturn, 1)) hret hlk ⟨Nat.le_refl 0, Nat.le_refl 0⟩, ?_⟩
  refine List.forall_mem_cons.mpr ⟨s_aload_n C (by decide +kernel : decode c_X10_person 24 = .ok (.aload_n 0, 1)) rfl rfl rfl, ?_⟩
  refine List.forall_mem_cons.mpr ⟨s_getf C (by decide +kernel : decode c_X10_person 25 = .ok (.getfield 7, 3)) rfl rfl em_cl_X10 (by decide) ew691 rfl, ?_⟩
  refine List.forall_mem_cons.mpr ⟨s_iconst C (by decide +kernel : decode c_X10_person 28 = .ok (.iconst 0, 1)) rfl rfl (by decide), ?_⟩
  refine List.forall_mem_cons.mpr ⟨s_iald C (by decide +kernel : decode c_X10_person 29 = .ok (.iaload, 1)) rfl rfl, ?_⟩
  refine List.forall_mem_cons.mpr ⟨s_bipush C (by decide +kernel : decode c_X10_person 30 = .ok (.bipush 6, 2)) rfl rfl (by decide), ?_⟩
  refine List.forall_mem_cons.mpr ⟨s_icmpne C (by decide +kernel : decode c_X10_person 32 = .ok (.if_icmp .ne 8, 3)) (by decide) rfl rfl rfl, ?_⟩
  refine List.forall_mem_cons.mpr ⟨s_aload_n C (by decide +kernel : decode c_X10_person 35 = .ok (.aload_n 0, 1)) rfl rfl rfl, ?_⟩
  refine List.forall_mem_cons.mpr ⟨s_callV C hFok hF (ct_X10_full l D dA σ) ⟨rfl, rfl⟩ ew787 em_cl_X10 ew784 ew786 ewp15 ew6 ⟨by decide, by decide, by decide +kernel⟩ ⟨by decide, by decide⟩ (by decide +kernel : decode c_X10_person 36 = .ok (.invokevirtual 88, 3)) rfl rfl ⟨Nat.zero_le _, Nat.zero_le _⟩, ?_⟩
  refine List.forall_mem_cons.mpr ⟨s_iret C (by decide +kernel : decode c_X10_person 39 = .ok (.ireturn, 1)) hret hlk ⟨Nat.le_refl 0, Nat.le_refl 0⟩, ?_⟩
  refine List.forall_mem_cons.mpr ⟨s_aload_n C (by decide +kernel : decode c_X10_person 40 = .ok (.aload_n 0, 1)) rfl rfl rfl, ?_⟩
  refine List.forall_mem_cons.mpr ⟨s_getf C (by decide +kernel : decode c_X10_person 41 = .ok (.getfield 7, 3)) rfl rfl em_cl_X10 (by decide) ew691 rfl, ?_⟩
  refine List.forall_mem_cons.mpr ⟨s_iconst C (by decide +kernel : decode c_X10_person 44 = .ok (.iconst 0, 1)) rfl rfl (by decide), ?_⟩
  refine List.forall_mem_cons.mpr ⟨s_iald C (by decide +kernel : decode c_X10_person 45 = .ok (.iaload, 1)) rfl rfl, ?_⟩
  refine List.forall_mem_cons.mpr ⟨s_istore_n C (by decide +kernel : decode c_X10_person 46 = .ok (.istore_n 3, 1)) rfl rfl rfl (by decide), ?_⟩
  refine List.forall_mem_cons.mpr ⟨s_aload_n C (by decide +kernel : decode c_X10_person 47 = .ok (.aload_n 0, 1)) rfl rfl rfl, ?_⟩
  refine List.forall_mem_cons.mpr ⟨s_getf C (by decide +kernel : decode c_X10_person 48 = .ok (.getfield 7, 3)) rfl rfl em_cl_X10 (by decide) ew691 rfl, ?_⟩
  refine List.forall_mem_cons.mpr ⟨s_bipush C (by decide +kernel : decode c_X10_person 51 = .ok (.bipush 8, 2)) rfl rfl (by decide), ?_⟩
  refine List.forall_mem_cons.mpr ⟨s_iload_n C (by decide +kernel : decode c_X10_person 53 = .ok (.iload_n 3, 1)) rfl rfl rfl, ?_⟩
  refine List.forall_mem_cons.mpr ⟨s_iadd C (by decide +kernel : decode c_X10_person 54 = .ok (.iadd, 1)) rfl rfl, ?_⟩
  refine List.forall_mem_cons.mpr ⟨s_iload_n C (by decide +kernel : decode c_X10_person 55 = .ok (.iload_n 1, 1)) rfl rfl rfl, ?_⟩
  refine List.forall_mem_cons.mpr ⟨s_iast C (by decide +kernel : decode c_X10_person 56 = .ok (.iastore, 1)) rfl rfl, ?_⟩
  refine List.forall_mem_cons.mpr ⟨s_aload_n C (by decide +kernel : decode c_X10_person 57 = .ok (.aload_n 0, 1)) rfl rfl rfl, ?_⟩
  refine List.forall_mem_cons.mpr ⟨s_getf C (by decide +kernel : decode c_X10_person 58 = .ok (.getfield 7, 3)) rfl rfl em_cl_X10 (by decide) ew691 rfl, ?_⟩
  refine List.forall_mem_cons.mpr ⟨s_bipush C (by decide +kernel : decode c_X10_person 61 = .ok (.bipush 14, 2)) rfl rfl (by decide), ?_⟩
  refine List.forall_mem_cons.mpr ⟨s_iload_n C (by decide +kernel : decode c_X10_person 63 = .ok (.iload_n 3, 1)) rfl rfl rfl, ?_⟩
  refine List.forall_mem_cons.mpr ⟨s_iadd C (by decide +kernel : decode c_X10_person 64 = .ok (.iadd, 1)) rfl rfl, ?_⟩
  refine List.forall_mem_cons.mpr ⟨s_iload_n C (by decide +kernel : decode c_X10_person 65 = .ok (.iload_n 2, 1)) rfl rfl rfl, ?_⟩
  refine List.forall_mem_cons.mpr ⟨s_iast C (by decide +kernel : decode c_X10_person 66 = .ok (.iastore, 1)) rfl rfl, ?_⟩
  refine List.forall_mem_cons.mpr ⟨s_aload_n C (by decide +kernel : decode c_X10_person 67 = .ok (.aload_n 0, 1)) rfl rfl rfl, ?_⟩
  refine List.forall_mem_cons.mpr ⟨s_getf C (by decide +kernel : decode c_X10_person 68 = .ok (.getfield 7, 3)) rfl rfl em_cl_X10 (by decide) ew691 rfl, ?_⟩
  refine List.forall_mem_cons.mpr ⟨s_bipush C (by decide +kernel : decode c_X10_person 71 = .ok (.bipush 20, 2)) rfl rfl (by decide), ?_⟩
  refine List.forall_mem_cons.mpr ⟨s_iload_n C (by decide +kernel : decode c_X10_person 73 = .ok (.iload_n 3, 1)) rfl rfl rfl, ?_⟩
  refine List.forall_mem_cons.mpr ⟨s_iadd C (by decide +kernel : decode c_X10_person 74 = .ok (.iadd, 1)) rfl rfl, ?_⟩
  refine List.forall_mem_cons.mpr ⟨s_iload_n C (by decide +kernel : decode c_X10_person 75 = .ok (.iload_n 2, 1)) rfl rfl rfl, ?_⟩
  refine List.forall_mem_cons.mpr ⟨s_iast C (by decide +kernel : decode c_X10_person 76 = .ok (.iastore, 1)) rfl rfl, ?_⟩
  refine List.forall_mem_cons.mpr ⟨s_aload_n C (by decide +kernel : decode c_X10_person 77 = .ok (.aload_n 0, 1)) rfl rfl rfl, ?_⟩
  refine List.forall_mem_cons.mpr ⟨s_getf C (by decide +kernel : decode c_X10_person 78 = .ok (.getfield 7, 3)) rfl rfl em_cl_X10 (by decide) ew691 rfl, ?_⟩
  refine List.forall_mem_cons.mpr ⟨s_iconst C (by decide +kernel : decode c_X10_person 81 = .ok (.iconst 0, 1)) rfl rfl (by decide), ?_⟩
  refine List.forall_mem_cons.mpr ⟨s_dup2 C (by decide +kernel : decode c_X10_person 82 = .ok (.dup2, 1)) rfl rfl, ?_⟩
  refine List.forall_mem_cons.mpr ⟨s_iald C (by decide +kernel : decode c_X10_person 83 = .ok (.iaload, 1)) rfl rfl, ?_⟩
  refine List.forall_mem_cons.mpr ⟨s_iconst C (by decide +kernel : decode c_X10_person 84 = .ok (.iconst 1, 1)) rfl rfl (by decide), ?_⟩
  refine List.forall_mem_cons.mpr ⟨s_iadd C (by decide +kernel : decode c_X10_person 85 = .ok (.iadd, 1)) rfl rfl, ?_⟩
  refine List.forall_mem_cons.mpr ⟨s_iast C (by decide +kernel : decode c_X10_person 86 = .ok (.iastore, 1)) rfl rfl, ?_⟩
  refine List.forall_mem_cons.mpr ⟨s_aload_n C (by decide +kernel : decode c_X10_person 87 = .ok (.aload_n 0, 1)) rfl rfl rfl, ?_⟩
  refine List.forall_mem_cons.mpr ⟨s_getf C (by decide +kernel : decode c_X10_person 88 = .ok (.getfield 7, 3)) rfl rfl em_cl_X10 (by decide) ew691 rfl, ?_⟩
  refine List.forall_mem_cons.mpr ⟨s_iconst C (by decide +kernel : decode c_X10_person 91 = .ok (.iconst 3, 1)) rfl rfl (by decide), ?_⟩
  refine List.forall_mem_cons.mpr ⟨s_iconst C (by decide +kernel : decode c_X10_person 92 = .ok (.iconst 0, 1)) rfl rfl (by decide), ?_⟩
  refine List.forall_mem_cons.mpr ⟨s_iast C (by decide +kernel : decode c_X10_person 93 = .ok (.iastore, 1)) rfl rfl, ?_⟩
  refine List.forall_mem_cons.mpr ⟨s_iload_n C (by decide +kernel : decode c_X10_person 94 = .ok (.iload_n 3, 1)) rfl rfl rfl, ?_⟩
  refine List.forall_mem_cons.mpr ⟨s_iret C (by decide +kernel : decode c_X10_person 95 = .ok (.ireturn, 1)) hret hlk ⟨Nat.le_refl 0, Nat.le_refl 0⟩, ?_⟩
  exact fun _ h => absurd h List.not_mem_nil
def sp_X10_thinks : em_Sp := fun av hp Q => ∃ bk im kp asd rf qt ab be tx ty at9 st9 tk vl wd it mn so sb my we be9 rw fr p o n, av = [.ref 0, .int p, .int o] ∧ hp = (wM bk im kp asd rf qt ab be tx ty at9 st9 tk vl wd it mn so sb my we be9 rw fr) ∧ bk 0 = nI n ∧ n ≤ 6 ∧ (¬ (hs (nI n) p ∧ iss o) → Q (some (.int (-2))) (wM bk im kp asd (rfM qt rf 0) qt ab be tx ty at9 st9 tk vl wd it mn so sb my we be9 rw fr)) ∧ (∀ j, p = nI j → j < n → iss o → Q (some (.int (bk (14 + j)))) (wM (upd (upd bk 3 0) (14 + j) o) im kp asd rf qt ab be tx ty at9 st9 tk vl wd it mn so sb my we be9 rw fr))
def T_X10_thinks : List (Nat × em_Op) := [(0, o_aload 0 1), (1, o_iload 1 2), (2, o_call 2 (some 5) (sp_X10_isPerson) 5), (5, o_ifeq 15 8), (8, o_iload 2 9), (9, o_call 1 none (sp_X10_isSet) 12), (12, o_ifne 20 15), (15, o_aload 0 16), (16, o_call 1 (some 5) (sp_X10_bad) 19), (19, o_iret), (20, o_aload 0 21), (21, o_getf 5 0 24), (24, o_iconst 3 25), (25, o_iconst 0 26), (26, o_iast 27), (27, o_aload 0 28), (28, o_iconst 14 30), (30, o_iload 1 31), (31, o_iadd 32), (32, o_iload 2 33), (33, o_call 3 (some 5) (sp_X10_puts) 36), (36, o_iret)]
theorem me_X10_thinks : em_Me T_X10_thinks 3 sp_X10_thinks := by
  intro Q K hK hle av hp hs
  obtain ⟨bk, im, kp, asd, rf, qt, ab, be, tx, ty, at9, st9, tk, vl, wd, it, mn, so, sb, my, we, be9, rw, fr, p, o, n, rfl, rfl, hb, hn, hbad, hq⟩ := hs
  refine ⟨Nat.le_of_ble_eq_true rfl, hK 0 9999 0 _ _ _ ?_⟩
  refine ⟨_, _, _, _, _, _, _, _, _, _, _, _, _, _, _, _, _, _, _, _, _, _, _, _, _, n, rfl, rfl, hb, hn, fun z1 => ?_, fun z1 => ?_⟩
  · refine ⟨fun z => absurd z (by decide), fun _ => ?_⟩
    refine ⟨_, rfl, fun z2 => ?_, fun z2 => ?_⟩
    · refine ⟨fun _ => ?_, fun z => absurd z (by decide)⟩
      obtain ⟨j, hj, rfl⟩ := nI_at rfl z1
      have hq := hq j rfl hj z2
      refine ⟨3, rfl, by decide, _, _, _, _, _, _, _, _, _, _, _, _, _, _, _, _, _, _, _, _, _, _, _, _, 14 + j, _, by rw [← nI_add]; rfl, rfl, by omega, ?_⟩
      rw [pk_un (by omega)]
      exact hq
    · refine ⟨fun z => absurd rfl z, fun _ => ?_⟩
      exact ⟨_, _, _, _, _, _, _, _, _, _, _, _, _, _, _, _, _, _, _, _, _, _, _, _, rfl, rfl, hbad (fun q => z2 q.2)⟩
  · refine ⟨fun _ => ?_, fun z => absurd z (by decide)⟩
    exact ⟨_, _, _, _, _, _, _, _, _, _, _, _, _, _, _, _, _, _, _, _, _, _, _, _, rfl, rfl, hbad (fun q => z1 q.1)⟩
abbrev rm_X10_thinks : Room := { frames := 2, cells := 0, slots := 0, locals := 46 }
set_option maxRecDepth 100000 in
set_option maxHeartbeats 4000000 in
theorem ct_X10_thinks (l : Launch) (D : va_G) (dA : Nat → ClassId) (σ : Nat → Nat) : em_CT l D em_cl dA σ (em_F σ) y_X10_thinks c_X10_thinks 3 (Option.some ClassFile.FieldType.int) rm_X10_thinks (sp_X10_thinks ) := by
  refine em_CT_of (T := T_X10_thinks ) (em_F_ok σ) (by decide) (fun p e s m args below meth c A ρ Q C hFok hF hret hlk hin => ?_) (me_X10_thinks )
  unfold T_X10_thinks
  refine List.forall_mem_cons.mpr ⟨s_aload_n C (by decide +kernel : decode c_X10_thinks 0 = .ok (.aload_n 0, 1)) rfl rfl rfl, ?_⟩
  refine List.forall_mem_cons.mpr ⟨s_iload_n C (by decide +kernel : decode c_X10_thinks 1 = .ok (.iload_n 1, 1)) rfl rfl rfl, ?_⟩
  refine List.forall_mem_cons.mpr ⟨s_callV C hFok hF (ct_X10_isPerson l D dA σ) ⟨rfl, rfl⟩ ew795 em_cl_X10 ew792 ew794 ewp16 ew6 ⟨by decide, by decide, by decide +kernel⟩ ⟨by decide, by decide⟩ (by decide +kernel : decode c_X10_thinks 2 = .ok (.invokevirtual 73, 3)) rfl rfl ⟨Nat.zero_le _, Nat.zero_le _⟩, ?_⟩
  refine List.forall_mem_cons.mpr ⟨s_ifeq C (by decide +kernel : decode c_X10_thinks 5 = .ok (.ifCond .eq 10, 3)) (by decide) rfl rfl rfl, ?_⟩
  refine List.forall_mem_cons.mpr ⟨s_iload_n C (by decide +kernel : decode c_X10_thinks 8 = .ok (.iload_n 2, 1)) rfl rfl rfl, ?_⟩
  refine List.forall_mem_cons.mpr ⟨s_callS C hFok hF (ct_X10_isSet l D dA σ) ⟨rfl, rfl⟩ ew774 ew772 ew773 ew6 ⟨by decide, by decide, by decide +kernel⟩ ⟨by decide, by decide⟩ (by decide +kernel : decode c_X10_thinks 9 = .ok (.invokestatic 81, 3)) rfl rfl ⟨Nat.zero_le _, Nat.zero_le _⟩, ?_⟩
  refine List.forall_mem_cons.mpr ⟨s_ifne C (by decide +kernel : decode c_X10_thinks 12 = .ok (.ifCond .ne 8, 3)) (by decide) rfl rfl rfl, ?_⟩
  refine List.forall_mem_cons.mpr ⟨s_aload_n C (by decide +kernel : decode c_X10_thinks 15 = .ok (.aload_n 0, 1)) rfl rfl rfl, ?_⟩
  refine List.forall_mem_cons.mpr ⟨s_callV C hFok hF (ct_X10_bad l D dA σ) ⟨rfl, rfl⟩ ew779 em_cl_X10 ew776 ew778 ewp13 ew6 ⟨by decide, by decide, by decide +kernel⟩ ⟨by decide, by decide⟩ (by decide +kernel : decode c_X10_thinks 16 = .ok (.invokevirtual 84, 3)) rfl rfl ⟨Nat.zero_le _, Nat.zero_le _⟩, ?_⟩
  refine List.forall_mem_cons.mpr ⟨s_iret C (by decide +kernel : decode c_X10_thinks 19 = .ok (.ireturn, 1)) hret hlk ⟨Nat.le_refl 0, Nat.le_refl 0⟩, ?_⟩
  refine List.forall_mem_cons.mpr ⟨s_aload_n C (by decide +kernel : decode c_X10_thinks 20 = .ok (.aload_n 0, 1)) rfl rfl rfl, ?_⟩
  refine List.forall_mem_cons.mpr ⟨s_getf C (by decide +kernel : decode c_X10_thinks 21 = .ok (.getfield 7, 3)) rfl rfl em_cl_X10 (by decide) ew691 rfl, ?_⟩
  refine List.forall_mem_cons.mpr ⟨s_iconst C (by decide +kernel : decode c_X10_thinks 24 = .ok (.iconst 3, 1)) rfl rfl (by decide), ?_⟩
  refine List.forall_mem_cons.mpr ⟨s_iconst C (by decide +kernel : decode c_X10_thinks 25 = .ok (.iconst 0, 1)) rfl rfl (by decide), ?_⟩
  refine List.forall_mem_cons.mpr ⟨s_iast C (by decide +kernel : decode c_X10_thinks 26 = .ok (.iastore, 1)) rfl rfl, ?_⟩
  refine List.forall_mem_cons.mpr ⟨s_aload_n C (by decide +kernel : decode c_X10_thinks 27 = .ok (.aload_n 0, 1)) rfl rfl rfl, ?_⟩
  refine List.forall_mem_cons.mpr ⟨s_bipush C (by decide +kernel : decode c_X10_thinks 28 = .ok (.bipush 14, 2)) rfl rfl (by decide), ?_⟩
  refine List.forall_mem_cons.mpr ⟨s_iload_n C (by decide +kernel : decode c_X10_thinks 30 = .ok (.iload_n 1, 1)) rfl rfl rfl, ?_⟩
  refine List.forall_mem_cons.mpr ⟨s_iadd C (by decide +kernel : decode c_X10_thinks 31 = .ok (.iadd, 1)) rfl rfl, ?_⟩
  refine List.forall_mem_cons.mpr ⟨s_iload_n C (by decide +kernel : decode c_X10_thinks 32 = .ok (.iload_n 2, 1)) rfl rfl rfl, ?_⟩
  refine List.forall_mem_cons.mpr ⟨s_callV C hFok hF (ct_X10_puts l D dA σ) ⟨rfl, rfl⟩ ew799 em_cl_X10 ew796 ew798 ewp17 ew6 ⟨by decide, by decide, by decide +kernel⟩ ⟨by decide, by decide⟩ (by decide +kernel : decode c_X10_thinks 33 = .ok (.invokevirtual 91, 3)) rfl rfl ⟨Nat.zero_le _, Nat.zero_le _⟩, ?_⟩
  refine List.forall_mem_cons.mpr ⟨s_iret C (by decide +kernel : decode c_X10_thinks 36 = .ok (.ireturn, 1)) hret hlk ⟨Nat.le_refl 0, Nat.le_refl 0⟩, ?_⟩
  exact fun _ h => absurd h List.not_mem_nil
def sp_X10_become : em_Sp := fun av hp Q => ∃ bk im kp asd rf qt ab be tx ty at9 st9 tk vl wd it mn so sb my we be9 rw fr p k n, av = [.ref 0, .int p, .int k] ∧ hp = (wM bk im kp asd rf qt ab be tx ty at9 st9 tk vl wd it mn so sb my we be9 rw fr) ∧ bk 0 = nI n ∧ n ≤ 6 ∧ (¬ (hs (nI n) p ∧ isk k) → Q (some (.int (-2))) (wM bk im kp asd (rfM qt rf 0) qt ab be tx ty at9 st9 tk vl wd it mn so sb my we be9 rw fr)) ∧ (∀ j, p = nI j → j < n → isk k → Q (some (.int (bk (8 + j)))) (wM (upd bk (8 + j) k) im kp asd rf qt ab be tx ty at9 st9 tk vl wd it mn so sb my we be9 rw fr))
def T_X10_become : List (Nat × em_Op) := [(0, o_aload 0 1), (1, o_iload 1 2), (2, o_call 2 (some 5) (sp_X10_isPerson) 5), (5, o_ifeq 32 8), (8, o_iload 2 9), (9, o_i2l 10), (10, o_lconst 0 11), (11, o_lconst 5 14), (14, o_call 3 none (sp_X10_in) 17), (17, o_ifeq 32 20), (20, o_aload 0 21), (21, o_iconst 8 23), (23, o_iload 1 24), (24, o_iadd 25), (25, o_iload 2 26), (26, o_call 3 (some 5) (sp_X10_puts) 29), (29, o_goto 36), (32, o_aload 0 33), (33, o_call 1 (some 5) (sp_X10_bad) 36), (36, o_iret)]
theorem me_X10_become : em_Me T_X10_become 3 sp_X10_become := by
  intro Q K hK hle av hp hs
  obtain ⟨bk, im, kp, asd, rf, qt, ab, be, tx, ty, at9, st9, tk, vl, wd, it, mn, so, sb, my, we, be9, rw, fr, p, k, n, rfl, rfl, hb, hn, hbad, hq⟩ := hs
  refine ⟨Nat.le_of_ble_eq_true rfl, hK 0 9999 0 _ _ _ ?_⟩
  refine ⟨_, _, _, _, _, _, _, _, _, _, _, _, _, _, _, _, _, _, _, _, _, _, _, _, _, n, rfl, rfl, hb, hn, fun z1 => ?_, fun z1 => ?_⟩
  · refine ⟨fun z => absurd z (by decide), fun _ => ?_⟩
    refine ⟨_, _, _, rfl, fun z2 => ?_, fun z2 => ?_⟩
    · refine ⟨fun z => absurd z (by decide), fun _ => ?_⟩
      obtain ⟨j, hj, rfl⟩ := nI_at rfl z1
      exact ⟨_, _, _, _, _, _, _, _, _, _, _, _, _, _, _, _, _, _, _, _, _, _, _, _, 8 + j, _, by rw [← nI_add]; rfl, rfl, by omega, hq j rfl hj (in_isk.mp z2)⟩
    · refine ⟨fun _ => ?_, fun z => absurd z (by decide)⟩
      exact ⟨_, _, _, _, _, _, _, _, _, _, _, _, _, _, _, _, _, _, _, _, _, _, _, _, rfl, rfl, hbad (fun q => z2 (in_isk.mpr q.2))⟩
  · refine ⟨fun _ => ?_, fun z => absurd z (by decide)⟩
    exact ⟨_, _, _, _, _, _, _, _, _, _, _, _, _, _, _, _, _, _, _, _, _, _, _, _, rfl, rfl, hbad (fun q => z1 q.1)⟩
abbrev rm_X10_become : Room := { frames := 2, cells := 0, slots := 0, locals := 46 }
set_option maxRecDepth 100000 in
set_option maxHeartbeats 4000000 in
theorem ct_X10_become (l : Launch) (D : va_G) (dA : Nat → ClassId) (σ : Nat → Nat) : em_CT l D em_cl dA σ (em_F σ) y_X10_become c_X10_become 3 (Option.some ClassFile.FieldType.int) rm_X10_become (sp_X10_become ) := by
  refine em_CT_of (T := T_X10_become ) (em_F_ok σ) (by decide) (fun p e s m args below meth c A ρ Q C hFok hF hret hlk hin => ?_) (me_X10_become )
  unfold T_X10_become
  refine List.forall_mem_cons.mpr ⟨s_aload_n C (by decide +kernel : decode c_X10_become 0 = .ok (.aload_n 0, 1)) rfl rfl rfl, ?_⟩
  refine List.forall_mem_cons.mpr ⟨s_iload_n C (by decide +kernel : decode c_X10_become 1 = .ok (.iload_n 1, 1)) rfl rfl rfl, ?_⟩
  refine List.forall_mem_cons.mpr ⟨s_callV C hFok hF (ct_X10_isPerson l D dA σ) ⟨rfl, rfl⟩ ew795 em_cl_X10 ew792 ew794 ewp16 ew6 ⟨by decide, by decide, by decide +kernel⟩ ⟨by decide, by decide⟩ (by decide +kernel : decode c_X10_become 2 = .ok (.invokevirtual 73, 3)) rfl rfl ⟨Nat.zero_le _, Nat.zero_le _⟩, ?_⟩
  refine List.forall_mem_cons.mpr ⟨s_ifeq C (by decide +kernel : decode c_X10_become 5 = .ok (.ifCond .eq 27, 3)) (by decide) rfl rfl rfl, ?_⟩
  refine List.forall_mem_cons.mpr ⟨s_iload_n C (by decide +kernel : decode c_X10_become 8 = .ok (.iload_n 2, 1)) rfl rfl rfl, ?_⟩
  refine List.forall_mem_cons.mpr ⟨s_i2l C (by decide +kernel : decode c_X10_become 9 = .ok (.i2l, 1)) rfl rfl, ?_⟩
  refine List.forall_mem_cons.mpr ⟨s_lconst C (by decide +kernel : decode c_X10_become 10 = .ok (.lconst 0, 1)) rfl rfl (by decide), ?_⟩
  refine List.forall_mem_cons.mpr ⟨s_ldc2 C (by decide +kernel : decode c_X10_become 11 = .ok (.ldc2_w 79, 3)) rfl rfl ew768, ?_⟩
  refine List.forall_mem_cons.mpr ⟨s_callS C hFok hF (ct_X10_in l D dA σ) ⟨rfl, rfl⟩ ew771 ew769 ew770 ew6 ⟨by decide, by decide, by decide +kernel⟩ ⟨by decide, by decide⟩ (by decide +kernel : decode c_X10_become 14 = .ok (.invokestatic 69, 3)) rfl rfl ⟨Nat.zero_le _, Nat.zero_le _⟩, ?_⟩
  refine List.forall_mem_cons.mpr ⟨s_ifeq C (by decide +kernel : decode c_X10_become 17 = .ok (.ifCond .eq 15, 3)) (by decide) rfl rfl rfl, ?_⟩
  refine List.forall_mem_cons.mpr ⟨s_aload_n C (by decide +kernel : decode c_X10_become 20 = .ok (.aload_n 0, 1)) rfl rfl rfl, ?_⟩
  refine List.forall_mem_cons.mpr ⟨s_bipush C (by decide +kernel : decode c_X10_become 21 = .ok (.bipush 8, 2)) rfl rfl (by decide), ?_⟩
  refine List.forall_mem_cons.mpr ⟨s_iload_n C (by decide +kernel : decode c_X10_become 23 = .ok (.iload_n 1, 1)) rfl rfl rfl, ?_⟩
  refine List.forall_mem_cons.mpr ⟨s_iadd C (by decide +kernel : decode c_X10_become 24 = .ok (.iadd, 1)) rfl rfl, ?_⟩
  refine List.forall_mem_cons.mpr ⟨s_iload_n C (by decide +kernel : decode c_X10_become 25 = .ok (.iload_n 2, 1)) rfl rfl rfl, ?_⟩
  refine List.forall_mem_cons.mpr ⟨s_callV C hFok hF (ct_X10_puts l D dA σ) ⟨rfl, rfl⟩ ew799 em_cl_X10 ew796 ew798 ewp17 ew6 ⟨by decide, by decide, by decide +kernel⟩ ⟨by decide, by decide⟩ (by decide +kernel : decode c_X10_become 26 = .ok (.invokevirtual 91, 3)) rfl rfl ⟨Nat.zero_le _, Nat.zero_le _⟩, ?_⟩
  refine List.forall_mem_cons.mpr ⟨s_goto C (by decide +kernel : decode c_X10_become 29 = .ok (.goto 7, 3)) (by decide) rfl, ?_⟩
  refine List.forall_mem_cons.mpr ⟨s_aload_n C (by decide +kernel : decode c_X10_become 32 = .ok (.aload_n 0, 1)) rfl rfl rfl, ?_⟩
  refine List.forall_mem_cons.mpr ⟨s_callV C hFok hF (ct_X10_bad l D dA σ) ⟨rfl, rfl⟩ ew779 em_cl_X10 ew776 ew778 ewp13 ew6 ⟨by decide, by decide, by decide +kernel⟩ ⟨by decide, by decide⟩ (by decide +kernel : decode c_X10_become 33 = .ok (.invokevirtual 84, 3)) rfl rfl ⟨Nat.zero_le _, Nat.zero_le _⟩, ?_⟩
  refine List.forall_mem_cons.mpr ⟨s_iret C (by decide +kernel : decode c_X10_become 36 = .ok (.ireturn, 1)) hret hlk ⟨Nat.le_refl 0, Nat.le_refl 0⟩, ?_⟩
  exact fun _ h => absurd h List.not_mem_nil
def sp_X10_weighty : em_Sp := fun av hp Q => ∃ bk im kp asd rf qt ab be tx ty at9 st9 tk vl wd it mn so sb my we be9 rw fr x, av = [.ref 0, .int x] ∧ hp = (wM bk im kp asd rf qt ab be tx ty at9 st9 tk vl wd it mn so sb my we be9 rw fr) ∧ (¬ iss x → Q (some (.int (-2))) (wM bk im kp asd (rfM qt rf 0) qt ab be tx ty at9 st9 tk vl wd it mn so sb my we be9 rw fr)) ∧ (iss x → Q (some (.int (bk 5))) (wM (upd bk 5 x) im kp asd rf qt ab be tx ty at9 st9 tk vl wd it mn so sb my we be9 rw fr))
def T_X10_weighty : List (Nat × em_Op) := [(0, o_iload 1 1), (1, o_call 1 none (sp_X10_isSet) 4), (4, o_ifeq 16 7), (7, o_aload 0 8), (8, o_iconst 5 9), (9, o_iload 1 10), (10, o_call 3 (some 5) (sp_X10_puts) 13), (13, o_goto 20), (16, o_aload 0 17), (17, o_call 1 (some 5) (sp_X10_bad) 20), (20, o_iret)]
theorem me_X10_weighty : em_Me T_X10_weighty 2 sp_X10_weighty := by
  intro Q K hK hle av hp hs
  obtain ⟨bk, im, kp, asd, rf, qt, ab, be, tx, ty, at9, st9, tk, vl, wd, it, mn, so, sb, my, we, be9, rw, fr, x, rfl, rfl, hbad, hq⟩ := hs
  refine ⟨Nat.le_of_ble_eq_true rfl, hK 0 9999 0 _ _ _ ?_⟩
  refine ⟨_, rfl, fun z2 => ?_, fun z2 => ?_⟩
  · exact ⟨fun z => absurd z (by decide), fun _ => ⟨_, _, _, _, _, _, _, _, _, _, _, _, _, _, _, _, _, _, _, _, _, _, _, _, 5, _, rfl, rfl, by decide, hq z2⟩⟩
  · exact ⟨fun _ => ⟨_, _, _, _, _, _, _, _, _, _, _, _, _, _, _, _, _, _, _, _, _, _, _, _, rfl, rfl, hbad z2⟩, fun z => absurd z (by decide)⟩
abbrev rm_X10_weighty : Room := { frames := 2, cells := 0, slots := 0, locals := 45 }
set_option maxRecDepth 100000 in
set_option maxHeartbeats 4000000 in
theorem ct_X10_weighty (l : Launch) (D : va_G) (dA : Nat → ClassId) (σ : Nat → Nat) : em_CT l D em_cl dA σ (em_F σ) y_X10_weighty c_X10_weighty 2 (Option.some ClassFile.FieldType.int) rm_X10_weighty (sp_X10_weighty ) := by
  refine em_CT_of (T := T_X10_weighty ) (em_F_ok σ) (by decide) (fun p e s m args below meth c A ρ Q C hFok hF hret hlk hin => ?_) (me_X10_weighty )
  unfold T_X10_weighty
  refine List.forall_mem_cons.mpr ⟨s_iload_n C (by decide +kernel : decode c_X10_weighty 0 = .ok (.iload_n 1, 1)) rfl rfl rfl, ?_⟩
  refine List.forall_mem_cons.mpr ⟨s_callS C hFok hF (ct_X10_isSet l D dA σ) ⟨rfl, rfl⟩ ew774 ew772 ew773 ew6 ⟨by decide, by decide, by decide +kernel⟩ ⟨by decide, by decide⟩ (by decide +kernel : decode c_X10_weighty 1 = .ok (.invokestatic 81, 3)) rfl rfl ⟨Nat.zero_le _, Nat.zero_le _⟩, ?_⟩
  refine List.forall_mem_cons.mpr ⟨s_ifeq C (by decide +kernel : decode c_X10_weighty 4 = .ok (.ifCond .eq 12, 3)) (by decide) rfl rfl rfl, ?_⟩
  refine List.forall_mem_cons.mpr ⟨s_aload_n C (by decide +kernel : decode c_X10_weighty 7 = .ok (.aload_n 0, 1)) rfl rfl rfl, ?_⟩
  refine List.forall_mem_cons.mpr ⟨s_iconst C (by decide +kernel : decode c_X10_weighty 8 = .ok (.iconst 5, 1)) rfl rfl (by decide), ?_⟩
  refine List.forall_mem_cons.mpr ⟨s_iload_n C (by decide +kernel : decode c_X10_weighty 9 = .ok (.iload_n 1, 1)) rfl rfl rfl, ?_⟩
  refine List.forall_mem_cons.mpr ⟨s_callV C hFok hF (ct_X10_puts l D dA σ) ⟨rfl, rfl⟩ ew799 em_cl_X10 ew796 ew798 ewp17 ew6 ⟨by decide, by decide, by decide +kernel⟩ ⟨by decide, by decide⟩ (by decide +kernel : decode c_X10_weighty 10 = .ok (.invokevirtual 91, 3)) rfl rfl ⟨Nat.zero_le _, Nat.zero_le _⟩, ?_⟩
  refine List.forall_mem_cons.mpr ⟨s_goto C (by decide +kernel : decode c_X10_weighty 13 = .ok (.goto 7, 3)) (by decide) rfl, ?_⟩
  refine List.forall_mem_cons.mpr ⟨s_aload_n C (by decide +kernel : decode c_X10_weighty 16 = .ok (.aload_n 0, 1)) rfl rfl rfl, ?_⟩
  refine List.forall_mem_cons.mpr ⟨s_callV C hFok hF (ct_X10_bad l D dA σ) ⟨rfl, rfl⟩ ew779 em_cl_X10 ew776 ew778 ewp13 ew6 ⟨by decide, by decide, by decide +kernel⟩ ⟨by decide, by decide⟩ (by decide +kernel : decode c_X10_weighty 17 = .ok (.invokevirtual 84, 3)) rfl rfl ⟨Nat.zero_le _, Nat.zero_le _⟩, ?_⟩
  refine List.forall_mem_cons.mpr ⟨s_iret C (by decide +kernel : decode c_X10_weighty 20 = .ok (.ireturn, 1)) hret hlk ⟨Nat.le_refl 0, Nat.le_refl 0⟩, ?_⟩
  exact fun _ h => absurd h List.not_mem_nil
def sp_X10_licence : em_Sp := fun av hp Q => ∃ bk im kp asd rf qt ab be tx ty at9 st9 tk vl wd it mn so sb my we be9 rw fr a b, av = [.ref 0, .int a, .int b] ∧ hp = (wM bk im kp asd rf qt ab be tx ty at9 st9 tk vl wd it mn so sb my we be9 rw fr) ∧ (¬ prm a b → Q (some (.int (-2))) (wM bk im kp asd (rfM qt rf 0) qt ab be tx ty at9 st9 tk vl wd it mn so sb my we be9 rw fr)) ∧ (prm a b → Q (some (.int (100 * bk 6 + bk 7))) (wM (upd (upd bk 6 a) 7 b) im kp asd rf qt ab be tx ty at9 st9 tk vl wd it mn so sb my we be9 rw fr))
def T_X10_licence : List (Nat × em_Op) := [(0, o_iload 2 1), (1, o_i2l 2), (2, o_lconst 0 3), (3, o_lconst 20 6), (6, o_call 3 none (sp_X10_in) 9), (9, o_ifeq 23 12), (12, o_iload 1 13), (13, o_i2l 14), (14, o_lconst 0 15), (15, o_iload 2 16), (16, o_i2l 17), (17, o_call 3 none (sp_X10_in) 20), (20, o_ifne 28 23), (23, o_aload 0 24), (24, o_call 1 (some 5) (sp_X10_bad) 27), (27, o_iret), (28, o_iconst 100 30), (30, o_aload 0 31), (31, o_getf 5 0 34), (34, o_iconst 6 36), (36, o_aldI 0 37), (37, o_imul 38), (38, o_aload 0 39), (39, o_getf 5 0 42), (42, o_iconst 7 44), (44, o_aldI 0 45), (45, o_iadd 46), (46, o_istore 3 47), (47, o_aload 0 48), (48, o_getf 5 0 51), (51, o_iconst 6 53), (53, o_iload 1 54), (54, o_iast 55), (55, o_aload 0 56), (56, o_getf 5 0 59), (59, o_iconst 7 61), (61, o_iload 2 62), (62, o_iast 63), (63, o_iload 3 64), (64, o_iret)]
theorem me_X10_licence : em_Me T_X10_licence 4 sp_X10_licence := by
  intro Q K hK hle av hp hs
  obtain ⟨bk, im, kp, asd, rf, qt, ab, be, tx, ty, at9, st9, tk, vl, wd, it, mn, so, sb, my, we, be9, rw, fr, a, b, rfl, rfl, hbad, hq⟩ := hs
  refine ⟨Nat.le_of_ble_eq_true rfl, hK 0 9999 0 _ _ _ ?_⟩
  refine ⟨_, _, _, rfl, fun z1 => ?_, fun z1 => ?_⟩
  · refine ⟨fun z => absurd z (by decide), fun _ => ?_⟩
    refine ⟨_, _, _, rfl, fun z2 => ?_, fun z2 => ?_⟩
    · refine ⟨fun _ => ?_, fun z => absurd z (by decide)⟩
      exact ⟨6, rfl, by decide, 7, rfl, by decide, 6, rfl, by decide, 7, rfl, by decide, hq (in_prm.mp ⟨z1, z2⟩)⟩
    · exact ⟨fun z => absurd rfl z, fun _ => ⟨_, _, _, _, _, _, _, _, _, _, _, _, _, _, _, _, _, _, _, _, _, _, _, _, rfl, rfl, hbad (fun q => z2 (in_prm.mpr q).2)⟩⟩
  · exact ⟨fun _ => ⟨_, _, _, _, _, _, _, _, _, _, _, _, _, _, _, _, _, _, _, _, _, _, _, _, rfl, rfl, hbad (fun q => z1 (in_prm.mpr q).1)⟩, fun z => absurd z (by decide)⟩
abbrev rm_X10_licence : Room := { frames := 2, cells := 0, slots := 0, locals := 42 }
set_option maxRecDepth 100000 in
set_option maxHeartbeats 4000000 in
theorem ct_X10_licence (l : Launch) (D : va_G) (dA : Nat → ClassId) (σ : Nat → Nat) : em_CT l D em_cl dA σ (em_F σ) y_X10_licence c_X10_licence 4 (Option.some ClassFile.FieldType.int) rm_X10_licence (sp_X10_licence ) := by
  refine em_CT_of (T := T_X10_licence ) (em_F_ok σ) (by decide) (fun p e s m args below meth c A ρ Q C hFok hF hret hlk hin => ?_) (me_X10_licence )
  unfold T_X10_licence
  refine List.forall_mem_cons.mpr ⟨s_iload_n C (by decide +kernel : decode c_X10_licence 0 = .ok (.iload_n 2, 1)) rfl rfl rfl, ?_⟩
  refine List.forall_mem_cons.mpr ⟨s_i2l C (by decide +kernel : decode c_X10_licence 1 = .ok (.i2l, 1)) rfl rfl, ?_⟩
  refine List.forall_mem_cons.mpr ⟨s_lconst C (by decide +kernel : decode c_X10_licence 2 = .ok (.lconst 0, 1)) rfl rfl (by decide), ?_⟩
  refine List.forall_mem_cons.mpr ⟨s_ldc2 C (by decide +kernel : decode c_X10_licence 3 = .ok (.ldc2_w 94, 3)) rfl rfl ew812, ?_⟩
  refine List.forall_mem_cons.mpr ⟨s_callS C hFok hF (ct_X10_in l D dA σ) ⟨rfl, rfl⟩ ew771 ew769 ew770 ew6 ⟨by decide, by decide, by decide +kernel⟩ ⟨by decide, by decide⟩ (by decide +kernel : decode c_X10_licence 6 = .ok (.invokestatic 69, 3)) rfl rfl ⟨Nat.zero_le _, Nat.zero_le _⟩, ?_⟩
  refine List.forall_mem_cons.mpr ⟨s_ifeq C (by decide +kernel : decode c_X10_licence 9 = .ok (.ifCond .eq 14, 3)) (by decide) rfl rfl rfl, ?_⟩
  refine List.forall_mem_cons.mpr ⟨s_iload_n C (by decide +kernel : decode c_X10_licence 12 = .ok (.iload_n 1, 1)) rfl rfl rfl, ?_⟩
  refine List.forall_mem_cons.mpr ⟨s_i2l C (by decide +kernel : decode c_X10_licence 13 = .ok (.i2l, 1)) rfl rfl, ?_⟩
  refine List.forall_mem_cons.mpr ⟨s_lconst C (by decide +kernel : decode c_X10_licence 14 = .ok (.lconst 0, 1)) rfl rfl (by decide), ?_⟩
  refine List.forall_mem_cons.mpr ⟨s_iload_n C (by decide +kernel : decode c_X10_licence 15 = .ok (.iload_n 2, 1)) rfl rfl rfl, ?_⟩
  refine List.forall_mem_cons.mpr ⟨s_i2l C (by decide +kernel : decode c_X10_licence 16 = .ok (.i2l, 1)) rfl rfl, ?_⟩
  refine List.forall_mem_cons.mpr ⟨s_callS C hFok hF (ct_X10_in l D dA σ) ⟨rfl, rfl⟩ ew771 ew769 ew770 ew6 ⟨by decide, by decide, by decide +kernel⟩ ⟨by decide, by decide⟩ (by decide +kernel : decode c_X10_licence 17 = .ok (.invokestatic 69, 3)) rfl rfl ⟨Nat.zero_le _, Nat.zero_le _⟩, ?_⟩
  refine List.forall_mem_cons.mpr ⟨s_ifne C (by decide +kernel : decode c_X10_licence 20 = .ok (.ifCond .ne 8, 3)) (by decide) rfl rfl rfl, ?_⟩
  refine List.forall_mem_cons.mpr ⟨s_aload_n C (by decide +kernel : decode c_X10_licence 23 = .ok (.aload_n 0, 1)) rfl rfl rfl, ?_⟩
  refine List.forall_mem_cons.mpr ⟨s_callV C hFok hF (ct_X10_bad l D dA σ) ⟨rfl, rfl⟩ ew779 em_cl_X10 ew776 ew778 ewp13 ew6 ⟨by decide, by decide, by decide +kernel⟩ ⟨by decide, by decide⟩ (by decide +kernel : decode c_X10_licence 24 = .ok (.invokevirtual 84, 3)) rfl rfl ⟨Nat.zero_le _, Nat.zero_le _⟩, ?_⟩
  refine List.forall_mem_cons.mpr ⟨s_iret C (by decide +kernel : decode c_X10_licence 27 = .ok (.ireturn, 1)) hret hlk ⟨Nat.le_refl 0, Nat.le_refl 0⟩, ?_⟩
  refine List.forall_mem_cons.mpr ⟨s_bipush C (by decide +kernel : decode c_X10_licence 28 = .ok (.bipush 100, 2)) rfl rfl (by decide), ?_⟩
  refine List.forall_mem_cons.mpr ⟨s_aload_n C (by decide +kernel : decode c_X10_licence 30 = .ok (.aload_n 0, 1)) rfl rfl rfl, ?_⟩
  refine List.forall_mem_cons.mpr ⟨s_getf C (by decide +kernel : decode c_X10_licence 31 = .ok (.getfield 7, 3)) rfl rfl em_cl_X10 (by decide) ew691 rfl, ?_⟩
  refine List.forall_mem_cons.mpr ⟨s_bipush C (by decide +kernel : decode c_X10_licence 34 = .ok (.bipush 6, 2)) rfl rfl (by decide), ?_⟩
  refine List.forall_mem_cons.mpr ⟨s_iald C (by decide +kernel : decode c_X10_licence 36 = .ok (.iaload, 1)) rfl rfl, ?_⟩
  refine List.forall_mem_cons.mpr ⟨s_imul C (by decide +kernel : decode c_X10_licence 37 = .ok (.imul, 1)) rfl rfl, ?_⟩
  refine List.forall_mem_cons.mpr ⟨s_aload_n C (by decide +kernel : decode c_X10_licence 38 = .ok (.aload_n 0, 1)) rfl rfl rfl, ?_⟩
  refine List.forall_mem_cons.mpr ⟨s_getf C (by decide +kernel : decode c_X10_licence 39 = .ok (.getfield 7, 3)) rfl rfl em_cl_X10 (by decide) ew691 rfl, ?_⟩
  refine List.forall_mem_cons.mpr ⟨s_bipush C (by decide +kernel : decode c_X10_licence 42 = .ok (.bipush 7, 2)) rfl rfl (by decide), ?_⟩
  refine List.forall_mem_cons.mpr ⟨s_iald C (by decide +kernel : decode c_X10_licence 44 = .ok (.iaload, 1)) rfl rfl, ?_⟩
  refine List.forall_mem_cons.mpr ⟨s_iadd C (by decide +kernel : decode c_X10_licence 45 = .ok (.iadd, 1)) rfl rfl, ?_⟩
  refine List.forall_mem_cons.mpr ⟨s_istore_n C (by decide +kernel : decode c_X10_licence 46 = .ok (.istore_n 3, 1)) rfl rfl rfl (by decide), ?_⟩
  refine List.forall_mem_cons.mpr ⟨s_aload_n C (by decide +kernel : decode c_X10_licence 47 = .ok (.aload_n 0, 1)) rfl rfl rfl, ?_⟩
  refine List.forall_mem_cons.mpr ⟨s_getf C (by decide +kernel : decode c_X10_licence 48 = .ok (.getfield 7, 3)) rfl rfl em_cl_X10 (by decide) ew691 rfl, ?_⟩
  refine List.forall_mem_cons.mpr ⟨s_bipush C (by decide +kernel : decode c_X10_licence 51 = .ok (.bipush 6, 2)) rfl rfl (by decide), ?_⟩
  refine List.forall_mem_cons.mpr ⟨s_iload_n C (by decide +kernel : decode c_X10_licence 53 = .ok (.iload_n 1, 1)) rfl rfl rfl, ?_⟩
  refine List.forall_mem_cons.mpr ⟨s_iast C (by decide +kernel : decode c_X10_licence 54 = .ok (.iastore, 1)) rfl rfl, ?_⟩
  refine List.forall_mem_cons.mpr ⟨s_aload_n C (by decide +kernel : decode c_X10_licence 55 = .ok (.aload_n 0, 1)) rfl rfl rfl, ?_⟩
  refine List.forall_mem_cons.mpr ⟨s_getf C (by decide +kernel : decode c_X10_licence 56 = .ok (.getfield 7, 3)) rfl rfl em_cl_X10 (by decide) ew691 rfl, ?_⟩
  refine List.forall_mem_cons.mpr ⟨s_bipush C (by decide +kernel : decode c_X10_licence 59 = .ok (.bipush 7, 2)) rfl rfl (by decide), ?_⟩
  refine List.forall_mem_cons.mpr ⟨s_iload_n C (by decide +kernel : decode c_X10_licence 61 = .ok (.iload_n 2, 1)) rfl rfl rfl, ?_⟩
  refine List.forall_mem_cons.mpr ⟨s_iast C (by decide +kernel : decode c_X10_licence 62 = .ok (.iastore, 1)) rfl rfl, ?_⟩
  refine List.forall_mem_cons.mpr ⟨s_iload_n C (by decide +kernel : decode c_X10_licence 63 = .ok (.iload_n 3, 1)) rfl rfl rfl, ?_⟩
  refine List.forall_mem_cons.mpr ⟨s_iret C (by decide +kernel : decode c_X10_licence 64 = .ok (.ireturn, 1)) hret hlk ⟨Nat.le_refl 0, Nat.le_refl 0⟩, ?_⟩
  exact fun _ h => absurd h List.not_mem_nil
def sp_X10_talk : em_Sp := fun av hp Q => ∃ bk im kp asd rf qt ab be tx ty at9 st9 tk vl wd it mn so sb my we be9 rw fr a b n np, av = [.ref 0, .int a, .int b] ∧ hp = (wM bk im kp asd rf qt ab be tx ty at9 st9 tk vl wd it mn so sb my we be9 rw fr) ∧ bk 0 = nI n ∧ n ≤ 6 ∧ bk 1 = nI np ∧ np ≤ 8 ∧ (¬ h2 (nI n) a b → Q (some (.int (-2))) (wM bk im kp asd (rfM qt rf 0) qt ab be tx ty at9 st9 tk vl wd it mn so sb my we be9 rw fr)) ∧ (h2 (nI n) a b → np = 8 → Q (some (.int (-4))) (wM bk im kp asd (rfM qt rf 2) qt ab be tx ty at9 st9 tk vl wd it mn so sb my we be9 rw fr)) ∧ (h2 (nI n) a b → np < 8 → Q (some (.int (nI np))) (wM (upd (upd (upd bk (26 + 2 * np) a) (26 + 2 * np + 1) b) 1 (nI (np + 1))) im kp asd rf qt ab be tx ty at9 st9 tk vl wd it mn so sb my we be9 rw fr))
def T_X10_talk : List (Nat × em_Op) := [(0, o_aload 0 1), (1, o_iload 1 2), (2, o_iload 2 3), (3, o_call 3 (some 5) (sp_X10_areTwo) 6), (6, o_ifne 14 9), (9, o_aload 0 10), (10, o_call 1 (some 5) (sp_X10_bad) 13), (13, o_iret), (14, o_aload 0 15), (15, o_getf 5 0 18), (18, o_iconst 1 19), (19, o_aldI 0 20), (20, o_iconst 8 22), (22, o_icmpne 30 25), (25, o_aload 0 26), (26, o_call 1 (some 5) (sp_X10_full) 29), (29, o_iret), (30, o_aload 0 31), (31, o_getf 5 0 34), (34, o_iconst 26 36), (36, o_iconst 2 37), (37, o_aload 0 38), (38, o_getf 5 0 41), (41, o_iconst 1 42), (42, o_aldI 0 43), (43, o_imul 44), (44, o_iadd 45), (45, o_iload 1 46), (46, o_iast 47), (47, o_aload 0 48), (48, o_getf 5 0 51), (51, o_iconst 26 53), (53, o_iconst 2 54), (54, o_aload 0 55), (55, o_getf 5 0 58), (58, o_iconst 1 59), (59, o_aldI 0 60), (60, o_imul 61), (61, o_iadd 62), (62, o_iconst 1 63), (63, o_iadd 64), (64, o_iload 2 65), (65, o_iast 66), (66, o_aload 0 67), (67, o_getf 5 0 70), (70, o_iconst 1 71), (71, o_dup2 72), (72, o_aldI 0 73), (73, o_iconst 1 74), (74, o_iadd 75), (75, o_iast 76), (76, o_aload 0 77), (77, o_getf 5 0 80), (80, o_iconst 1 81), (81, o_aldI 0 82), (82, o_iconst 1 83), (83, o_isub 84), (84, o_iret)]
theorem me_X10_talk : em_Me T_X10_talk 3 sp_X10_talk := by
  intro Q K hK hle av hp hs
  obtain ⟨bk, im, kp, asd, rf, qt, ab, be, tx, ty, at9, st9, tk, vl, wd, it, mn, so, sb, my, we, be9, rw, fr, a, b, n, np, rfl, rfl, hb, hn, hb1, hnp, hbad, hf, hq⟩ := hs
  refine ⟨Nat.le_of_ble_eq_true rfl, hK 0 9999 0 _ _ _ ?_⟩
  refine ⟨_, _, _, _, _, _, _, _, _, _, _, _, _, _, _, _, _, _, _, _, _, _, _, _, _, _, n, rfl, rfl, hb, hn, fun z1 => ?_, fun z1 => ?_⟩
  · refine ⟨fun _ => ?_, fun z => absurd z (by decide)⟩
    refine ⟨1, rfl, by decide, fun z => ?_, fun z => ?_⟩
    · have h8 : np < 8 := by
        rcases Nat.lt_or_ge np 8 with q | q
        · exact q
        · exact absurd (by rw [hb1, show np = 8 by omega]; rfl) z
      have hq := hq z1 h8
      have e1 : (26 : Int32) + 2 * bk 1 = nI (26 + 2 * np) := by
        rw [hb1, show (2 : Int32) = nI 2 from rfl, pk_mul]
        exact nI_add 26 (2 * np)
      have e2 : upd bk (26 + 2 * np) a 1 = nI np := by rw [pk_un (by omega), hb1]
      have e3 : upd (upd bk (26 + 2 * np) a) (26 + 2 * np + 1) b 1 = nI np := by rw [pk_un (by omega), e2]
      refine ⟨1, rfl, by decide, 26 + 2 * np, e1, by omega, 1, rfl, by decide, 26 + 2 * np + 1, ?_, by omega, 1, rfl, by decide, 1, rfl, by decide, 1, rfl, by decide, ?_⟩
      · rw [e2, ← hb1, e1]; exact nI_1 _
      · rw [← nI_pred np] at hq
        rw [pk_us, e3, nI_1]
        exact hq
    · have h8 : np = 8 := by
        rw [hb1] at z
        exact (nI_eq (b := 8) (by omega) (by omega)).mp z
      exact ⟨_, _, _, _, _, _, _, _, _, _, _, _, _, _, _, _, _, _, _, _, _, _, _, _, rfl, rfl, hf z1 h8⟩
  · exact ⟨fun z => absurd rfl z, fun _ => ⟨_, _, _, _, _, _, _, _, _, _, _, _, _, _, _, _, _, _, _, _, _, _, _, _, rfl, rfl, hbad z1⟩⟩
abbrev rm_X10_talk : Room := { frames := 3, cells := 0, slots := 0, locals := 68 }
set_option maxRecDepth 100000 in
set_option maxHeartbeats 4000000 in
theorem ct_X10_talk (l : Launch) (D : va_G) (dA : Nat → ClassId) (σ : Nat → Nat) : em_CT l D em_cl dA σ (em_F σ) y_X10_talk c_X10_talk 3 (Option.some ClassFile.FieldType.int) rm_X10_talk (sp_X10_talk ) := by
  refine em_CT_of (T := T_X10_talk ) (em_F_ok σ) (by decide) (fun p e s m args below meth c A ρ Q C hFok hF hret hlk hin => ?_) (me_X10_talk )
  unfold T_X10_talk
  refine List.forall_mem_cons.mpr ⟨s_aload_n C (by decide +kernel : decode c_X10_talk 0 = .ok (.aload_n 0, 1)) rfl rfl rfl, ?_⟩
  refine List.forall_mem_cons.mpr ⟨s_iload_n C (by decide +kernel : decode c_X10_talk 1 = .ok (.iload_n 1, 1)) rfl rfl rfl, ?_⟩
  refine List.forall_mem_cons.mpr ⟨s_iload_n C (by decide +kernel : decode c_X10_talk 2 = .ok (.iload_n 2, 1)) rfl rfl rfl, ?_⟩
  refine List.forall_mem_cons.mpr ⟨s_callV C hFok hF (ct_X10_areTwo l D dA σ) ⟨rfl, rfl⟩ ew820 em_cl_X10 ew817 ew819 ewp18 ew6 ⟨by decide, by decide, by decide +kernel⟩ ⟨by decide, by decide⟩ (by decide +kernel : decode c_X10_talk 3 = .ok (.invokevirtual 96, 3)) rfl rfl ⟨Nat.zero_le _, Nat.zero_le _⟩, ?_⟩
  refine List.forall_mem_cons.mpr ⟨s_ifne C (by decide +kernel : decode c_X10_talk 6 = .ok (.ifCond .ne 8, 3)) (by decide) rfl rfl rfl, ?_⟩
  refine List.forall_mem_cons.mpr ⟨s_aload_n C (by decide +kernel : decode c_X10_talk 9 = .ok (.aload_n 0, 1)) rfl rfl rfl, ?_⟩
  refine List.forall_mem_cons.mpr ⟨s_callV C hFok hF (ct_X10_bad l D dA σ) ⟨rfl, rfl⟩ ew779 em_cl_X10 ew776 ew778 ewp13 ew6 ⟨by decide, by decide, by decide +kernel⟩ ⟨by decide, by decide⟩ (by decide +kernel : decode c_X10_talk 10 = .ok (.invokevirtual 84, 3)) rfl rfl ⟨Nat.zero_le _, Nat.zero_le _⟩, ?_⟩
  refine List.forall_mem_cons.mpr ⟨s_iret C (by decide +kernel : decode c_X10_talk 13 = .ok (.ireturn, 1)) hret hlk ⟨Nat.le_refl 0, Nat.le_refl 0⟩, ?_⟩
  refine List.forall_mem_cons.mpr ⟨s_aload_n C (by decide +kernel : decode c_X10_talk 14 = .ok (.aload_n 0, 1)) rfl rfl rfl, ?_⟩
  refine List.forall_mem_cons.mpr ⟨s_getf C (by decide +kernel : decode c_X10_talk 15 = .ok (.getfield 7, 3)) rfl rfl em_cl_X10 (by decide) ew691 rfl, ?_⟩
  refine List.forall_mem_cons.mpr ⟨s_iconst C (by decide +kernel : decode c_X10_talk 18 = .ok (.iconst 1, 1)) rfl rfl (by decide), ?_⟩
  refine List.forall_mem_cons.mpr ⟨s_iald C (by decide +kernel : decode c_X10_talk 19 = .ok (.iaload, 1)) rfl rfl, ?_⟩
  refine List.forall_mem_cons.mpr ⟨s_bipush C (by decide +kernel : decode c_X10_talk 20 = .ok (.bipush 8, 2)) rfl rfl (by decide), ?_⟩
  refine List.forall_mem_cons.mpr ⟨s_icmpne C (by decide +kernel : decode c_X10_talk 22 = .ok (.if_icmp .ne 8, 3)) (by decide) rfl rfl rfl, ?_⟩
  refine List.forall_mem_cons.mpr ⟨s_aload_n C (by decide +kernel : decode c_X10_talk 25 = .ok (.aload_n 0, 1)) rfl rfl rfl, ?_⟩
  refine List.forall_mem_cons.mpr ⟨s_callV C hFok hF (ct_X10_full l D dA σ) ⟨rfl, rfl⟩ ew787 em_cl_X10 ew784 ew786 ewp15 ew6 ⟨by decide, by decide, by decide +kernel⟩ ⟨by decide, by decide⟩ (by decide +kernel : decode c_X10_talk 26 = .ok (.invokevirtual 88, 3)) rfl rfl ⟨Nat.zero_le _, Nat.zero_le _⟩, ?_⟩
  refine List.forall_mem_cons.mpr ⟨s_iret C (by decide +kernel : decode c_X10_talk 29 = .ok (.ireturn, 1)) hret hlk ⟨Nat.le_refl 0, Nat.le_refl 0⟩, ?_⟩
  refine List.forall_mem_cons.mpr ⟨s_aload_n C (by decide +kernel : decode c_X10_talk 30 = .ok (.aload_n 0, 1)) rfl rfl rfl, ?_⟩
  refine List.forall_mem_cons.mpr ⟨s_getf C (by decide +kernel : decode c_X10_talk 31 = .ok (.getfield 7, 3)) rfl rfl em_cl_X10 (by decide) ew691 rfl, ?_⟩
  refine List.forall_mem_cons.mpr ⟨s_bipush C (by decide +kernel : decode c_X10_talk 34 = .ok (.bipush 26, 2)) rfl rfl (by decide), ?_⟩
  refine List.forall_mem_cons.mpr ⟨s_iconst C (by decide +kernel : decode c_X10_talk 36 = .ok (.iconst 2, 1)) rfl rfl (by decide), ?_⟩
  refine List.forall_mem_cons.mpr ⟨s_aload_n C (by decide +kernel : decode c_X10_talk 37 = .ok (.aload_n 0, 1)) rfl rfl rfl, ?_⟩
  refine List.forall_mem_cons.mpr ⟨s_getf C (by decide +kernel : decode c_X10_talk 38 = .ok (.getfield 7, 3)) rfl rfl em_cl_X10 (by decide) ew691 rfl, ?_⟩
  refine List.forall_mem_cons.mpr ⟨s_iconst C (by decide +kernel : decode c_X10_talk 41 = .ok (.iconst 1, 1)) rfl rfl (by decide), ?_⟩
  refine List.forall_mem_cons.mpr ⟨s_iald C (by decide +kernel : decode c_X10_talk 42 = .ok (.iaload, 1)) rfl rfl, ?_⟩
  refine List.forall_mem_cons.mpr ⟨s_imul C (by decide +kernel : decode c_X10_talk 43 = .ok (.imul, 1)) rfl rfl, ?_⟩
  refine List.forall_mem_cons.mpr ⟨s_iadd C (by decide +kernel : decode c_X10_talk 44 = .ok (.iadd, 1)) rfl rfl, ?_⟩
  refine List.forall_mem_cons.mpr ⟨s_iload_n C (by decide +kernel : decode c_X10_talk 45 = .ok (.iload_n 1, 1)) rfl rfl rfl, ?_⟩
  refine List.forall_mem_cons.mpr ⟨s_iast C (by decide +kernel : decode c_X10_talk 46 = .ok (.iastore, 1)) rfl rfl, ?_⟩
  refine List.forall_mem_cons.mpr ⟨s_aload_n C (by decide +kernel : decode c_X10_talk 47 = .ok (.aload_n 0, 1)) rfl rfl rfl, ?_⟩
  refine List.forall_mem_cons.mpr ⟨s_getf C (by decide +kernel : decode c_X10_talk 48 = .ok (.getfield 7, 3)) rfl rfl em_cl_X10 (by decide) ew691 rfl, ?_⟩
  refine List.forall_mem_cons.mpr ⟨s_bipush C (by decide +kernel : decode c_X10_talk 51 = .ok (.bipush 26, 2)) rfl rfl (by decide), ?_⟩
  refine List.forall_mem_cons.mpr ⟨s_iconst C (by decide +kernel : decode c_X10_talk 53 = .ok (.iconst 2, 1)) rfl rfl (by decide), ?_⟩
  refine List.forall_mem_cons.mpr ⟨s_aload_n C (by decide +kernel : decode c_X10_talk 54 = .ok (.aload_n 0, 1)) rfl rfl rfl, ?_⟩
  refine List.forall_mem_cons.mpr ⟨s_getf C (by decide +kernel : decode c_X10_talk 55 = .ok (.getfield 7, 3)) rfl rfl em_cl_X10 (by decide) ew691 rfl, ?_⟩
  refine List.forall_mem_cons.mpr ⟨s_iconst C (by decide +kernel : decode c_X10_talk 58 = .ok (.iconst 1, 1)) rfl rfl (by decide), ?_⟩
  refine List.forall_mem_cons.mpr ⟨s_iald C (by decide +kernel : decode c_X10_talk 59 = .ok (.iaload, 1)) rfl rfl, ?_⟩
  refine List.forall_mem_cons.mpr ⟨s_imul C (by decide +kernel : decode c_X10_talk 60 = .ok (.imul, 1)) rfl rfl, ?_⟩
  refine List.forall_mem_cons.mpr ⟨s_iadd C (by decide +kernel : decode c_X10_talk 61 = .ok (.iadd, 1)) rfl rfl, ?_⟩
  refine List.forall_mem_cons.mpr ⟨s_iconst C (by decide +kernel : decode c_X10_talk 62 = .ok (.iconst 1, 1)) rfl rfl (by decide), ?_⟩
  refine List.forall_mem_cons.mpr ⟨s_iadd C (by decide +kernel : decode c_X10_talk 63 = .ok (.iadd, 1)) rfl rfl, ?_⟩
  refine List.forall_mem_cons.mpr ⟨s_iload_n C (by decide +kernel : decode c_X10_talk 64 = .ok (.iload_n 2, 1)) rfl rfl rfl, ?_⟩
  refine List.forall_mem_cons.mpr ⟨s_iast C (by decide +kernel : decode c_X10_talk 65 = .ok (.iastore, 1)) rfl rfl, ?_⟩
  refine List.forall_mem_cons.mpr ⟨s_aload_n C (by decide +kernel : decode c_X10_talk 66 = .ok (.aload_n 0, 1)) rfl rfl rfl, ?_⟩
  refine List.forall_mem_cons.mpr ⟨s_getf C (by decide +kernel : decode c_X10_talk 67 = .ok (.getfield 7, 3)) rfl rfl em_cl_X10 (by decide) ew691 rfl, ?_⟩
  refine List.forall_mem_cons.mpr ⟨s_iconst C (by decide +kernel : decode c_X10_talk 70 = .ok (.iconst 1, 1)) rfl rfl (by decide), ?_⟩
  refine List.forall_mem_cons.mpr ⟨s_dup2 C (by decide +kernel : decode c_X10_talk 71 = .ok (.dup2, 1)) rfl rfl, ?_⟩
  refine List.forall_mem_cons.mpr ⟨s_iald C (by decide +kernel : decode c_X10_talk 72 = .ok (.iaload, 1)) rfl rfl, ?_⟩
  refine List.forall_mem_cons.mpr ⟨s_iconst C (by decide +kernel : decode c_X10_talk 73 = .ok (.iconst 1, 1)) rfl rfl (by decide), ?_⟩
  refine List.forall_mem_cons.mpr ⟨s_iadd C (by decide +kernel : decode c_X10_talk 74 = .ok (.iadd, 1)) rfl rfl, ?_⟩
  refine List.forall_mem_cons.mpr ⟨s_iast C (by decide +kernel : decode c_X10_talk 75 = .ok (.iastore, 1)) rfl rfl, ?_⟩
  refine List.forall_mem_cons.mpr ⟨s_aload_n C (by decide +kernel : decode c_X10_talk 76 = .ok (.aload_n 0, 1)) rfl rfl rfl, ?_⟩
  refine List.forall_mem_cons.mpr ⟨s_getf C (by decide +kernel : decode c_X10_talk 77 = .ok (.getfield 7, 3)) rfl rfl em_cl_X10 (by decide) ew691 rfl, ?_⟩
  refine List.forall_mem_cons.mpr ⟨s_iconst C (by decide +kernel : decode c_X10_talk 80 = .ok (.iconst 1, 1)) rfl rfl (by decide), ?_⟩
  refine List.forall_mem_cons.mpr ⟨s_iald C (by decide +kernel : decode c_X10_talk 81 = .ok (.iaload, 1)) rfl rfl, ?_⟩
  refine List.forall_mem_cons.mpr ⟨s_iconst C (by decide +kernel : decode c_X10_talk 82 = .ok (.iconst 1, 1)) rfl rfl (by decide), ?_⟩
  refine List.forall_mem_cons.mpr ⟨s_isub C (by decide +kernel : decode c_X10_talk 83 = .ok (.isub, 1)) rfl rfl, ?_⟩
  refine List.forall_mem_cons.mpr ⟨s_iret C (by decide +kernel : decode c_X10_talk 84 = .ok (.ireturn, 1)) hret hlk ⟨Nat.le_refl 0, Nat.le_refl 0⟩, ?_⟩
  exact fun _ h => absurd h List.not_mem_nil
def sp_X10_clean : em_Sp := fun av hp Q => ∃ bk im kp asd rf qt ab be tx ty at9 st9 tk vl wd it mn so sb my we be9 rw fr, av = [.ref 0] ∧ hp = (wM bk im kp asd rf qt ab be tx ty at9 st9 tk vl wd it mn so sb my we be9 rw fr) ∧ Q (some (.int (bk 1))) (wM (upd bk 1 0) im kp asd rf qt ab be tx ty at9 st9 tk vl wd it mn so sb my we be9 rw fr)
def T_X10_clean : List (Nat × em_Op) := [(0, o_aload 0 1), (1, o_iconst 1 2), (2, o_iconst 0 3), (3, o_call 3 (some 5) (sp_X10_puts) 6), (6, o_iret)]
theorem me_X10_clean : em_Me T_X10_clean 1 sp_X10_clean := by
  intro Q K hK hle av hp hs
  obtain ⟨bk, im, kp, asd, rf, qt, ab, be, tx, ty, at9, st9, tk, vl, wd, it, mn, so, sb, my, we, be9, rw, fr, rfl, rfl, hq⟩ := hs
  exact ⟨Nat.le_of_ble_eq_true rfl, hK 0 9999 0 _ _ _ ⟨_, _, _, _, _, _, _, _, _, _, _, _, _, _, _, _, _, _, _, _, _, _, _, _, 1, _, rfl, rfl, by decide, hq⟩⟩
abbrev rm_X10_clean : Room := { frames := 1, cells := 0, slots := 0, locals := 23 }
set_option maxRecDepth 100000 in
set_option maxHeartbeats 4000000 in
theorem ct_X10_clean (l : Launch) (D : va_G) (dA : Nat → ClassId) (σ : Nat → Nat) : em_CT l D em_cl dA σ (em_F σ) y_X10_clean c_X10_clean 1 (Option.some ClassFile.FieldType.int) rm_X10_clean (sp_X10_clean ) := by
  refine em_CT_of (T := T_X10_clean ) (em_F_ok σ) (by decide) (fun p e s m args below meth c A ρ Q C hFok hF hret hlk hin => ?_) (me_X10_clean )
  unfold T_X10_clean
  refine List.forall_mem_cons.mpr ⟨s_aload_n C (by decide +kernel : decode c_X10_clean 0 = .ok (.aload_n 0, 1)) rfl rfl rfl, ?_⟩
  refine List.forall_mem_cons.mpr ⟨s_iconst C (by decide +kernel : decode c_X10_clean 1 = .ok (.iconst 1, 1)) rfl rfl (by decide), ?_⟩
  refine List.forall_mem_cons.mpr ⟨s_iconst C (by decide +kernel : decode c_X10_clean 2 = .ok (.iconst 0, 1)) rfl rfl (by decide), ?_⟩
  refine List.forall_mem_cons.mpr ⟨s_callV C hFok hF (ct_X10_puts l D dA σ) ⟨rfl, rfl⟩ ew799 em_cl_X10 ew796 ew798 ewp17 ew6 ⟨by decide, by decide, by decide +kernel⟩ ⟨by decide, by decide⟩ (by decide +kernel : decode c_X10_clean 3 = .ok (.invokevirtual 91, 3)) rfl rfl ⟨Nat.zero_le _, Nat.zero_le _⟩, ?_⟩
  refine List.forall_mem_cons.mpr ⟨s_iret C (by decide +kernel : decode c_X10_clean 6 = .ok (.ireturn, 1)) hret hlk ⟨Nat.le_refl 0, Nat.le_refl 0⟩, ?_⟩
  exact fun _ h => absurd h List.not_mem_nil
def sp_X10_burn : em_Sp := fun av hp Q => ∃ bk im kp asd rf qt ab be tx ty at9 st9 tk vl wd it mn so sb my we be9 rw fr, av = [.ref 0] ∧ hp = (wM bk im kp asd rf qt ab be tx ty at9 st9 tk vl wd it mn so sb my we be9 rw fr) ∧ Q (some (.int (bk 4))) (wM (upd bk 4 0) im kp asd rf qt ab be tx ty at9 st9 tk vl wd it mn so sb my we be9 rw fr)
def T_X10_burn : List (Nat × em_Op) := [(0, o_aload 0 1), (1, o_iconst 4 2), (2, o_iconst 0 3), (3, o_call 3 (some 5) (sp_X10_puts) 6), (6, o_iret)]
theorem me_X10_burn : em_Me T_X10_burn 1 sp_X10_burn := by
  intro Q K hK hle av hp hs
  obtain ⟨bk, im, kp, asd, rf, qt, ab, be, tx, ty, at9, st9, tk, vl, wd, it, mn, so, sb, my, we, be9, rw, fr, rfl, rfl, hq⟩ := hs
  exact ⟨Nat.le_of_ble_eq_true rfl, hK 0 9999 0 _ _ _ ⟨_, _, _, _, _, _, _, _, _, _, _, _, _, _, _, _, _, _, _, _, _, _, _, _, 4, _, rfl, rfl, by decide, hq⟩⟩
abbrev rm_X10_burn : Room := { frames := 1, cells := 0, slots := 0, locals := 23 }
set_option maxRecDepth 100000 in
set_option maxHeartbeats 4000000 in
theorem ct_X10_burn (l : Launch) (D : va_G) (dA : Nat → ClassId) (σ : Nat → Nat) : em_CT l D em_cl dA σ (em_F σ) y_X10_burn c_X10_burn 1 (Option.some ClassFile.FieldType.int) rm_X10_burn (sp_X10_burn ) := by
  refine em_CT_of (T := T_X10_burn ) (em_F_ok σ) (by decide) (fun p e s m args below meth c A ρ Q C hFok hF hret hlk hin => ?_) (me_X10_burn )
  unfold T_X10_burn
  refine List.forall_mem_cons.mpr ⟨s_aload_n C (by decide +kernel : decode c_X10_burn 0 = .ok (.aload_n 0, 1)) rfl rfl rfl, ?_⟩
  refine List.forall_mem_cons.mpr ⟨s_iconst C (by decide +kernel : decode c_X10_burn 1 = .ok (.iconst 4, 1)) rfl rfl (by decide), ?_⟩
  refine List.forall_mem_cons.mpr ⟨s_iconst C (by decide +kernel : decode c_X10_burn 2 = .ok (.iconst 0, 1)) rfl rfl (by decide), ?_⟩
  refine List.forall_mem_cons.mpr ⟨s_callV C hFok hF (ct_X10_puts l D dA σ) ⟨rfl, rfl⟩ ew799 em_cl_X10 ew796 ew798 ewp17 ew6 ⟨by decide, by decide, by decide +kernel⟩ ⟨by decide, by decide⟩ (by decide +kernel : decode c_X10_burn 3 = .ok (.invokevirtual 91, 3)) rfl rfl ⟨Nat.zero_le _, Nat.zero_le _⟩, ?_⟩
  refine List.forall_mem_cons.mpr ⟨s_iret C (by decide +kernel : decode c_X10_burn 6 = .ok (.ireturn, 1)) hret hlk ⟨Nat.le_refl 0, Nat.le_refl 0⟩, ?_⟩
  exact fun _ h => absurd h List.not_mem_nil
def sp_X10_clear : em_Sp := fun av hp Q => ∃ bk im kp asd rf qt ab be tx ty at9 st9 tk vl wd it mn so sb my we be9 rw fr, av = [.ref 0] ∧ hp = (wM bk im kp asd rf qt ab be tx ty at9 st9 tk vl wd it mn so sb my we be9 rw fr) ∧ Q (some (.int ty)) (wM bk im kp asd rf qt ab be tx (0) at9 st9 tk vl wd it mn so sb my we be9 rw fr)
def T_X10_clear : List (Nat × em_Op) := [(0, o_aload 0 1), (1, o_getf 5 9 4), (4, o_istore 1 5), (5, o_aload 0 6), (6, o_iconst 0 7), (7, o_putI 5 9 10), (10, o_iload 1 11), (11, o_iret)]
theorem me_X10_clear : em_Me T_X10_clear 2 sp_X10_clear := by
  intro Q K hK hle av hp hs
  obtain ⟨bk, im, kp, asd, rf, qt, ab, be, tx, ty, at9, st9, tk, vl, wd, it, mn, so, sb, my, we, be9, rw, fr, rfl, rfl, hq⟩ := hs
  exact ⟨Nat.le_of_ble_eq_true rfl, hK 0 9999 0 _ _ _ hq⟩
abbrev rm_X10_clear : Room := { frames := 0, cells := 0, slots := 0, locals := 0 }
set_option maxRecDepth 100000 in
set_option maxHeartbeats 4000000 in
theorem ct_X10_clear (l : Launch) (D : va_G) (dA : Nat → ClassId) (σ : Nat → Nat) : em_CT l D em_cl dA σ (em_F σ) y_X10_clear c_X10_clear 2 (Option.some ClassFile.FieldType.int) rm_X10_clear (sp_X10_clear ) := by
  refine em_CT_of (T := T_X10_clear ) (em_F_ok σ) (by decide) (fun p e s m args below meth c A ρ Q C hFok hF hret hlk hin => ?_) (me_X10_clear )
  unfold T_X10_clear
  refine List.forall_mem_cons.mpr ⟨s_aload_n C (by decide +kernel : decode c_X10_clear 0 = .ok (.aload_n 0, 1)) rfl rfl rfl, ?_⟩
  refine List.forall_mem_cons.mpr ⟨s_getf C (by decide +kernel : decode c_X10_clear 1 = .ok (.getfield 102, 3)) rfl rfl em_cl_X10 (by decide) ew700 rfl, ?_⟩
  refine List.forall_mem_cons.mpr ⟨s_istore_n C (by decide +kernel : decode c_X10_clear 4 = .ok (.istore_n 1, 1)) rfl rfl rfl (by decide), ?_⟩
  refine List.forall_mem_cons.mpr ⟨s_aload_n C (by decide +kernel : decode c_X10_clear 5 = .ok (.aload_n 0, 1)) rfl rfl rfl, ?_⟩
  refine List.forall_mem_cons.mpr ⟨s_iconst C (by decide +kernel : decode c_X10_clear 6 = .ok (.iconst 0, 1)) rfl rfl (by decide), ?_⟩
  refine List.forall_mem_cons.mpr ⟨s_putI C (by decide +kernel : decode c_X10_clear 7 = .ok (.putfield 102, 3)) rfl rfl em_cl_X10 (by decide) ew700 rfl (by decide) (by decide +kernel), ?_⟩
  refine List.forall_mem_cons.mpr ⟨s_iload_n C (by decide +kernel : decode c_X10_clear 10 = .ok (.iload_n 1, 1)) rfl rfl rfl, ?_⟩
  refine List.forall_mem_cons.mpr ⟨s_iret C (by decide +kernel : decode c_X10_clear 11 = .ok (.ireturn, 1)) hret hlk ⟨Nat.le_refl 0, Nat.le_refl 0⟩, ?_⟩
  exact fun _ h => absurd h List.not_mem_nil
def sp_X10_type : em_Sp := fun av hp Q => ∃ bk im kp asd rf qt ab be tx ty at9 st9 tk vl wd it mn so sb my we be9 rw fr c L, av = [.ref 0, .int c] ∧ hp = (wM bk im kp asd rf qt ab be tx ty at9 st9 tk vl wd it mn so sb my we be9 rw fr) ∧ ty = nI L ∧ L ≤ 150 ∧ (¬ (¬ c < 0 ∧ c ≤ 127) → Q (some (.int (-2))) (wM bk im kp asd (rfM qt rf 0) qt ab be tx ty at9 st9 tk vl wd it mn so sb my we be9 rw fr)) ∧ (¬ c < 0 → c ≤ 127 → L = 150 → Q (some (.int (-4))) (wM bk im kp asd (rfM qt rf 2) qt ab be tx ty at9 st9 tk vl wd it mn so sb my we be9 rw fr)) ∧ (¬ c < 0 → c ≤ 127 → L < 150 → Q (some (.int (nI (L + 1)))) (wM bk im kp asd rf qt ab be (upd tx L c) (nI (L + 1)) at9 st9 tk vl wd it mn so sb my we be9 rw fr))
def T_X10_type : List (Nat × em_Op) := [(0, o_iload 1 1), (1, o_i2l 2), (2, o_lconst 0 3), (3, o_lconst 127 6), (6, o_call 3 none (sp_X10_in) 9), (9, o_ifne 17 12), (12, o_aload 0 13), (13, o_call 1 (some 5) (sp_X10_bad) 16), (16, o_iret), (17, o_aload 0 18), (18, o_getf 5 9 21), (21, o_iconst 150 24), (24, o_icmpne 32 27), (27, o_aload 0 28), (28, o_call 1 (some 5) (sp_X10_full) 31), (31, o_iret), (32, o_aload 0 33), (33, o_getf 5 8 36), (36, o_aload 0 37), (37, o_getf 5 9 40), (40, o_iload 1 41), (41, o_iast 42), (42, o_aload 0 43), (43, o_dup 44), (44, o_getf 5 9 47), (47, o_iconst 1 48), (48, o_iadd 49), (49, o_putI 5 9 52), (52, o_aload 0 53), (53, o_getf 5 9 56), (56, o_iret)]
theorem me_X10_type : em_Me T_X10_type 2 sp_X10_type := by
  intro Q K hK hle av hp hs
  obtain ⟨bk, im, kp, asd, rf, qt, ab, be, tx, ty, at9, st9, tk, vl, wd, it, mn, so, sb, my, we, be9, rw, fr, c, L, rfl, rfl, rfl, hL, hbad, hf, hq⟩ := hs
  refine ⟨Nat.le_of_ble_eq_true rfl, hK 0 9999 0 _ _ _ ?_⟩
  refine ⟨_, _, _, rfl, fun z1 => ?_, fun z1 => ?_⟩
  · refine ⟨fun _ => ?_, fun z => absurd z (by decide)⟩
    obtain ⟨y1, y2⟩ := in_127.mp z1
    refine ⟨fun z => ?_, fun z => ?_⟩
    · have h8 : L < 150 := by
        rcases Nat.lt_or_ge L 150 with q | q
        · exact q
        · exact absurd (by rw [show L = 150 by omega]; rfl) z
      have hq := hq y1 y2 h8
      rw [← nI_1 L] at hq
      exact ⟨L, rfl, h8, hq⟩
    · exact ⟨_, _, _, _, _, _, _, _, _, _, _, _, _, _, _, _, _, _, _, _, _, _, _, _, rfl, rfl, hf y1 y2 ((nI_eq (b := 150) (by omega) (by omega)).mp z)⟩
  · exact ⟨fun z => absurd rfl z, fun _ => ⟨_, _, _, _, _, _, _, _, _, _, _, _, _, _, _, _, _, _, _, _, _, _, _, _, rfl, rfl, hbad (fun q => z1 (in_127.mpr q))⟩⟩
abbrev rm_X10_type : Room := { frames := 2, cells := 0, slots := 0, locals := 42 }
set_option maxRecDepth 100000 in
set_option maxHeartbeats 4000000 in
theorem ct_X10_type (l : Launch) (D : va_G) (dA : Nat → ClassId) (σ : Nat → Nat) : em_CT l D em_cl dA σ (em_F σ) y_X10_type c_X10_type 2 (Option.some ClassFile.FieldType.int) rm_X10_type (sp_X10_type ) := by
  refine em_CT_of (T := T_X10_type ) (em_F_ok σ) (by decide) (fun p e s m args below meth c A ρ Q C hFok hF hret hlk hin => ?_) (me_X10_type )
  unfold T_X10_type
  refine List.forall_mem_cons.mpr ⟨s_iload_n C (by decide +kernel : decode c_X10_type 0 = .ok (.iload_n 1, 1)) rfl rfl rfl, ?_⟩
  refine List.forall_mem_cons.mpr ⟨s_i2l C (by decide +kernel : decode c_X10_type 1 = .ok (.i2l, 1)) rfl rfl, ?_⟩
  refine List.forall_mem_cons.mpr ⟨s_lconst C (by decide +kernel : decode c_X10_type 2 = .ok (.lconst 0, 1)) rfl rfl (by decide), ?_⟩
  refine List.forall_mem_cons.mpr ⟨s_ldc2 C (by decide +kernel : decode c_X10_type 3 = .ok (.ldc2_w 100, 3)) rfl rfl ew829, ?_⟩
  refine List.forall_mem_cons.mpr ⟨s_callS C hFok hF (ct_X10_in l D dA σ) ⟨rfl, rfl⟩ ew771 ew769 ew770 ew6 ⟨by decide, by decide, by decide +kernel⟩ ⟨by decide, by decide⟩ (by decide +kernel : decode c_X10_type 6 = .ok (.invokestatic 69, 3)) rfl rfl ⟨Nat.zero_le _, Nat.zero_le _⟩, ?_⟩
  refine List.forall_mem_cons.mpr ⟨s_ifne C (by decide +kernel : decode c_X10_type 9 = .ok (.ifCond .ne 8, 3)) (by decide) rfl rfl rfl, ?_⟩
  refine List.forall_mem_cons.mpr ⟨s_aload_n C (by decide +kernel : decode c_X10_type 12 = .ok (.aload_n 0, 1)) rfl rfl rfl, ?_⟩
  refine List.forall_mem_cons.mpr ⟨s_callV C hFok hF (ct_X10_bad l D dA σ) ⟨rfl, rfl⟩ ew779 em_cl_X10 ew776 ew778 ewp13 ew6 ⟨by decide, by decide, by decide +kernel⟩ ⟨by decide, by decide⟩ (by decide +kernel : decode c_X10_type 13 = .ok (.invokevirtual 84, 3)) rfl rfl ⟨Nat.zero_le _, Nat.zero_le _⟩, ?_⟩
  refine List.forall_mem_cons.mpr ⟨s_iret C (by decide +kernel : decode c_X10_type 16 = .ok (.ireturn, 1)) hret hlk ⟨Nat.le_refl 0, Nat.le_refl 0⟩, ?_⟩
  refine List.forall_mem_cons.mpr ⟨s_aload_n C (by decide +kernel : decode c_X10_type 17 = .ok (.aload_n 0, 1)) rfl rfl rfl, ?_⟩
  refine List.forall_mem_cons.mpr ⟨s_getf C (by decide +kernel : decode c_X10_type 18 = .ok (.getfield 102, 3)) rfl rfl em_cl_X10 (by decide) ew700 rfl, ?_⟩
  refine List.forall_mem_cons.mpr ⟨s_sipush C (by decide +kernel : decode c_X10_type 21 = .ok (.sipush 150, 3)) rfl rfl (by decide), ?_⟩
  refine List.forall_mem_cons.mpr ⟨s_icmpne C (by decide +kernel : decode c_X10_type 24 = .ok (.if_icmp .ne 8, 3)) (by decide) rfl rfl rfl, ?_⟩
  refine List.forall_mem_cons.mpr ⟨s_aload_n C (by decide +kernel : decode c_X10_type 27 = .ok (.aload_n 0, 1)) rfl rfl rfl, ?_⟩
  refine List.forall_mem_cons.mpr ⟨s_callV C hFok hF (ct_X10_full l D dA σ) ⟨rfl, rfl⟩ ew787 em_cl_X10 ew784 ew786 ewp15 ew6 ⟨by decide, by decide, by decide +kernel⟩ ⟨by decide, by decide⟩ (by decide +kernel : decode c_X10_type 28 = .ok (.invokevirtual 88, 3)) rfl rfl ⟨Nat.zero_le _, Nat.zero_le _⟩, ?_⟩
  refine List.forall_mem_cons.mpr ⟨s_iret C (by decide +kernel : decode c_X10_type 31 = .ok (.ireturn, 1)) hret hlk ⟨Nat.le_refl 0, Nat.le_refl 0⟩, ?_⟩
  refine List.forall_mem_cons.mpr ⟨s_aload_n C (by decide +kernel : decode c_X10_type 32 = .ok (.aload_n 0, 1)) rfl rfl rfl, ?_⟩
  refine List.forall_mem_cons.mpr ⟨s_getf C (by decide +kernel : decode c_X10_type 33 = .ok (.getfield 26, 3)) rfl rfl em_cl_X10 (by decide) ew699 rfl, ?_⟩
  refine List.forall_mem_cons.mpr ⟨s_aload_n C (by decide +kernel : decode c_X10_type 36 = .ok (.aload_n 0, 1)) rfl rfl rfl, ?_⟩
  refine List.forall_mem_cons.mpr ⟨s_getf C (by decide +kernel : decode c_X10_type 37 = .ok (.getfield 102, 3)) rfl rfl em_cl_X10 (by decide) ew700 rfl, ?_⟩
  refine List.forall_mem_cons.mpr ⟨s_iload_n C (by decide +kernel : decode c_X10_type 40 = .ok (.iload_n 1, 1)) rfl rfl rfl, ?_⟩
  refine List.forall_mem_cons.mpr ⟨s_iast C (by decide +kernel : decode c_X10_type 41 = .ok (.iastore, 1)) rfl rfl, ?_⟩
  refine List.forall_mem_cons.mpr ⟨s_aload_n C (by decide +kernel : decode c_X10_type 42 = .ok (.aload_n 0, 1)) rfl rfl rfl, ?_⟩
  refine List.forall_mem_cons.mpr ⟨s_dup C (by decide +kernel : decode c_X10_type 43 = .ok (.dup, 1)) rfl rfl, ?_⟩
  refine List.forall_mem_cons.mpr ⟨s_getf C (by decide +kernel : decode c_X10_type 44 = .ok (.getfield 102, 3)) rfl rfl em_cl_X10 (by decide) ew700 rfl, ?_⟩
  refine List.forall_mem_cons.mpr ⟨s_iconst C (by decide +kernel : decode c_X10_type 47 = .ok (.iconst 1, 1)) rfl rfl (by decide), ?_⟩
  refine List.forall_mem_cons.mpr ⟨s_iadd C (by decide +kernel : decode c_X10_type 48 = .ok (.iadd, 1)) rfl rfl, ?_⟩
  refine List.forall_mem_cons.mpr ⟨s_putI C (by decide +kernel : decode c_X10_type 49 = .ok (.putfield 102, 3)) rfl rfl em_cl_X10 (by decide) ew700 rfl (by decide) (by decide +kernel), ?_⟩
  refine List.forall_mem_cons.mpr ⟨s_aload_n C (by decide +kernel : decode c_X10_type 52 = .ok (.aload_n 0, 1)) rfl rfl rfl, ?_⟩
  refine List.forall_mem_cons.mpr ⟨s_getf C (by decide +kernel : decode c_X10_type 53 = .ok (.getfield 102, 3)) rfl rfl em_cl_X10 (by decide) ew700 rfl, ?_⟩
  refine List.forall_mem_cons.mpr ⟨s_iret C (by decide +kernel : decode c_X10_type 56 = .ok (.ireturn, 1)) hret hlk ⟨Nat.le_refl 0, Nat.le_refl 0⟩, ?_⟩
  exact fun _ h => absurd h List.not_mem_nil
