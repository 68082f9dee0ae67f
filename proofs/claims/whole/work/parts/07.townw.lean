/-! ===== Town: what writes ===== -/
def sp_X7_begin : em_Sp := fun av hp Q => ∃ pe ki mi se we lea mst pa fi sd ev un ma ea co ca clt, av = [.ref 0] ∧ hp = (wT pe ki mi se we lea mst pa fi sd ev un ma ea co ca clt) ∧ Q none (wT (0) ki (0) (0) (0) (2) (4) (0) fi sd (0) (0) ma ea (0) ca clt)
def T_X7_begin : List (Nat × em_Op) := [(0, o_aload 0 1), (1, o_iconst 0 2), (2, o_putI 2 0 5), (5, o_aload 0 6), (6, o_lconst 0 7), (7, o_putL 2 2 10), (10, o_aload 0 11), (11, o_lconst 0 12), (12, o_putL 2 3 15), (15, o_aload 0 16), (16, o_iconst 0 17), (17, o_putI 2 4 20), (20, o_aload 0 21), (21, o_iconst 2 22), (22, o_putI 2 5 25), (25, o_aload 0 26), (26, o_iconst 4 27), (27, o_putI 2 6 30), (30, o_aload 0 31), (31, o_iconst 0 32), (32, o_putI 2 7 35), (35, o_aload 0 36), (36, o_iconst 0 37), (37, o_putI 2 10 40), (40, o_aload 0 41), (41, o_iconst 0 42), (42, o_putI 2 11 45), (45, o_aload 0 46), (46, o_iconst 0 47), (47, o_putI 2 14 50), (50, o_vret)]
theorem me_X7_begin : em_Me T_X7_begin 1 sp_X7_begin := by
  intro Q K hK hle av hp hs
  obtain ⟨pe, ki, mi, se, we, lea, mst, pa, fi, sd, ev, un, ma, ea, co, ca, clt, rfl, rfl, hq⟩ := hs
  exact ⟨Nat.le_of_ble_eq_true rfl, hK 0 99 0 _ _ _ hq⟩
abbrev rm_X7_begin : Room := { frames := 0, cells := 0, slots := 0, locals := 0 }
set_option maxRecDepth 100000 in
set_option maxHeartbeats 4000000 in
theorem ct_X7_begin (l : Launch) (D : va_G) (dA : Nat → ClassId) (σ : Nat → Nat) : em_CT l D em_cl dA σ (em_F σ) y_X7_begin c_X7_begin 1 (Option.none : Option ClassFile.FieldType) rm_X7_begin (sp_X7_begin ) := by
  refine em_CT_of (T := T_X7_begin ) (em_F_ok σ) (by decide) (fun p e s m args below meth c A ρ Q C hFok hF hret hlk hin => ?_) (me_X7_begin )
  unfold T_X7_begin
  refine List.forall_mem_cons.mpr ⟨s_aload_n C (by decide +kernel : decode c_X7_begin 0 = .ok (.aload_n 0, 1)) rfl rfl rfl, ?_⟩
  refine List.forall_mem_cons.mpr ⟨s_iconst C (by decide +kernel : decode c_X7_begin 1 = .ok (.iconst 0, 1)) rfl rfl (by decide), ?_⟩
  refine List.forall_mem_cons.mpr ⟨s_putI C (by decide +kernel : decode c_X7_begin 2 = .ok (.putfield 38, 3)) rfl rfl em_cl_X7 (by decide) ew85 rfl (by decide) (by decide +kernel), ?_⟩
  refine List.forall_mem_cons.mpr ⟨s_aload_n C (by decide +kernel : decode c_X7_begin 5 = .ok (.aload_n 0, 1)) rfl rfl rfl, ?_⟩
  refine List.forall_mem_cons.mpr ⟨s_lconst C (by decide +kernel : decode c_X7_begin 6 = .ok (.lconst 0, 1)) rfl rfl (by decide), ?_⟩
  refine List.forall_mem_cons.mpr ⟨s_putL C (by decide +kernel : decode c_X7_begin 7 = .ok (.putfield 42, 3)) rfl rfl em_cl_X7 (by decide) ew91 rfl (by decide) (by decide +kernel), ?_⟩
  refine List.forall_mem_cons.mpr ⟨s_aload_n C (by decide +kernel : decode c_X7_begin 10 = .ok (.aload_n 0, 1)) rfl rfl rfl, ?_⟩
  refine List.forall_mem_cons.mpr ⟨s_lconst C (by decide +kernel : decode c_X7_begin 11 = .ok (.lconst 0, 1)) rfl rfl (by decide), ?_⟩
  refine List.forall_mem_cons.mpr ⟨s_putL C (by decide +kernel : decode c_X7_begin 12 = .ok (.putfield 46, 3)) rfl rfl em_cl_X7 (by decide) ew95 rfl (by decide) (by decide +kernel), ?_⟩
  refine List.forall_mem_cons.mpr ⟨s_aload_n C (by decide +kernel : decode c_X7_begin 15 = .ok (.aload_n 0, 1)) rfl rfl rfl, ?_⟩
  refine List.forall_mem_cons.mpr ⟨s_iconst C (by decide +kernel : decode c_X7_begin 16 = .ok (.iconst 0, 1)) rfl rfl (by decide), ?_⟩
  refine List.forall_mem_cons.mpr ⟨s_putI C (by decide +kernel : decode c_X7_begin 17 = .ok (.putfield 49, 3)) rfl rfl em_cl_X7 (by decide) ew97 rfl (by decide) (by decide +kernel), ?_⟩
  refine List.forall_mem_cons.mpr ⟨s_aload_n C (by decide +kernel : decode c_X7_begin 20 = .ok (.aload_n 0, 1)) rfl rfl rfl, ?_⟩
  refine List.forall_mem_cons.mpr ⟨s_iconst C (by decide +kernel : decode c_X7_begin 21 = .ok (.iconst 2, 1)) rfl rfl (by decide), ?_⟩
  refine List.forall_mem_cons.mpr ⟨s_putI C (by decide +kernel : decode c_X7_begin 22 = .ok (.putfield 52, 3)) rfl rfl em_cl_X7 (by decide) ew98 rfl (by decide) (by decide +kernel), ?_⟩
  refine List.forall_mem_cons.mpr ⟨s_aload_n C (by decide +kernel : decode c_X7_begin 25 = .ok (.aload_n 0, 1)) rfl rfl rfl, ?_⟩
  refine List.forall_mem_cons.mpr ⟨s_iconst C (by decide +kernel : decode c_X7_begin 26 = .ok (.iconst 4, 1)) rfl rfl (by decide), ?_⟩
  refine List.forall_mem_cons.mpr ⟨s_putI C (by decide +kernel : decode c_X7_begin 27 = .ok (.putfield 55, 3)) rfl rfl em_cl_X7 (by decide) ew99 rfl (by decide) (by decide +kernel), ?_⟩
  refine List.forall_mem_cons.mpr ⟨s_aload_n C (by decide +kernel : decode c_X7_begin 30 = .ok (.aload_n 0, 1)) rfl rfl rfl, ?_⟩
  refine List.forall_mem_cons.mpr ⟨s_iconst C (by decide +kernel : decode c_X7_begin 31 = .ok (.iconst 0, 1)) rfl rfl (by decide), ?_⟩
  refine List.forall_mem_cons.mpr ⟨s_putI C (by decide +kernel : decode c_X7_begin 32 = .ok (.putfield 58, 3)) rfl rfl em_cl_X7 (by decide) ew100 rfl (by decide) (by decide +kernel), ?_⟩
  refine List.forall_mem_cons.mpr ⟨s_aload_n C (by decide +kernel : decode c_X7_begin 35 = .ok (.aload_n 0, 1)) rfl rfl rfl, ?_⟩
  refine List.forall_mem_cons.mpr ⟨s_iconst C (by decide +kernel : decode c_X7_begin 36 = .ok (.iconst 0, 1)) rfl rfl (by decide), ?_⟩
  refine List.forall_mem_cons.mpr ⟨s_putI C (by decide +kernel : decode c_X7_begin 37 = .ok (.putfield 61, 3)) rfl rfl em_cl_X7 (by decide) ew105 rfl (by decide) (by decide +kernel), ?_⟩
  refine List.forall_mem_cons.mpr ⟨s_aload_n C (by decide +kernel : decode c_X7_begin 40 = .ok (.aload_n 0, 1)) rfl rfl rfl, ?_⟩
  refine List.forall_mem_cons.mpr ⟨s_iconst C (by decide +kernel : decode c_X7_begin 41 = .ok (.iconst 0, 1)) rfl rfl (by decide), ?_⟩
  refine List.forall_mem_cons.mpr ⟨s_putI C (by decide +kernel : decode c_X7_begin 42 = .ok (.putfield 64, 3)) rfl rfl em_cl_X7 (by decide) ew107 rfl (by decide) (by decide +kernel), ?_⟩
  refine List.forall_mem_cons.mpr ⟨s_aload_n C (by decide +kernel : decode c_X7_begin 45 = .ok (.aload_n 0, 1)) rfl rfl rfl, ?_⟩
  refine List.forall_mem_cons.mpr ⟨s_iconst C (by decide +kernel : decode c_X7_begin 46 = .ok (.iconst 0, 1)) rfl rfl (by decide), ?_⟩
  refine List.forall_mem_cons.mpr ⟨s_putI C (by decide +kernel : decode c_X7_begin 47 = .ok (.putfield 67, 3)) rfl rfl em_cl_X7 (by decide) ew111 rfl (by decide) (by decide +kernel), ?_⟩
  refine List.forall_mem_cons.mpr ⟨s_vret C (by decide +kernel : decode c_X7_begin 50 = .ok (.return_, 1)) hret hlk ⟨Nat.le_refl 0, Nat.le_refl 0⟩, ?_⟩
  exact fun _ h => absurd h List.not_mem_nil
def sp_X7_welcome : em_Sp := fun av hp Q => ∃ pe ki mi se we lea mst pa fi sd ev un ma ea co ca clt k o n, av = [.ref 0, .int k, .int o] ∧ hp = (wT pe ki mi se we lea mst pa fi sd ev un ma ea co ca clt) ∧ pe = nI n ∧ n ≤ 6 ∧ (¬ (isk k ∧ iss o) → Q (some (.int (-2))) hp) ∧ (isk k → iss o → n = 6 → Q (some (.int (-4))) hp) ∧ (isk k → iss o → n < 6 → Q (some (.int (nI n))) (wT (nI (n + 1)) (upd ki n k) (mw mi (nI n) o) (mw se (nI n) o) we lea mst pa fi sd ev (0) ma ea co ca clt))
def T_X7_welcome : List (Nat × em_Op) := [(0, o_iload 1 1), (1, o_call 1 none (sp_X3_isKind) 4), (4, o_ifeq 14 7), (7, o_iload 2 8), (8, o_call 1 none (sp_X9_isSet) 11), (11, o_ifne 17 14), (14, o_iconst (-2) 16), (16, o_iret), (17, o_aload 0 18), (18, o_getf 2 0 21), (21, o_iconst 6 23), (23, o_icmplt 29 26), (26, o_iconst (-4) 28), (28, o_iret), (29, o_aload 0 30), (30, o_getf 2 0 33), (33, o_istore 3 34), (34, o_aload 0 35), (35, o_dup 36), (36, o_getf 2 0 39), (39, o_iconst 1 40), (40, o_iadd 41), (41, o_putI 2 0 44), (44, o_aload 0 45), (45, o_getf 2 1 48), (48, o_iload 3 49), (49, o_iload 1 50), (50, o_iast 51), (51, o_aload 0 52), (52, o_aload 0 53), (53, o_getf 2 2 56), (56, o_iload 3 57), (57, o_iload 2 58), (58, o_call 3 none (sp_X5_with) 61), (61, o_putL 2 2 64), (64, o_aload 0 65), (65, o_aload 0 66), (66, o_getf 2 3 69), (69, o_iload 3 70), (70, o_iload 2 71), (71, o_call 3 none (sp_X5_with) 74), (74, o_putL 2 3 77), (77, o_aload 0 78), (78, o_iconst 0 79), (79, o_putI 2 11 82), (82, o_iload 3 83), (83, o_iret)]
theorem me_X7_welcome : em_Me T_X7_welcome 4 sp_X7_welcome := by
  intro Q K hK hle av hp hs
  obtain ⟨pe, ki, mi, se, we, lea, mst, pa, fi, sd, ev, un, ma, ea, co, ca, clt, k, o, n, rfl, rfl, rfl, hn, hb, hf, hq⟩ := hs
  refine ⟨Nat.le_of_ble_eq_true rfl, ?_⟩
  refine hK 0 99 0 _ _ _ ?_
  refine ⟨_, rfl, fun z1 => ?_, fun z1 => ?_⟩
  · refine ⟨fun z => absurd z (by decide), fun _ => ?_⟩
    refine ⟨_, rfl, fun z2 => ?_, fun z2 => ?_⟩
    · refine ⟨fun _ => ?_, fun z => absurd z (by decide)⟩
      refine ⟨fun z3 => ?_, fun z3 => ?_⟩
      · have h6 : n < 6 := (nI_ltI (b := 6) (by omega) (by omega)).mp z3
        refine ⟨n, rfl, by omega, _, _, _, rfl, _, _, _, rfl, ?_⟩
        have := hq z1 z2 h6
        rw [← nI_1] at this
        exact this
      · have h6 : n = 6 := by
          have : ¬ n < 6 := fun y => z3 (nI_lt (b := 6) y (by omega))
          omega
        exact hf z1 z2 h6
    · exact ⟨fun z => absurd rfl z, fun _ => hb (fun y => z2 y.2)⟩
  · exact ⟨fun _ => hb (fun y => z1 y.1), fun z => absurd z (by decide)⟩
abbrev rm_X7_welcome : Room := { frames := 1, cells := 0, slots := 0, locals := 24 }
set_option maxRecDepth 100000 in
set_option maxHeartbeats 4000000 in
theorem ct_X7_welcome (l : Launch) (D : va_G) (dA : Nat → ClassId) (σ : Nat → Nat) : em_CT l D em_cl dA σ (em_F σ) y_X7_welcome c_X7_welcome 4 (Option.some ClassFile.FieldType.int) rm_X7_welcome (sp_X7_welcome ) := by
  refine em_CT_of (T := T_X7_welcome ) (em_F_ok σ) (by decide) (fun p e s m args below meth c A ρ Q C hFok hF hret hlk hin => ?_) (me_X7_welcome )
  unfold T_X7_welcome
  refine List.forall_mem_cons.mpr ⟨s_iload_n C (by decide +kernel : decode c_X7_welcome 0 = .ok (.iload_n 1, 1)) rfl rfl rfl, ?_⟩
  refine List.forall_mem_cons.mpr ⟨s_callS C hFok hF (ct_X3_isKind l D dA σ) ⟨rfl, rfl⟩ ew184 ew182 ew183 ew7 ⟨by decide, by decide, by decide +kernel⟩ ⟨by decide, by decide⟩ (by decide +kernel : decode c_X7_welcome 1 = .ok (.invokestatic 80, 3)) rfl rfl ⟨Nat.zero_le _, Nat.zero_le _⟩, ?_⟩
  refine List.forall_mem_cons.mpr ⟨s_ifeq C (by decide +kernel : decode c_X7_welcome 4 = .ok (.ifCond .eq 10, 3)) (by decide) rfl rfl rfl, ?_⟩
  refine List.forall_mem_cons.mpr ⟨s_iload_n C (by decide +kernel : decode c_X7_welcome 7 = .ok (.iload_n 2, 1)) rfl rfl rfl, ?_⟩
  refine List.forall_mem_cons.mpr ⟨s_callSN C hFok hF (ct_X9_isSet l D dA σ) ⟨rfl, rfl⟩ ew187 (em_F_nest (host := "WedApart") hF () (by decide +kernel)) ew186 ew1 ⟨by decide, by decide, by decide +kernel⟩ ⟨by decide, by decide⟩ (by decide +kernel : decode c_X7_welcome 8 = .ok (.invokestatic 85, 3)) rfl rfl ⟨Nat.zero_le _, Nat.zero_le _⟩, ?_⟩
  refine List.forall_mem_cons.mpr ⟨s_ifne C (by decide +kernel : decode c_X7_welcome 11 = .ok (.ifCond .ne 6, 3)) (by decide) rfl rfl rfl, ?_⟩
  refine List.forall_mem_cons.mpr ⟨s_bipush C (by decide +kernel : decode c_X7_welcome 14 = .ok (.bipush (-2), 2)) rfl rfl (by decide), ?_⟩
  refine List.forall_mem_cons.mpr ⟨s_iret C (by decide +kernel : decode c_X7_welcome 16 = .ok (.ireturn, 1)) hret hlk ⟨Nat.le_refl 0, Nat.le_refl 0⟩, ?_⟩
  refine List.forall_mem_cons.mpr ⟨s_aload_n C (by decide +kernel : decode c_X7_welcome 17 = .ok (.aload_n 0, 1)) rfl rfl rfl, ?_⟩
  refine List.forall_mem_cons.mpr ⟨s_getf C (by decide +kernel : decode c_X7_welcome 18 = .ok (.getfield 38, 3)) rfl rfl em_cl_X7 (by decide) ew85 rfl, ?_⟩
  refine List.forall_mem_cons.mpr ⟨s_bipush C (by decide +kernel : decode c_X7_welcome 21 = .ok (.bipush 6, 2)) rfl rfl (by decide), ?_⟩
  refine List.forall_mem_cons.mpr ⟨s_icmplt C (by decide +kernel : decode c_X7_welcome 23 = .ok (.if_icmp .lt 6, 3)) (by decide) rfl rfl rfl, ?_⟩
  refine List.forall_mem_cons.mpr ⟨s_bipush C (by decide +kernel : decode c_X7_welcome 26 = .ok (.bipush (-4), 2)) rfl rfl (by decide), ?_⟩
  refine List.forall_mem_cons.mpr ⟨s_iret C (by decide +kernel : decode c_X7_welcome 28 = .ok (.ireturn, 1)) hret hlk ⟨Nat.le_refl 0, Nat.le_refl 0⟩, ?_⟩
  refine List.forall_mem_cons.mpr ⟨s_aload_n C (by decide +kernel : decode c_X7_welcome 29 = .ok (.aload_n 0, 1)) rfl rfl rfl, ?_⟩
  refine List.forall_mem_cons.mpr ⟨s_getf C (by decide +kernel : decode c_X7_welcome 30 = .ok (.getfield 38, 3)) rfl rfl em_cl_X7 (by decide) ew85 rfl, ?_⟩
  refine List.forall_mem_cons.mpr ⟨s_istore_n C (by decide +kernel : decode c_X7_welcome 33 = .ok (.istore_n 3, 1)) rfl rfl rfl (by decide), ?_⟩
  refine List.forall_mem_cons.mpr ⟨s_aload_n C (by decide +kernel : decode c_X7_welcome 34 = .ok (.aload_n 0, 1)) rfl rfl rfl, ?_⟩
  refine List.forall_mem_cons.mpr ⟨s_dup C (by decide +kernel : decode c_X7_welcome 35 = .ok (.dup, 1)) rfl rfl, ?_⟩
  refine List.forall_mem_cons.mpr ⟨s_getf C (by decide +kernel : decode c_X7_welcome 36 = .ok (.getfield 38, 3)) rfl rfl em_cl_X7 (by decide) ew85 rfl, ?_⟩
  refine List.forall_mem_cons.mpr ⟨s_iconst C (by decide +kernel : decode c_X7_welcome 39 = .ok (.iconst 1, 1)) rfl rfl (by decide), ?_⟩
  refine List.forall_mem_cons.mpr ⟨s_iadd C (by decide +kernel : decode c_X7_welcome 40 = .ok (.iadd, 1)) rfl rfl, ?_⟩
  refine List.forall_mem_cons.mpr ⟨s_putI C (by decide +kernel : decode c_X7_welcome 41 = .ok (.putfield 38, 3)) rfl rfl em_cl_X7 (by decide) ew85 rfl (by decide) (by decide +kernel), ?_⟩
  refine List.forall_mem_cons.mpr ⟨s_aload_n C (by decide +kernel : decode c_X7_welcome 44 = .ok (.aload_n 0, 1)) rfl rfl rfl, ?_⟩
  refine List.forall_mem_cons.mpr ⟨s_getf C (by decide +kernel : decode c_X7_welcome 45 = .ok (.getfield 9, 3)) rfl rfl em_cl_X7 (by decide) ew89 rfl, ?_⟩
  refine List.forall_mem_cons.mpr ⟨s_iload_n C (by decide +kernel : decode c_X7_welcome 48 = .ok (.iload_n 3, 1)) rfl rfl rfl, ?_⟩
  refine List.forall_mem_cons.mpr ⟨s_iload_n C (by decide +kernel : decode c_X7_welcome 49 = .ok (.iload_n 1, 1)) rfl rfl rfl, ?_⟩
  refine List.forall_mem_cons.mpr ⟨s_iast C (by decide +kernel : decode c_X7_welcome 50 = .ok (.iastore, 1)) rfl rfl, ?_⟩
  refine List.forall_mem_cons.mpr ⟨s_aload_n C (by decide +kernel : decode c_X7_welcome 51 = .ok (.aload_n 0, 1)) rfl rfl rfl, ?_⟩
  refine List.forall_mem_cons.mpr ⟨s_aload_n C (by decide +kernel : decode c_X7_welcome 52 = .ok (.aload_n 0, 1)) rfl rfl rfl, ?_⟩
  refine List.forall_mem_cons.mpr ⟨s_getf C (by decide +kernel : decode c_X7_welcome 53 = .ok (.getfield 42, 3)) rfl rfl em_cl_X7 (by decide) ew91 rfl, ?_⟩
  refine List.forall_mem_cons.mpr ⟨s_iload_n C (by decide +kernel : decode c_X7_welcome 56 = .ok (.iload_n 3, 1)) rfl rfl rfl, ?_⟩
  refine List.forall_mem_cons.mpr ⟨s_iload_n C (by decide +kernel : decode c_X7_welcome 57 = .ok (.iload_n 2, 1)) rfl rfl rfl, ?_⟩
  refine List.forall_mem_cons.mpr ⟨s_callS C hFok hF (ct_X5_with l D dA σ) ⟨rfl, rfl⟩ ew190 ew188 ew189 ew8 ⟨by decide, by decide, by decide +kernel⟩ ⟨by decide, by decide⟩ (by decide +kernel : decode c_X7_welcome 58 = .ok (.invokestatic 88, 3)) rfl rfl ⟨Nat.zero_le _, Nat.zero_le _⟩, ?_⟩
  refine List.forall_mem_cons.mpr ⟨s_putL C (by decide +kernel : decode c_X7_welcome 61 = .ok (.putfield 42, 3)) rfl rfl em_cl_X7 (by decide) ew91 rfl (by decide) (by decide +kernel), ?_⟩
  refine List.forall_mem_cons.mpr ⟨s_aload_n C (by decide +kernel : decode c_X7_welcome 64 = .ok (.aload_n 0, 1)) rfl rfl rfl, ?_⟩
  refine List.forall_mem_cons.mpr ⟨s_aload_n C (by decide +kernel : decode c_X7_welcome 65 = .ok (.aload_n 0, 1)) rfl rfl rfl, ?_⟩
  refine List.forall_mem_cons.mpr ⟨s_getf C (by decide +kernel : decode c_X7_welcome 66 = .ok (.getfield 46, 3)) rfl rfl em_cl_X7 (by decide) ew95 rfl, ?_⟩
  refine List.forall_mem_cons.mpr ⟨s_iload_n C (by decide +kernel : decode c_X7_welcome 69 = .ok (.iload_n 3, 1)) rfl rfl rfl, ?_⟩
  refine List.forall_mem_cons.mpr ⟨s_iload_n C (by decide +kernel : decode c_X7_welcome 70 = .ok (.iload_n 2, 1)) rfl rfl rfl, ?_⟩
  refine List.forall_mem_cons.mpr ⟨s_callS C hFok hF (ct_X5_with l D dA σ) ⟨rfl, rfl⟩ ew190 ew188 ew189 ew8 ⟨by decide, by decide, by decide +kernel⟩ ⟨by decide, by decide⟩ (by decide +kernel : decode c_X7_welcome 71 = .ok (.invokestatic 88, 3)) rfl rfl ⟨Nat.zero_le _, Nat.zero_le _⟩, ?_⟩
  refine List.forall_mem_cons.mpr ⟨s_putL C (by decide +kernel : decode c_X7_welcome 74 = .ok (.putfield 46, 3)) rfl rfl em_cl_X7 (by decide) ew95 rfl (by decide) (by decide +kernel), ?_⟩
  refine List.forall_mem_cons.mpr ⟨s_aload_n C (by decide +kernel : decode c_X7_welcome 77 = .ok (.aload_n 0, 1)) rfl rfl rfl, ?_⟩
  refine List.forall_mem_cons.mpr ⟨s_iconst C (by decide +kernel : decode c_X7_welcome 78 = .ok (.iconst 0, 1)) rfl rfl (by decide), ?_⟩
  refine List.forall_mem_cons.mpr ⟨s_putI C (by decide +kernel : decode c_X7_welcome 79 = .ok (.putfield 64, 3)) rfl rfl em_cl_X7 (by decide) ew107 rfl (by decide) (by decide +kernel), ?_⟩
  refine List.forall_mem_cons.mpr ⟨s_iload_n C (by decide +kernel : decode c_X7_welcome 82 = .ok (.iload_n 3, 1)) rfl rfl rfl, ?_⟩
  refine List.forall_mem_cons.mpr ⟨s_iret C (by decide +kernel : decode c_X7_welcome 83 = .ok (.ireturn, 1)) hret hlk ⟨Nat.le_refl 0, Nat.le_refl 0⟩, ?_⟩
  exact fun _ h => absurd h List.not_mem_nil
def sp_X7_tell : em_Sp := fun av hp Q => ∃ pe ki mi se we lea mst pa fi sd ev un ma ea co ca clt p o, av = [.ref 0, .int p, .int o] ∧ hp = (wT pe ki mi se we lea mst pa fi sd ev un ma ea co ca clt) ∧ Q (some (.int (mo mi p))) (wT pe ki (mw mi p o) se we lea mst pa fi sd ev (0) ma ea co ca clt)
def T_X7_tell : List (Nat × em_Op) := [(0, o_aload 0 1), (1, o_getf 2 2 4), (4, o_iload 1 5), (5, o_call 2 none (sp_X5_of) 8), (8, o_istore 3 9), (9, o_aload 0 10), (10, o_aload 0 11), (11, o_getf 2 2 14), (14, o_iload 1 15), (15, o_iload 2 16), (16, o_call 3 none (sp_X5_with) 19), (19, o_putL 2 2 22), (22, o_aload 0 23), (23, o_iconst 0 24), (24, o_putI 2 11 27), (27, o_iload 3 28), (28, o_iret)]
theorem me_X7_tell : em_Me T_X7_tell 4 sp_X7_tell := by
  intro Q K hK hle av hp hs
  obtain ⟨pe, ki, mi, se, we, lea, mst, pa, fi, sd, ev, un, ma, ea, co, ca, clt, p, o, rfl, rfl, hq⟩ := hs
  exact ⟨Nat.le_of_ble_eq_true rfl, hK 0 99 0 _ _ _ ⟨_, _, rfl, _, _, _, rfl, hq⟩⟩
abbrev rm_X7_tell : Room := { frames := 1, cells := 0, slots := 0, locals := 24 }
set_option maxRecDepth 100000 in
set_option maxHeartbeats 4000000 in
theorem ct_X7_tell (l : Launch) (D : va_G) (dA : Nat → ClassId) (σ : Nat → Nat) : em_CT l D em_cl dA σ (em_F σ) y_X7_tell c_X7_tell 4 (Option.some ClassFile.FieldType.int) rm_X7_tell (sp_X7_tell ) := by
  refine em_CT_of (T := T_X7_tell ) (em_F_ok σ) (by decide) (fun p e s m args below meth c A ρ Q C hFok hF hret hlk hin => ?_) (me_X7_tell )
  unfold T_X7_tell
  refine List.forall_mem_cons.mpr ⟨s_aload_n C (by decide +kernel : decode c_X7_tell 0 = .ok (.aload_n 0, 1)) rfl rfl rfl, ?_⟩
  refine List.forall_mem_cons.mpr ⟨s_getf C (by decide +kernel : decode c_X7_tell 1 = .ok (.getfield 42, 3)) rfl rfl em_cl_X7 (by decide) ew91 rfl, ?_⟩
  refine List.forall_mem_cons.mpr ⟨s_iload_n C (by decide +kernel : decode c_X7_tell 4 = .ok (.iload_n 1, 1)) rfl rfl rfl, ?_⟩
  refine List.forall_mem_cons.mpr ⟨s_callS C hFok hF (ct_X5_of l D dA σ) ⟨rfl, rfl⟩ ew216 ew214 ew215 ew8 ⟨by decide, by decide, by decide +kernel⟩ ⟨by decide, by decide⟩ (by decide +kernel : decode c_X7_tell 5 = .ok (.invokestatic 94, 3)) rfl rfl ⟨Nat.zero_le _, Nat.zero_le _⟩, ?_⟩
  refine List.forall_mem_cons.mpr ⟨s_istore_n C (by decide +kernel : decode c_X7_tell 8 = .ok (.istore_n 3, 1)) rfl rfl rfl (by decide), ?_⟩
  refine List.forall_mem_cons.mpr ⟨s_aload_n C (by decide +kernel : decode c_X7_tell 9 = .ok (.aload_n 0, 1)) rfl rfl rfl, ?_⟩
  refine List.forall_mem_cons.mpr ⟨s_aload_n C (by decide +kernel : decode c_X7_tell 10 = .ok (.aload_n 0, 1)) rfl rfl rfl, ?_⟩
  refine List.forall_mem_cons.mpr ⟨s_getf C (by decide +kernel : decode c_X7_tell 11 = .ok (.getfield 42, 3)) rfl rfl em_cl_X7 (by decide) ew91 rfl, ?_⟩
  refine List.forall_mem_cons.mpr ⟨s_iload_n C (by decide +kernel : decode c_X7_tell 14 = .ok (.iload_n 1, 1)) rfl rfl rfl, ?_⟩
  refine List.forall_mem_cons.mpr ⟨s_iload_n C (by decide +kernel : decode c_X7_tell 15 = .ok (.iload_n 2, 1)) rfl rfl rfl, ?_⟩
  refine List.forall_mem_cons.mpr ⟨s_callS C hFok hF (ct_X5_with l D dA σ) ⟨rfl, rfl⟩ ew190 ew188 ew189 ew8 ⟨by decide, by decide, by decide +kernel⟩ ⟨by decide, by decide⟩ (by decide +kernel : decode c_X7_tell 16 = .ok (.invokestatic 88, 3)) rfl rfl ⟨Nat.zero_le _, Nat.zero_le _⟩, ?_⟩
  refine List.forall_mem_cons.mpr ⟨s_putL C (by decide +kernel : decode c_X7_tell 19 = .ok (.putfield 42, 3)) rfl rfl em_cl_X7 (by decide) ew91 rfl (by decide) (by decide +kernel), ?_⟩
  refine List.forall_mem_cons.mpr ⟨s_aload_n C (by decide +kernel : decode c_X7_tell 22 = .ok (.aload_n 0, 1)) rfl rfl rfl, ?_⟩
  refine List.forall_mem_cons.mpr ⟨s_iconst C (by decide +kernel : decode c_X7_tell 23 = .ok (.iconst 0, 1)) rfl rfl (by decide), ?_⟩
  refine List.forall_mem_cons.mpr ⟨s_putI C (by decide +kernel : decode c_X7_tell 24 = .ok (.putfield 64, 3)) rfl rfl em_cl_X7 (by decide) ew107 rfl (by decide) (by decide +kernel), ?_⟩
  refine List.forall_mem_cons.mpr ⟨s_iload_n C (by decide +kernel : decode c_X7_tell 27 = .ok (.iload_n 3, 1)) rfl rfl rfl, ?_⟩
  refine List.forall_mem_cons.mpr ⟨s_iret C (by decide +kernel : decode c_X7_tell 28 = .ok (.ireturn, 1)) hret hlk ⟨Nat.le_refl 0, Nat.le_refl 0⟩, ?_⟩
  exact fun _ h => absurd h List.not_mem_nil
def sp_X7_turn : em_Sp := fun av hp Q => ∃ pe ki mi se we lea mst pa fi sd ev un ma ea co ca clt p k n, av = [.ref 0, .int p, .int k] ∧ hp = (wT pe ki mi se we lea mst pa fi sd ev un ma ea co ca clt) ∧ pe = nI n ∧ n ≤ 6 ∧ (¬ hs pe p → Q (some (.int (-2))) hp) ∧ (∀ j, p = nI j → j < n → Q (some (.int (ki j))) (wT pe (upd ki j k) mi se we lea mst pa fi sd ev un ma ea co ca clt))
def T_X7_turn : List (Nat × em_Op) := [(0, o_aload 0 1), (1, o_iload 1 2), (2, o_call 2 (some 2) (sp_X7_has) 5), (5, o_ifne 11 8), (8, o_iconst (-2) 10), (10, o_iret), (11, o_aload 0 12), (12, o_getf 2 1 15), (15, o_iload 1 16), (16, o_aldI 0 17), (17, o_istore 3 18), (18, o_aload 0 19), (19, o_getf 2 1 22), (22, o_iload 1 23), (23, o_iload 2 24), (24, o_iast 25), (25, o_iload 3 26), (26, o_iret)]
theorem me_X7_turn : em_Me T_X7_turn 4 sp_X7_turn := by
  intro Q K hK hle av hp hs
  obtain ⟨pe, ki, mi, se, we, lea, mst, pa, fi, sd, ev, un, ma, ea, co, ca, clt, p, k, n, rfl, rfl, rfl, hn, hb, hq⟩ := hs
  refine ⟨Nat.le_of_ble_eq_true rfl, ?_⟩
  refine hK 0 99 0 _ _ _ ?_
  refine ⟨_, _, _, _, _, _, _, _, _, _, _, _, _, _, _, _, _, _, rfl, rfl, fun z1 => ?_, fun z1 => ?_⟩
  · refine ⟨fun _ => ?_, fun z => absurd z (by decide)⟩
    obtain ⟨j, hj, rfl⟩ := nI_at rfl z1
    exact ⟨j, rfl, by omega, j, rfl, by omega, hq j rfl hj⟩
  · exact ⟨fun z => absurd rfl z, fun _ => hb z1⟩
abbrev rm_X7_turn : Room := { frames := 1, cells := 0, slots := 0, locals := 21 }
set_option maxRecDepth 100000 in
set_option maxHeartbeats 4000000 in
theorem ct_X7_turn (l : Launch) (D : va_G) (dA : Nat → ClassId) (σ : Nat → Nat) : em_CT l D em_cl dA σ (em_F σ) y_X7_turn c_X7_turn 4 (Option.some ClassFile.FieldType.int) rm_X7_turn (sp_X7_turn ) := by
  refine em_CT_of (T := T_X7_turn ) (em_F_ok σ) (by decide) (fun p e s m args below meth c A ρ Q C hFok hF hret hlk hin => ?_) (me_X7_turn )
  unfold T_X7_turn
  refine List.forall_mem_cons.mpr ⟨s_aload_n C (by decide +kernel : decode c_X7_turn 0 = .ok (.aload_n 0, 1)) rfl rfl rfl, ?_⟩
  refine List.forall_mem_cons.mpr ⟨s_iload_n C (by decide +kernel : decode c_X7_turn 1 = .ok (.iload_n 1, 1)) rfl rfl rfl, ?_⟩
  refine List.forall_mem_cons.mpr ⟨s_callV C hFok hF (ct_X7_has l D dA σ) ⟨rfl, rfl⟩ ew208 em_cl_X7 ew226 ew206 ew207 ew5 ⟨by decide, by decide, by decide +kernel⟩ ⟨by decide, by decide⟩ (by decide +kernel : decode c_X7_turn 2 = .ok (.invokevirtual 76, 3)) rfl rfl ⟨Nat.zero_le _, Nat.zero_le _⟩, ?_⟩
  refine List.forall_mem_cons.mpr ⟨s_ifne C (by decide +kernel : decode c_X7_turn 5 = .ok (.ifCond .ne 6, 3)) (by decide) rfl rfl rfl, ?_⟩
  refine List.forall_mem_cons.mpr ⟨s_bipush C (by decide +kernel : decode c_X7_turn 8 = .ok (.bipush (-2), 2)) rfl rfl (by decide), ?_⟩
  refine List.forall_mem_cons.mpr ⟨s_iret C (by decide +kernel : decode c_X7_turn 10 = .ok (.ireturn, 1)) hret hlk ⟨Nat.le_refl 0, Nat.le_refl 0⟩, ?_⟩
  refine List.forall_mem_cons.mpr ⟨s_aload_n C (by decide +kernel : decode c_X7_turn 11 = .ok (.aload_n 0, 1)) rfl rfl rfl, ?_⟩
  refine List.forall_mem_cons.mpr ⟨s_getf C (by decide +kernel : decode c_X7_turn 12 = .ok (.getfield 9, 3)) rfl rfl em_cl_X7 (by decide) ew89 rfl, ?_⟩
  refine List.forall_mem_cons.mpr ⟨s_iload_n C (by decide +kernel : decode c_X7_turn 15 = .ok (.iload_n 1, 1)) rfl rfl rfl, ?_⟩
  refine List.forall_mem_cons.mpr ⟨s_iald C (by decide +kernel : decode c_X7_turn 16 = .ok (.iaload, 1)) rfl rfl, ?_⟩
  refine List.forall_mem_cons.mpr ⟨s_istore_n C (by decide +kernel : decode c_X7_turn 17 = .ok (.istore_n 3, 1)) rfl rfl rfl (by decide), ?_⟩
  refine List.forall_mem_cons.mpr ⟨s_aload_n C (by decide +kernel : decode c_X7_turn 18 = .ok (.aload_n 0, 1)) rfl rfl rfl, ?_⟩
  refine List.forall_mem_cons.mpr ⟨s_getf C (by decide +kernel : decode c_X7_turn 19 = .ok (.getfield 9, 3)) rfl rfl em_cl_X7 (by decide) ew89 rfl, ?_⟩
  refine List.forall_mem_cons.mpr ⟨s_iload_n C (by decide +kernel : decode c_X7_turn 22 = .ok (.iload_n 1, 1)) rfl rfl rfl, ?_⟩
  refine List.forall_mem_cons.mpr ⟨s_iload_n C (by decide +kernel : decode c_X7_turn 23 = .ok (.iload_n 2, 1)) rfl rfl rfl, ?_⟩
  refine List.forall_mem_cons.mpr ⟨s_iast C (by decide +kernel : decode c_X7_turn 24 = .ok (.iastore, 1)) rfl rfl, ?_⟩
  refine List.forall_mem_cons.mpr ⟨s_iload_n C (by decide +kernel : decode c_X7_turn 25 = .ok (.iload_n 3, 1)) rfl rfl rfl, ?_⟩
  refine List.forall_mem_cons.mpr ⟨s_iret C (by decide +kernel : decode c_X7_turn 26 = .ok (.ireturn, 1)) hret hlk ⟨Nat.le_refl 0, Nat.le_refl 0⟩, ?_⟩
  exact fun _ h => absurd h List.not_mem_nil
def sp_X7_weigh : em_Sp := fun av hp Q => ∃ pe ki mi se we lea mst pa fi sd ev un ma ea co ca clt x, av = [.ref 0, .int x] ∧ hp = (wT pe ki mi se we lea mst pa fi sd ev un ma ea co ca clt) ∧ (¬ iss x → Q (some (.int (-2))) hp) ∧ (iss x → Q (some (.int we)) (wT pe ki mi se (x) lea mst pa fi sd ev un ma ea co ca clt))
def T_X7_weigh : List (Nat × em_Op) := [(0, o_iload 1 1), (1, o_call 1 none (sp_X9_isSet) 4), (4, o_ifne 10 7), (7, o_iconst (-2) 9), (9, o_iret), (10, o_aload 0 11), (11, o_getf 2 4 14), (14, o_istore 2 15), (15, o_aload 0 16), (16, o_iload 1 17), (17, o_putI 2 4 20), (20, o_iload 2 21), (21, o_iret)]
theorem me_X7_weigh : em_Me T_X7_weigh 3 sp_X7_weigh := by
  intro Q K hK hle av hp hs
  obtain ⟨pe, ki, mi, se, we, lea, mst, pa, fi, sd, ev, un, ma, ea, co, ca, clt, x, rfl, rfl, hb, hq⟩ := hs
  refine ⟨Nat.le_of_ble_eq_true rfl, ?_⟩
  refine hK 0 99 0 _ _ _ ?_
  refine ⟨_, rfl, fun z1 => ?_, fun z1 => ?_⟩
  · exact ⟨fun _ => hq z1, fun z => absurd z (by decide)⟩
  · exact ⟨fun z => absurd rfl z, fun _ => hb z1⟩
abbrev rm_X7_weigh : Room := { frames := 1, cells := 0, slots := 0, locals := 20 }
set_option maxRecDepth 100000 in
set_option maxHeartbeats 4000000 in
theorem ct_X7_weigh (l : Launch) (D : va_G) (dA : Nat → ClassId) (σ : Nat → Nat) : em_CT l D em_cl dA σ (em_F σ) y_X7_weigh c_X7_weigh 3 (Option.some ClassFile.FieldType.int) rm_X7_weigh (sp_X7_weigh ) := by
  refine em_CT_of (T := T_X7_weigh ) (em_F_ok σ) (by decide) (fun p e s m args below meth c A ρ Q C hFok hF hret hlk hin => ?_) (me_X7_weigh )
  unfold T_X7_weigh
  refine List.forall_mem_cons.mpr ⟨s_iload_n C (by decide +kernel : decode c_X7_weigh 0 = .ok (.iload_n 1, 1)) rfl rfl rfl, ?_⟩
  refine List.forall_mem_cons.mpr ⟨s_callSN C hFok hF (ct_X9_isSet l D dA σ) ⟨rfl, rfl⟩ ew187 (em_F_nest (host := "WedApart") hF () (by decide +kernel)) ew186 ew1 ⟨by decide, by decide, by decide +kernel⟩ ⟨by decide, by decide⟩ (by decide +kernel : decode c_X7_weigh 1 = .ok (.invokestatic 85, 3)) rfl rfl ⟨Nat.zero_le _, Nat.zero_le _⟩, ?_⟩
  refine List.forall_mem_cons.mpr ⟨s_ifne C (by decide +kernel : decode c_X7_weigh 4 = .ok (.ifCond .ne 6, 3)) (by decide) rfl rfl rfl, ?_⟩
  refine List.forall_mem_cons.mpr ⟨s_bipush C (by decide +kernel : decode c_X7_weigh 7 = .ok (.bipush (-2), 2)) rfl rfl (by decide), ?_⟩
  refine List.forall_mem_cons.mpr ⟨s_iret C (by decide +kernel : decode c_X7_weigh 9 = .ok (.ireturn, 1)) hret hlk ⟨Nat.le_refl 0, Nat.le_refl 0⟩, ?_⟩
  refine List.forall_mem_cons.mpr ⟨s_aload_n C (by decide +kernel : decode c_X7_weigh 10 = .ok (.aload_n 0, 1)) rfl rfl rfl, ?_⟩
  refine List.forall_mem_cons.mpr ⟨s_getf C (by decide +kernel : decode c_X7_weigh 11 = .ok (.getfield 49, 3)) rfl rfl em_cl_X7 (by decide) ew97 rfl, ?_⟩
  refine List.forall_mem_cons.mpr ⟨s_istore_n C (by decide +kernel : decode c_X7_weigh 14 = .ok (.istore_n 2, 1)) rfl rfl rfl (by decide), ?_⟩
  refine List.forall_mem_cons.mpr ⟨s_aload_n C (by decide +kernel : decode c_X7_weigh 15 = .ok (.aload_n 0, 1)) rfl rfl rfl, ?_⟩
  refine List.forall_mem_cons.mpr ⟨s_iload_n C (by decide +kernel : decode c_X7_weigh 16 = .ok (.iload_n 1, 1)) rfl rfl rfl, ?_⟩
  refine List.forall_mem_cons.mpr ⟨s_putI C (by decide +kernel : decode c_X7_weigh 17 = .ok (.putfield 49, 3)) rfl rfl em_cl_X7 (by decide) ew97 rfl (by decide) (by decide +kernel), ?_⟩
  refine List.forall_mem_cons.mpr ⟨s_iload_n C (by decide +kernel : decode c_X7_weigh 20 = .ok (.iload_n 2, 1)) rfl rfl rfl, ?_⟩
  refine List.forall_mem_cons.mpr ⟨s_iret C (by decide +kernel : decode c_X7_weigh 21 = .ok (.ireturn, 1)) hret hlk ⟨Nat.le_refl 0, Nat.le_refl 0⟩, ?_⟩
  exact fun _ h => absurd h List.not_mem_nil
def prm (a b : Int32) : Prop := ¬ a < 0 ∧ ¬ 20 < b ∧ a ≤ b
def sp_X7_permit : em_Sp := fun av hp Q => ∃ pe ki mi se we lea mst pa fi sd ev un ma ea co ca clt a b, av = [.ref 0, .int a, .int b] ∧ hp = (wT pe ki mi se we lea mst pa fi sd ev un ma ea co ca clt) ∧ (¬ prm a b → Q (some (.int (-2))) hp) ∧ (prm a b → Q (some (.int (100 * lea + mst))) (wT pe ki mi se we (a) (b) pa fi sd ev un ma ea co ca clt))
def T_X7_permit : List (Nat × em_Op) := [(0, o_iload 1 1), (1, o_iflt 15 4), (4, o_iload 2 5), (5, o_iconst 20 7), (7, o_icmpgt 15 10), (10, o_iload 1 11), (11, o_iload 2 12), (12, o_icmple 18 15), (15, o_iconst (-2) 17), (17, o_iret), (18, o_iconst 100 20), (20, o_aload 0 21), (21, o_getf 2 5 24), (24, o_imul 25), (25, o_aload 0 26), (26, o_getf 2 6 29), (29, o_iadd 30), (30, o_istore 3 31), (31, o_aload 0 32), (32, o_iload 1 33), (33, o_putI 2 5 36), (36, o_aload 0 37), (37, o_iload 2 38), (38, o_putI 2 6 41), (41, o_iload 3 42), (42, o_iret)]
theorem me_X7_permit : em_Me T_X7_permit 4 sp_X7_permit := by
  intro Q K hK hle av hp hs
  obtain ⟨pe, ki, mi, se, we, lea, mst, pa, fi, sd, ev, un, ma, ea, co, ca, clt, a, b, rfl, rfl, hb, hq⟩ := hs
  refine ⟨Nat.le_of_ble_eq_true rfl, ?_⟩
  refine hK 0 99 0 _ _ _ ?_
  refine ⟨fun z1 => ?_, fun z1 => ⟨fun z2 => ?_, fun z2 => ⟨fun z3 => ?_, fun z3 => ?_⟩⟩⟩
  · exact hb (fun y => y.1 z1)
  · exact hb (fun y => y.2.1 z2)
  · exact hq ⟨z1, z2, z3⟩
  · exact hb (fun y => z3 y.2.2)
abbrev rm_X7_permit : Room := { frames := 0, cells := 0, slots := 0, locals := 0 }
set_option maxRecDepth 100000 in
set_option maxHeartbeats 4000000 in
theorem ct_X7_permit (l : Launch) (D : va_G) (dA : Nat → ClassId) (σ : Nat → Nat) : em_CT l D em_cl dA σ (em_F σ) y_X7_permit c_X7_permit 4 (Option.some ClassFile.FieldType.int) rm_X7_permit (sp_X7_permit ) := by
  refine em_CT_of (T := T_X7_permit ) (em_F_ok σ) (by decide) (fun p e s m args below meth c A ρ Q C hFok hF hret hlk hin => ?_) (me_X7_permit )
  unfold T_X7_permit
  refine List.forall_mem_cons.mpr ⟨s_iload_n C (by decide +kernel : decode c_X7_permit 0 = .ok (.iload_n 1, 1)) rfl rfl rfl, ?_⟩
  refine List.forall_mem_cons.mpr ⟨s_iflt C (by decide +kernel : decode c_X7_permit 1 = .ok (.ifCond .lt 14, 3)) (by decide) rfl rfl rfl, ?_⟩
  refine List.forall_mem_cons.mpr ⟨s_iload_n C (by decide +kernel : decode c_X7_permit 4 = .ok (.iload_n 2, 1)) rfl rfl rfl, ?_⟩
  refine List.forall_mem_cons.mpr ⟨s_bipush C (by decide +kernel : decode c_X7_permit 5 = .ok (.bipush 20, 2)) rfl rfl (by decide), ?_⟩
  refine List.forall_mem_cons.mpr ⟨s_icmpgt C (by decide +kernel : decode c_X7_permit 7 = .ok (.if_icmp .gt 8, 3)) (by decide) rfl rfl rfl, ?_⟩
  refine List.forall_mem_cons.mpr ⟨s_iload_n C (by decide +kernel : decode c_X7_permit 10 = .ok (.iload_n 1, 1)) rfl rfl rfl, ?_⟩
  refine List.forall_mem_cons.mpr ⟨s_iload_n C (by decide +kernel : decode c_X7_permit 11 = .ok (.iload_n 2, 1)) rfl rfl rfl, ?_⟩
  refine List.forall_mem_cons.mpr ⟨s_icmple C (by decide +kernel : decode c_X7_permit 12 = .ok (.if_icmp .le 6, 3)) (by decide) rfl rfl rfl, ?_⟩
  refine List.forall_mem_cons.mpr ⟨s_bipush C (by decide +kernel : decode c_X7_permit 15 = .ok (.bipush (-2), 2)) rfl rfl (by decide), ?_⟩
  refine List.forall_mem_cons.mpr ⟨s_iret C (by decide +kernel : decode c_X7_permit 17 = .ok (.ireturn, 1)) hret hlk ⟨Nat.le_refl 0, Nat.le_refl 0⟩, ?_⟩
  refine List.forall_mem_cons.mpr ⟨s_bipush C (by decide +kernel : decode c_X7_permit 18 = .ok (.bipush 100, 2)) rfl rfl (by decide), ?_⟩
  refine List.forall_mem_cons.mpr ⟨s_aload_n C (by decide +kernel : decode c_X7_permit 20 = .ok (.aload_n 0, 1)) rfl rfl rfl, ?_⟩
  refine List.forall_mem_cons.mpr ⟨s_getf C (by decide +kernel : decode c_X7_permit 21 = .ok (.getfield 52, 3)) rfl rfl em_cl_X7 (by decide) ew98 rfl, ?_⟩
  refine List.forall_mem_cons.mpr ⟨s_imul C (by decide +kernel : decode c_X7_permit 24 = .ok (.imul, 1)) rfl rfl, ?_⟩
  refine List.forall_mem_cons.mpr ⟨s_aload_n C (by decide +kernel : decode c_X7_permit 25 = .ok (.aload_n 0, 1)) rfl rfl rfl, ?_⟩
  refine List.forall_mem_cons.mpr ⟨s_getf C (by decide +kernel : decode c_X7_permit 26 = .ok (.getfield 55, 3)) rfl rfl em_cl_X7 (by decide) ew99 rfl, ?_⟩
  refine List.forall_mem_cons.mpr ⟨s_iadd C (by decide +kernel : decode c_X7_permit 29 = .ok (.iadd, 1)) rfl rfl, ?_⟩
  refine List.forall_mem_cons.mpr ⟨s_istore_n C (by decide +kernel : decode c_X7_permit 30 = .ok (.istore_n 3, 1)) rfl rfl rfl (by decide), ?_⟩
  refine List.forall_mem_cons.mpr ⟨s_aload_n C (by decide +kernel : decode c_X7_permit 31 = .ok (.aload_n 0, 1)) rfl rfl rfl, ?_⟩
  refine List.forall_mem_cons.mpr ⟨s_iload_n C (by decide +kernel : decode c_X7_permit 32 = .ok (.iload_n 1, 1)) rfl rfl rfl, ?_⟩
  refine List.forall_mem_cons.mpr ⟨s_putI C (by decide +kernel : decode c_X7_permit 33 = .ok (.putfield 52, 3)) rfl rfl em_cl_X7 (by decide) ew98 rfl (by decide) (by decide +kernel), ?_⟩
  refine List.forall_mem_cons.mpr ⟨s_aload_n C (by decide +kernel : decode c_X7_permit 36 = .ok (.aload_n 0, 1)) rfl rfl rfl, ?_⟩
  refine List.forall_mem_cons.mpr ⟨s_iload_n C (by decide +kernel : decode c_X7_permit 37 = .ok (.iload_n 2, 1)) rfl rfl rfl, ?_⟩
  refine List.forall_mem_cons.mpr ⟨s_putI C (by decide +kernel : decode c_X7_permit 38 = .ok (.putfield 55, 3)) rfl rfl em_cl_X7 (by decide) ew99 rfl (by decide) (by decide +kernel), ?_⟩
  refine List.forall_mem_cons.mpr ⟨s_iload_n C (by decide +kernel : decode c_X7_permit 41 = .ok (.iload_n 3, 1)) rfl rfl rfl, ?_⟩
  refine List.forall_mem_cons.mpr ⟨s_iret C (by decide +kernel : decode c_X7_permit 42 = .ok (.ireturn, 1)) hret hlk ⟨Nat.le_refl 0, Nat.le_refl 0⟩, ?_⟩
  exact fun _ h => absurd h List.not_mem_nil
def sp_X7_arrange : em_Sp := fun av hp Q => ∃ pe ki mi se we lea mst pa fi sd ev un ma ea co ca clt a b np, av = [.ref 0, .int a, .int b] ∧ hp = (wT pe ki mi se we lea mst pa fi sd ev un ma ea co ca clt) ∧ pa = nI np ∧ np ≤ 8 ∧ (¬ h2 pe a b → Q (some (.int (-2))) hp) ∧ (h2 pe a b → np = 8 → Q (some (.int (-4))) hp) ∧ (h2 pe a b → np < 8 → Q (some (.int (nI np))) (wT pe ki mi se we lea mst (nI (np + 1)) (upd fi np a) (upd sd np b) ev un ma ea co ca clt))
def T_X7_arrange : List (Nat × em_Op) := [(0, o_aload 0 1), (1, o_iload 1 2), (2, o_iload 2 3), (3, o_call 3 (some 2) (sp_X7_hasTwo) 6), (6, o_ifne 12 9), (9, o_iconst (-2) 11), (11, o_iret), (12, o_aload 0 13), (13, o_getf 2 7 16), (16, o_iconst 8 18), (18, o_icmplt 24 21), (21, o_iconst (-4) 23), (23, o_iret), (24, o_aload 0 25), (25, o_getf 2 7 28), (28, o_istore 3 29), (29, o_aload 0 30), (30, o_dup 31), (31, o_getf 2 7 34), (34, o_iconst 1 35), (35, o_iadd 36), (36, o_putI 2 7 39), (39, o_aload 0 40), (40, o_getf 2 8 43), (43, o_iload 3 44), (44, o_iload 1 45), (45, o_iast 46), (46, o_aload 0 47), (47, o_getf 2 9 50), (50, o_iload 3 51), (51, o_iload 2 52), (52, o_iast 53), (53, o_iload 3 54), (54, o_iret)]
theorem me_X7_arrange : em_Me T_X7_arrange 4 sp_X7_arrange := by
  intro Q K hK hle av hp hs
  obtain ⟨pe, ki, mi, se, we, lea, mst, pa, fi, sd, ev, un, ma, ea, co, ca, clt, a, b, np, rfl, rfl, rfl, hn, hb, hf, hq⟩ := hs
  refine ⟨Nat.le_of_ble_eq_true rfl, ?_⟩
  refine hK 0 99 0 _ _ _ ?_
  refine ⟨_, _, _, _, _, _, _, _, _, _, _, _, _, _, _, _, _, _, _, rfl, rfl, fun z1 => ?_, fun z1 => ?_⟩
  · refine ⟨fun _ => ?_, fun z => absurd z (by decide)⟩
    refine ⟨fun z3 => ?_, fun z3 => ?_⟩
    · have h6 : np < 8 := (nI_ltI (b := 8) (by omega) (by omega)).mp z3
      have := hq z1 h6
      rw [← nI_1] at this
      exact ⟨np, rfl, by omega, np, rfl, by omega, this⟩
    · have h6 : np = 8 := by
        have : ¬ np < 8 := fun y => z3 (nI_lt (b := 8) y (by omega))
        omega
      exact hf z1 h6
  · exact ⟨fun z => absurd rfl z, fun _ => hb z1⟩
abbrev rm_X7_arrange : Room := { frames := 2, cells := 0, slots := 0, locals := 43 }
set_option maxRecDepth 100000 in
set_option maxHeartbeats 4000000 in
theorem ct_X7_arrange (l : Launch) (D : va_G) (dA : Nat → ClassId) (σ : Nat → Nat) : em_CT l D em_cl dA σ (em_F σ) y_X7_arrange c_X7_arrange 4 (Option.some ClassFile.FieldType.int) rm_X7_arrange (sp_X7_arrange ) := by
  refine em_CT_of (T := T_X7_arrange ) (em_F_ok σ) (by decide) (fun p e s m args below meth c A ρ Q C hFok hF hret hlk hin => ?_) (me_X7_arrange )
  unfold T_X7_arrange
  refine List.forall_mem_cons.mpr ⟨s_aload_n C (by decide +kernel : decode c_X7_arrange 0 = .ok (.aload_n 0, 1)) rfl rfl rfl, ?_⟩
  refine List.forall_mem_cons.mpr ⟨s_iload_n C (by decide +kernel : decode c_X7_arrange 1 = .ok (.iload_n 1, 1)) rfl rfl rfl, ?_⟩
  refine List.forall_mem_cons.mpr ⟨s_iload_n C (by decide +kernel : decode c_X7_arrange 2 = .ok (.iload_n 2, 1)) rfl rfl rfl, ?_⟩
  refine List.forall_mem_cons.mpr ⟨s_callV C hFok hF (ct_X7_hasTwo l D dA σ) ⟨rfl, rfl⟩ ew254 em_cl_X7 ew251 ew252 ew253 ew5 ⟨by decide, by decide, by decide +kernel⟩ ⟨by decide, by decide⟩ (by decide +kernel : decode c_X7_arrange 3 = .ok (.invokevirtual 98, 3)) rfl rfl ⟨Nat.zero_le _, Nat.zero_le _⟩, ?_⟩
  refine List.forall_mem_cons.mpr ⟨s_ifne C (by decide +kernel : decode c_X7_arrange 6 = .ok (.ifCond .ne 6, 3)) (by decide) rfl rfl rfl, ?_⟩
  refine List.forall_mem_cons.mpr ⟨s_bipush C (by decide +kernel : decode c_X7_arrange 9 = .ok (.bipush (-2), 2)) rfl rfl (by decide), ?_⟩
  refine List.forall_mem_cons.mpr ⟨s_iret C (by decide +kernel : decode c_X7_arrange 11 = .ok (.ireturn, 1)) hret hlk ⟨Nat.le_refl 0, Nat.le_refl 0⟩, ?_⟩
  refine List.forall_mem_cons.mpr ⟨s_aload_n C (by decide +kernel : decode c_X7_arrange 12 = .ok (.aload_n 0, 1)) rfl rfl rfl, ?_⟩
  refine List.forall_mem_cons.mpr ⟨s_getf C (by decide +kernel : decode c_X7_arrange 13 = .ok (.getfield 58, 3)) rfl rfl em_cl_X7 (by decide) ew100 rfl, ?_⟩
  refine List.forall_mem_cons.mpr ⟨s_bipush C (by decide +kernel : decode c_X7_arrange 16 = .ok (.bipush 8, 2)) rfl rfl (by decide), ?_⟩
  refine List.forall_mem_cons.mpr ⟨s_icmplt C (by decide +kernel : decode c_X7_arrange 18 = .ok (.if_icmp .lt 6, 3)) (by decide) rfl rfl rfl, ?_⟩
  refine List.forall_mem_cons.mpr ⟨s_bipush C (by decide +kernel : decode c_X7_arrange 21 = .ok (.bipush (-4), 2)) rfl rfl (by decide), ?_⟩
  refine List.forall_mem_cons.mpr ⟨s_iret C (by decide +kernel : decode c_X7_arrange 23 = .ok (.ireturn, 1)) hret hlk ⟨Nat.le_refl 0, Nat.le_refl 0⟩, ?_⟩
  refine List.forall_mem_cons.mpr ⟨s_aload_n C (by decide +kernel : decode c_X7_arrange 24 = .ok (.aload_n 0, 1)) rfl rfl rfl, ?_⟩
  refine List.forall_mem_cons.mpr ⟨s_getf C (by decide +kernel : decode c_X7_arrange 25 = .ok (.getfield 58, 3)) rfl rfl em_cl_X7 (by decide) ew100 rfl, ?_⟩
  refine List.forall_mem_cons.mpr ⟨s_istore_n C (by decide +kernel : decode c_X7_arrange 28 = .ok (.istore_n 3, 1)) rfl rfl rfl (by decide), ?_⟩
  refine List.forall_mem_cons.mpr ⟨s_aload_n C (by decide +kernel : decode c_X7_arrange 29 = .ok (.aload_n 0, 1)) rfl rfl rfl, ?_⟩
  refine List.forall_mem_cons.mpr ⟨s_dup C (by decide +kernel : decode c_X7_arrange 30 = .ok (.dup, 1)) rfl rfl, ?_⟩
  refine List.forall_mem_cons.mpr ⟨s_getf C (by decide +kernel : decode c_X7_arrange 31 = .ok (.getfield 58, 3)) rfl rfl em_cl_X7 (by decide) ew100 rfl, ?_⟩
  refine List.forall_mem_cons.mpr ⟨s_iconst C (by decide +kernel : decode c_X7_arrange 34 = .ok (.iconst 1, 1)) rfl rfl (by decide), ?_⟩
  refine List.forall_mem_cons.mpr ⟨s_iadd C (by decide +kernel : decode c_X7_arrange 35 = .ok (.iadd, 1)) rfl rfl, ?_⟩
  refine List.forall_mem_cons.mpr ⟨s_putI C (by decide +kernel : decode c_X7_arrange 36 = .ok (.putfield 58, 3)) rfl rfl em_cl_X7 (by decide) ew100 rfl (by decide) (by decide +kernel), ?_⟩
  refine List.forall_mem_cons.mpr ⟨s_aload_n C (by decide +kernel : decode c_X7_arrange 39 = .ok (.aload_n 0, 1)) rfl rfl rfl, ?_⟩
  refine List.forall_mem_cons.mpr ⟨s_getf C (by decide +kernel : decode c_X7_arrange 40 = .ok (.getfield 15, 3)) rfl rfl em_cl_X7 (by decide) ew102 rfl, ?_⟩
  refine List.forall_mem_cons.mpr ⟨s_iload_n C (by decide +kernel : decode c_X7_arrange 43 = .ok (.iload_n 3, 1)) rfl rfl rfl, ?_⟩
  refine List.forall_mem_cons.mpr ⟨s_iload_n C (by decide +kernel : decode c_X7_arrange 44 = .ok (.iload_n 1, 1)) rfl rfl rfl, ?_⟩
  refine List.forall_mem_cons.mpr ⟨s_iast C (by decide +kernel : decode c_X7_arrange 45 = .ok (.iastore, 1)) rfl rfl, ?_⟩
  refine List.forall_mem_cons.mpr ⟨s_aload_n C (by decide +kernel : decode c_X7_arrange 46 = .ok (.aload_n 0, 1)) rfl rfl rfl, ?_⟩
  refine List.forall_mem_cons.mpr ⟨s_getf C (by decide +kernel : decode c_X7_arrange 47 = .ok (.getfield 18, 3)) rfl rfl em_cl_X7 (by decide) ew103 rfl, ?_⟩
  refine List.forall_mem_cons.mpr ⟨s_iload_n C (by decide +kernel : decode c_X7_arrange 50 = .ok (.iload_n 3, 1)) rfl rfl rfl, ?_⟩
  refine List.forall_mem_cons.mpr ⟨s_iload_n C (by decide +kernel : decode c_X7_arrange 51 = .ok (.iload_n 2, 1)) rfl rfl rfl, ?_⟩
  refine List.forall_mem_cons.mpr ⟨s_iast C (by decide +kernel : decode c_X7_arrange 52 = .ok (.iastore, 1)) rfl rfl, ?_⟩
  refine List.forall_mem_cons.mpr ⟨s_iload_n C (by decide +kernel : decode c_X7_arrange 53 = .ok (.iload_n 3, 1)) rfl rfl rfl, ?_⟩
  refine List.forall_mem_cons.mpr ⟨s_iret C (by decide +kernel : decode c_X7_arrange 54 = .ok (.ireturn, 1)) hret hlk ⟨Nat.le_refl 0, Nat.le_refl 0⟩, ?_⟩
  exact fun _ h => absurd h List.not_mem_nil
theorem nar_bool {l : Int32} (h : l = 0 ∨ l = 1) : vp_nar .boolean l = l := by rcases h with h | h <;> subst h <;> rfl
def rng20 (x : Int32) : Prop := ¬ x < 0 ∧ x ≤ 20
def sp_X7_note : em_Sp := fun av hp Q => ∃ pe ki mi se we lea mst pa fi sd ev un ma ea co ca clt x l nc, av = [.ref 0, .int x, .int l] ∧ hp = (wT pe ki mi se we lea mst pa fi sd ev un ma ea co ca clt) ∧ (l = 0 ∨ l = 1) ∧ co = nI nc ∧ nc ≤ 10 ∧ (¬ rng20 x → Q (some (.int (-2))) hp) ∧ (rng20 x → nc = 10 → Q (some (.int (-4))) hp) ∧ (rng20 x → nc < 10 → Q (some (.int (nI (nc + 1)))) (wT pe ki mi se we lea mst pa fi sd ev un ma ea (nI (nc + 1)) (upd ca nc x) (upd clt nc l)))
def T_X7_note : List (Nat × em_Op) := [(0, o_iload 1 1), (1, o_iflt 10 4), (4, o_iload 1 5), (5, o_iconst 20 7), (7, o_icmple 13 10), (10, o_iconst (-2) 12), (12, o_iret), (13, o_aload 0 14), (14, o_getf 2 14 17), (17, o_iconst 10 19), (19, o_icmplt 25 22), (22, o_iconst (-4) 24), (24, o_iret), (25, o_aload 0 26), (26, o_getf 2 15 29), (29, o_aload 0 30), (30, o_getf 2 14 33), (33, o_iload 1 34), (34, o_iast 35), (35, o_aload 0 36), (36, o_getf 2 16 39), (39, o_aload 0 40), (40, o_getf 2 14 43), (43, o_iload 2 44), (44, o_zast 45), (45, o_aload 0 46), (46, o_dup 47), (47, o_getf 2 14 50), (50, o_iconst 1 51), (51, o_iadd 52), (52, o_putI 2 14 55), (55, o_aload 0 56), (56, o_getf 2 14 59), (59, o_iret)]
theorem me_X7_note : em_Me T_X7_note 3 sp_X7_note := by
  intro Q K hK hle av hp hs
  obtain ⟨pe, ki, mi, se, we, lea, mst, pa, fi, sd, ev, un, ma, ea, co, ca, clt, x, l, nc, rfl, rfl, hl, rfl, hn, hb, hf, hq⟩ := hs
  refine ⟨Nat.le_of_ble_eq_true rfl, ?_⟩
  have ok : rng20 x → K 13 [some (.ref 0), some (.int x), some (.int l)] [] (wT pe ki mi se we lea mst pa fi sd ev un ma ea (nI nc) ca clt) := by
    intro hr
    refine hK 7 99 13 _ _ _ ?_
    refine ⟨fun z3 => ?_, fun z3 => ?_⟩
    · have h6 : nc < 10 := (nI_ltI (b := 10) (by omega) (by omega)).mp z3
      have := hq hr h6
      rw [← nI_1] at this
      refine ⟨nc, rfl, by omega, nc, rfl, by omega, ?_⟩
      rw [← nar_bool hl] at this
      exact this
    · have h6 : nc = 10 := by
        have : ¬ nc < 10 := fun y => z3 (nI_lt (b := 10) y (by omega))
        omega
      exact hf hr h6
  refine hK 0 7 0 _ _ _ ?_
  refine ⟨fun z1 => ?_, fun z1 => ⟨fun z2 => ?_, fun z2 => ?_⟩⟩
  · exact hb (fun y => y.1 z1)
  · exact ok ⟨z1, z2⟩
  · exact hb (fun y => z2 y.2)
abbrev rm_X7_note : Room := { frames := 0, cells := 0, slots := 0, locals := 0 }
set_option maxRecDepth 100000 in
set_option maxHeartbeats 4000000 in
theorem ct_X7_note (l : Launch) (D : va_G) (dA : Nat → ClassId) (σ : Nat → Nat) : em_CT l D em_cl dA σ (em_F σ) y_X7_note c_X7_note 3 (Option.some ClassFile.FieldType.int) rm_X7_note (sp_X7_note ) := by
  refine em_CT_of (T := T_X7_note ) (em_F_ok σ) (by decide) (fun p e s m args below meth c A ρ Q C hFok hF hret hlk hin => ?_) (me_X7_note )
  unfold T_X7_note
  refine List.forall_mem_cons.mpr ⟨s_iload_n C (by decide +kernel : decode c_X7_note 0 = .ok (.iload_n 1, 1)) rfl rfl rfl, ?_⟩
  refine List.forall_mem_cons.mpr ⟨s_iflt C (by decide +kernel : decode c_X7_note 1 = .ok (.ifCond .lt 9, 3)) (by decide) rfl rfl rfl, ?_⟩
  refine List.forall_mem_cons.mpr ⟨s_iload_n C (by decide +kernel : decode c_X7_note 4 = .ok (.iload_n 1, 1)) rfl rfl rfl, ?_⟩
  refine List.forall_mem_cons.mpr ⟨s_bipush C (by decide +kernel : decode c_X7_note 5 = .ok (.bipush 20, 2)) rfl rfl (by decide), ?_⟩
  refine List.forall_mem_cons.mpr ⟨s_icmple C (by decide +kernel : decode c_X7_note 7 = .ok (.if_icmp .le 6, 3)) (by decide) rfl rfl rfl, ?_⟩
  refine List.forall_mem_cons.mpr ⟨s_bipush C (by decide +kernel : decode c_X7_note 10 = .ok (.bipush (-2), 2)) rfl rfl (by decide), ?_⟩
  refine List.forall_mem_cons.mpr ⟨s_iret C (by decide +kernel : decode c_X7_note 12 = .ok (.ireturn, 1)) hret hlk ⟨Nat.le_refl 0, Nat.le_refl 0⟩, ?_⟩
  refine List.forall_mem_cons.mpr ⟨s_aload_n C (by decide +kernel : decode c_X7_note 13 = .ok (.aload_n 0, 1)) rfl rfl rfl, ?_⟩
  refine List.forall_mem_cons.mpr ⟨s_getf C (by decide +kernel : decode c_X7_note 14 = .ok (.getfield 67, 3)) rfl rfl em_cl_X7 (by decide) ew111 rfl, ?_⟩
  refine List.forall_mem_cons.mpr ⟨s_bipush C (by decide +kernel : decode c_X7_note 17 = .ok (.bipush 10, 2)) rfl rfl (by decide), ?_⟩
  refine List.forall_mem_cons.mpr ⟨s_icmplt C (by decide +kernel : decode c_X7_note 19 = .ok (.if_icmp .lt 6, 3)) (by decide) rfl rfl rfl, ?_⟩
  refine List.forall_mem_cons.mpr ⟨s_bipush C (by decide +kernel : decode c_X7_note 22 = .ok (.bipush (-4), 2)) rfl rfl (by decide), ?_⟩
  refine List.forall_mem_cons.mpr ⟨s_iret C (by decide +kernel : decode c_X7_note 24 = .ok (.ireturn, 1)) hret hlk ⟨Nat.le_refl 0, Nat.le_refl 0⟩, ?_⟩
  refine List.forall_mem_cons.mpr ⟨s_aload_n C (by decide +kernel : decode c_X7_note 25 = .ok (.aload_n 0, 1)) rfl rfl rfl, ?_⟩
  refine List.forall_mem_cons.mpr ⟨s_getf C (by decide +kernel : decode c_X7_note 26 = .ok (.getfield 28, 3)) rfl rfl em_cl_X7 (by decide) ew113 rfl, ?_⟩
  refine List.forall_mem_cons.mpr ⟨s_aload_n C (by decide +kernel : decode c_X7_note 29 = .ok (.aload_n 0, 1)) rfl rfl rfl, ?_⟩
  refine List.forall_mem_cons.mpr ⟨s_getf C (by decide +kernel : decode c_X7_note 30 = .ok (.getfield 67, 3)) rfl rfl em_cl_X7 (by decide) ew111 rfl, ?_⟩
  refine List.forall_mem_cons.mpr ⟨s_iload_n C (by decide +kernel : decode c_X7_note 33 = .ok (.iload_n 1, 1)) rfl rfl rfl, ?_⟩
  refine List.forall_mem_cons.mpr ⟨s_iast C (by decide +kernel : decode c_X7_note 34 = .ok (.iastore, 1)) rfl rfl, ?_⟩
  refine List.forall_mem_cons.mpr ⟨s_aload_n C (by decide +kernel : decode c_X7_note 35 = .ok (.aload_n 0, 1)) rfl rfl rfl, ?_⟩
  refine List.forall_mem_cons.mpr ⟨s_getf C (by decide +kernel : decode c_X7_note 36 = .ok (.getfield 31, 3)) rfl rfl em_cl_X7 (by decide) ew114 rfl, ?_⟩
  refine List.forall_mem_cons.mpr ⟨s_aload_n C (by decide +kernel : decode c_X7_note 39 = .ok (.aload_n 0, 1)) rfl rfl rfl, ?_⟩
  refine List.forall_mem_cons.mpr ⟨s_getf C (by decide +kernel : decode c_X7_note 40 = .ok (.getfield 67, 3)) rfl rfl em_cl_X7 (by decide) ew111 rfl, ?_⟩
  refine List.forall_mem_cons.mpr ⟨s_iload_n C (by decide +kernel : decode c_X7_note 43 = .ok (.iload_n 2, 1)) rfl rfl rfl, ?_⟩
  refine List.forall_mem_cons.mpr ⟨s_zast C (by decide +kernel : decode c_X7_note 44 = .ok (.bastore, 1)) rfl rfl, ?_⟩
  refine List.forall_mem_cons.mpr ⟨s_aload_n C (by decide +kernel : decode c_X7_note 45 = .ok (.aload_n 0, 1)) rfl rfl rfl, ?_⟩
  refine List.forall_mem_cons.mpr ⟨s_dup C (by decide +kernel : decode c_X7_note 46 = .ok (.dup, 1)) rfl rfl, ?_⟩
  refine List.forall_mem_cons.mpr ⟨s_getf C (by decide +kernel : decode c_X7_note 47 = .ok (.getfield 67, 3)) rfl rfl em_cl_X7 (by decide) ew111 rfl, ?_⟩
  refine List.forall_mem_cons.mpr ⟨s_iconst C (by decide +kernel : decode c_X7_note 50 = .ok (.iconst 1, 1)) rfl rfl (by decide), ?_⟩
  refine List.forall_mem_cons.mpr ⟨s_iadd C (by decide +kernel : decode c_X7_note 51 = .ok (.iadd, 1)) rfl rfl, ?_⟩
  refine List.forall_mem_cons.mpr ⟨s_putI C (by decide +kernel : decode c_X7_note 52 = .ok (.putfield 67, 3)) rfl rfl em_cl_X7 (by decide) ew111 rfl (by decide) (by decide +kernel), ?_⟩
  refine List.forall_mem_cons.mpr ⟨s_aload_n C (by decide +kernel : decode c_X7_note 55 = .ok (.aload_n 0, 1)) rfl rfl rfl, ?_⟩
  refine List.forall_mem_cons.mpr ⟨s_getf C (by decide +kernel : decode c_X7_note 56 = .ok (.getfield 67, 3)) rfl rfl em_cl_X7 (by decide) ew111 rfl, ?_⟩
  refine List.forall_mem_cons.mpr ⟨s_iret C (by decide +kernel : decode c_X7_note 59 = .ok (.ireturn, 1)) hret hlk ⟨Nat.le_refl 0, Nat.le_refl 0⟩, ?_⟩
  exact fun _ h => absurd h List.not_mem_nil
def ins (x a b : Int32) : Int32 := if ¬ x < a ∧ ¬ b < x then 1 else 0
def cft (ca clt : Nat → Int32) (nc : Nat) (a b : Int32) : Prop := ∀ j, j < nc → ins (ca j) a b = clt j
def sp_X7_couplesFit : em_Sp := fun av hp Q => ∃ pe ki mi se we lea mst pa fi sd ev un ma ea co ca clt a b nc, av = [.ref 0, .int a, .int b] ∧ hp = (wT pe ki mi se we lea mst pa fi sd ev un ma ea co ca clt) ∧ co = nI nc ∧ nc ≤ 10 ∧ (cft ca clt nc a b → Q (some (.int 1)) hp) ∧ (¬ cft ca clt nc a b → Q (some (.int 0)) hp)
def T_X7_couplesFit : List (Nat × em_Op) := [(0, o_iconst 0 1), (1, o_istore 3 2), (2, o_iload 3 3), (3, o_aload 0 4), (4, o_getf 2 14 7), (7, o_icmpge 56 10), (10, o_aload 0 11), (11, o_getf 2 15 14), (14, o_iload 3 15), (15, o_aldI 0 16), (16, o_iload 1 17), (17, o_icmplt 34 20), (20, o_aload 0 21), (21, o_getf 2 15 24), (24, o_iload 3 25), (25, o_aldI 0 26), (26, o_iload 2 27), (27, o_icmpgt 34 30), (30, o_iconst 1 31), (31, o_goto 35), (34, o_iconst 0 35), (35, o_istore 4 37), (37, o_iload 4 39), (39, o_aload 0 40), (40, o_getf 2 16 43), (43, o_iload 3 44), (44, o_aldI 3 45), (45, o_icmpeq 50 48), (48, o_iconst 0 49), (49, o_zret), (50, o_iinc 3 1 53), (53, o_goto 2), (56, o_iconst 1 57), (57, o_zret)]
theorem me_X7_couplesFit : em_Me T_X7_couplesFit 5 sp_X7_couplesFit := by
  intro Q K hK hle av hp hs
  obtain ⟨pe, ki, mi, se, we, lea, mst, pa, fi, sd, ev, un, ma, ea, co, ca, clt, a, b, nc, rfl, rfl, rfl, hn, hq1, hq0⟩ := hs
  refine ⟨Nat.le_of_ble_eq_true rfl, ?_⟩
  have loop : ∀ (d i : Nat), i + d = nc → (∀ j, j < i → ins (ca j) a b = clt j) → K 2 [some (.ref 0), some (.int a), some (.int b), some (.int (nI i)), none] [] (wT pe ki mi se we lea mst pa fi sd ev un ma ea (nI nc) ca clt) := by
    intro d
    induction d with
    | zero =>
      intro i hi hj
      have hi : i = nc := by omega
      subst hi
      refine hK 2 99 2 _ _ _ ?_
      exact ⟨fun _ => ⟨Or.inr rfl, hq1 hj⟩, fun h => absurd (nI_le (Nat.le_refl i) (by omega)) h⟩
    | succ d ih =>
      intro i hi hj
      have fin : ∀ y, y = ins (ca i) a b → K 35 [some (.ref 0), some (.int a), some (.int b), some (.int (nI i)), none] [.int y] (wT pe ki mi se we lea mst pa fi sd ev un ma ea (nI nc) ca clt) := by
        intro y hy
        refine hK 21 99 35 _ _ _ ?_
        refine ⟨i, rfl, by omega, ?_⟩
        refine ⟨fun z => ?_, fun z => ?_⟩
        · have := ih (i + 1) (by omega) (fun j h => by
            rcases (by omega : j < i ∨ j = i) with q | q
            · exact hj j q
            · subst q; rw [← hy]; exact z)
          rw [← nI_1] at this
          exact hle _ _ _ _ _ (by exact ⟨rfl, rfl, rfl, rfl, trivial⟩) this
        · exact ⟨Or.inl rfl, hq0 (fun q => z (by rw [hy]; exact q i (by omega)))⟩
      refine hK 2 19 2 _ _ _ ?_
      refine ⟨fun h => absurd h (nI_ge (by omega) (by omega)), fun _ => ?_⟩
      refine ⟨i, rfl, by omega, ?_⟩
      refine ⟨fun z => ?_, fun z => ⟨i, rfl, by omega, fun z2 => ?_, fun z2 => ?_⟩⟩
      · exact hle _ _ _ _ _ (by exact ⟨rfl, rfl, rfl, rfl, trivial⟩) (fin 0 (by rw [ins, if_neg (fun q => q.1 z)]))
      · exact hle _ _ _ _ _ (by exact ⟨rfl, rfl, rfl, rfl, trivial⟩) (fin 0 (by rw [ins, if_neg (fun q => q.2 z2)]))
      · exact hle _ _ _ _ _ (by exact ⟨rfl, rfl, rfl, rfl, trivial⟩) (fin 1 (by rw [ins, if_pos ⟨z, z2⟩]))
  exact hK 0 2 0 _ _ _ (loop nc 0 (by omega) (fun j h => by omega))
abbrev rm_X7_couplesFit : Room := { frames := 0, cells := 0, slots := 0, locals := 0 }
set_option maxRecDepth 100000 in
set_option maxHeartbeats 4000000 in
theorem ct_X7_couplesFit (l : Launch) (D : va_G) (dA : Nat → ClassId) (σ : Nat → Nat) : em_CT l D em_cl dA σ (em_F σ) y_X7_couplesFit c_X7_couplesFit 5 (Option.some ClassFile.FieldType.boolean) rm_X7_couplesFit (sp_X7_couplesFit ) := by
  refine em_CT_of (T := T_X7_couplesFit ) (em_F_ok σ) (by decide) (fun p e s m args below meth c A ρ Q C hFok hF hret hlk hin => ?_) (me_X7_couplesFit )
  unfold T_X7_couplesFit
  refine List.forall_mem_cons.mpr ⟨s_iconst C (by decide +kernel : decode c_X7_couplesFit 0 = .ok (.iconst 0, 1)) rfl rfl (by decide), ?_⟩
  refine List.forall_mem_cons.mpr ⟨s_istore_n C (by decide +kernel : decode c_X7_couplesFit 1 = .ok (.istore_n 3, 1)) rfl rfl rfl (by decide), ?_⟩
  refine List.forall_mem_cons.mpr ⟨s_iload_n C (by decide +kernel : decode c_X7_couplesFit 2 = .ok (.iload_n 3, 1)) rfl rfl rfl, ?_⟩
  refine List.forall_mem_cons.mpr ⟨s_aload_n C (by decide +kernel : decode c_X7_couplesFit 3 = .ok (.aload_n 0, 1)) rfl rfl rfl, ?_⟩
  refine List.forall_mem_cons.mpr ⟨s_getf C (by decide +kernel : decode c_X7_couplesFit 4 = .ok (.getfield 67, 3)) rfl rfl em_cl_X7 (by decide) ew111 rfl, ?_⟩
  refine List.forall_mem_cons.mpr ⟨s_icmpge C (by decide +kernel : decode c_X7_couplesFit 7 = .ok (.if_icmp .ge 49, 3)) (by decide) rfl rfl rfl, ?_⟩
  refine List.forall_mem_cons.mpr ⟨s_aload_n C (by decide +kernel : decode c_X7_couplesFit 10 = .ok (.aload_n 0, 1)) rfl rfl rfl, ?_⟩
  refine List.forall_mem_cons.mpr ⟨s_getf C (by decide +kernel : decode c_X7_couplesFit 11 = .ok (.getfield 28, 3)) rfl rfl em_cl_X7 (by decide) ew113 rfl, ?_⟩
  refine List.forall_mem_cons.mpr ⟨s_iload_n C (by decide +kernel : decode c_X7_couplesFit 14 = .ok (.iload_n 3, 1)) rfl rfl rfl, ?_⟩
  refine List.forall_mem_cons.mpr ⟨s_iald C (by decide +kernel : decode c_X7_couplesFit 15 = .ok (.iaload, 1)) rfl rfl, ?_⟩
  refine List.forall_mem_cons.mpr ⟨s_iload_n C (by decide +kernel : decode c_X7_couplesFit 16 = .ok (.iload_n 1, 1)) rfl rfl rfl, ?_⟩
  refine List.forall_mem_cons.mpr ⟨s_icmplt C (by decide +kernel : decode c_X7_couplesFit 17 = .ok (.if_icmp .lt 17, 3)) (by decide) rfl rfl rfl, ?_⟩
  refine List.forall_mem_cons.mpr ⟨s_aload_n C (by decide +kernel : decode c_X7_couplesFit 20 = .ok (.aload_n 0, 1)) rfl rfl rfl, ?_⟩
  refine List.forall_mem_cons.mpr ⟨s_getf C (by decide +kernel : decode c_X7_couplesFit 21 = .ok (.getfield 28, 3)) rfl rfl em_cl_X7 (by decide) ew113 rfl, ?_⟩
  refine List.forall_mem_cons.mpr ⟨s_iload_n C (by decide +kernel : decode c_X7_couplesFit 24 = .ok (.iload_n 3, 1)) rfl rfl rfl, ?_⟩
  refine List.forall_mem_cons.mpr ⟨s_iald C (by decide +kernel : decode c_X7_couplesFit 25 = .ok (.iaload, 1)) rfl rfl, ?_⟩
  refine List.forall_mem_cons.mpr ⟨s_iload_n C (by decide +kernel : decode c_X7_couplesFit 26 = .ok (.iload_n 2, 1)) rfl rfl rfl, ?_⟩
  refine List.forall_mem_cons.mpr ⟨s_icmpgt C (by decide +kernel : decode c_X7_couplesFit 27 = .ok (.if_icmp .gt 7, 3)) (by decide) rfl rfl rfl, ?_⟩
  refine List.forall_mem_cons.mpr ⟨s_iconst C (by decide +kernel : decode c_X7_couplesFit 30 = .ok (.iconst 1, 1)) rfl rfl (by decide), ?_⟩
  refine List.forall_mem_cons.mpr ⟨s_goto C (by decide +kernel : decode c_X7_couplesFit 31 = .ok (.goto 4, 3)) (by decide) rfl, ?_⟩
  refine List.forall_mem_cons.mpr ⟨s_iconst C (by decide +kernel : decode c_X7_couplesFit 34 = .ok (.iconst 0, 1)) rfl rfl (by decide), ?_⟩
  refine List.forall_mem_cons.mpr ⟨s_istore C (by decide +kernel : decode c_X7_couplesFit 35 = .ok (.istore 4, 2)) rfl rfl (by decide), ?_⟩
  refine List.forall_mem_cons.mpr ⟨s_iload C (by decide +kernel : decode c_X7_couplesFit 37 = .ok (.iload 4, 2)) rfl rfl, ?_⟩
  refine List.forall_mem_cons.mpr ⟨s_aload_n C (by decide +kernel : decode c_X7_couplesFit 39 = .ok (.aload_n 0, 1)) rfl rfl rfl, ?_⟩
  refine List.forall_mem_cons.mpr ⟨s_getf C (by decide +kernel : decode c_X7_couplesFit 40 = .ok (.getfield 31, 3)) rfl rfl em_cl_X7 (by decide) ew114 rfl, ?_⟩
  refine List.forall_mem_cons.mpr ⟨s_iload_n C (by decide +kernel : decode c_X7_couplesFit 43 = .ok (.iload_n 3, 1)) rfl rfl rfl, ?_⟩
  refine List.forall_mem_cons.mpr ⟨s_zald C (by decide +kernel : decode c_X7_couplesFit 44 = .ok (.baload, 1)) rfl rfl, ?_⟩
  refine List.forall_mem_cons.mpr ⟨s_icmpeq C (by decide +kernel : decode c_X7_couplesFit 45 = .ok (.if_icmp .eq 5, 3)) (by decide) rfl rfl rfl, ?_⟩
  refine List.forall_mem_cons.mpr ⟨s_iconst C (by decide +kernel : decode c_X7_couplesFit 48 = .ok (.iconst 0, 1)) rfl rfl (by decide), ?_⟩
  refine List.forall_mem_cons.mpr ⟨s_zret C (by decide +kernel : decode c_X7_couplesFit 49 = .ok (.ireturn, 1)) hret hlk ⟨Nat.le_refl 0, Nat.le_refl 0⟩, ?_⟩
  refine List.forall_mem_cons.mpr ⟨s_iinc C (by decide +kernel : decode c_X7_couplesFit 50 = .ok (.iinc 3 1, 3)) rfl rfl (by decide) (by decide), ?_⟩
  refine List.forall_mem_cons.mpr ⟨s_goto C (by decide +kernel : decode c_X7_couplesFit 53 = .ok (.goto (-51), 3)) (by decide) rfl, ?_⟩
  refine List.forall_mem_cons.mpr ⟨s_iconst C (by decide +kernel : decode c_X7_couplesFit 56 = .ok (.iconst 1, 1)) rfl rfl (by decide), ?_⟩
  refine List.forall_mem_cons.mpr ⟨s_zret C (by decide +kernel : decode c_X7_couplesFit 57 = .ok (.ireturn, 1)) hret hlk ⟨Nat.le_refl 0, Nat.le_refl 0⟩, ?_⟩
  exact fun _ h => absurd h List.not_mem_nil
def rmL (f : Nat → Int64) (n : Nat) (x : Int64) : Nat → Int64 := if n < 12 then vp_updL f n x else vp_updL (va_cpy f f 1 0 11) 11 x
def rmI (f : Nat → Int32) (n : Nat) (x : Int32) : Nat → Int32 := if n < 12 then upd f n x else upd (va_cpy f f 1 0 11) 11 x
def rmN (n : Nat) : Nat := if n < 12 then n + 1 else 12
def sp_X7_remember : em_Sp := fun av hp Q => ∃ pe ki mi se we lea mst pa fi sd ev un ma ea co ca clt nu, av = [.ref 0] ∧ hp = (wT pe ki mi se we lea mst pa fi sd ev un ma ea co ca clt) ∧ un = nI nu ∧ nu ≤ 12 ∧ Q none (wT pe ki mi se we lea mst pa fi sd ev (nI (rmN nu)) (rmL ma nu mi) (rmI ea nu ev) co ca clt)
def T_X7_remember : List (Nat × em_Op) := [(0, o_aload 0 1), (1, o_getf 2 11 4), (4, o_iconst 12 6), (6, o_icmplt 49 9), (9, o_aload 0 10), (10, o_iconst 11 12), (12, o_putI 2 11 15), (15, o_aload 0 16), (16, o_getf 2 12 19), (19, o_iconst 1 20), (20, o_aload 0 21), (21, o_getf 2 12 24), (24, o_iconst 0 25), (25, o_aload 0 26), (26, o_getf 2 11 29), (29, o_acopyL 32), (32, o_aload 0 33), (33, o_getf 2 13 36), (36, o_iconst 1 37), (37, o_aload 0 38), (38, o_getf 2 13 41), (41, o_iconst 0 42), (42, o_aload 0 43), (43, o_getf 2 11 46), (46, o_acopyI 49), (49, o_aload 0 50), (50, o_getf 2 12 53), (53, o_aload 0 54), (54, o_getf 2 11 57), (57, o_aload 0 58), (58, o_getf 2 2 61), (61, o_last 62), (62, o_aload 0 63), (63, o_getf 2 13 66), (66, o_aload 0 67), (67, o_getf 2 11 70), (70, o_aload 0 71), (71, o_getf 2 10 74), (74, o_iast 75), (75, o_aload 0 76), (76, o_dup 77), (77, o_getf 2 11 80), (80, o_iconst 1 81), (81, o_iadd 82), (82, o_putI 2 11 85), (85, o_vret)]
theorem me_X7_remember : em_Me T_X7_remember 1 sp_X7_remember := by
  intro Q K hK hle av hp hs
  obtain ⟨pe, ki, mi, se, we, lea, mst, pa, fi, sd, ev, un, ma, ea, co, ca, clt, nu, rfl, rfl, rfl, hn, hq⟩ := hs
  refine ⟨Nat.le_of_ble_eq_true rfl, ?_⟩
  refine hK 0 99 0 _ _ _ ?_
  refine ⟨fun z => ?_, fun z => ?_⟩
  · have h12 : nu < 12 := (nI_ltI (b := 12) (by omega) (by omega)).mp z
    rw [rmL, rmI, rmN, if_pos h12, if_pos h12, if_pos h12, ← nI_1] at hq
    exact ⟨nu, rfl, h12, nu, rfl, h12, hq⟩
  · have h12 : ¬ nu < 12 := fun y => z (nI_lt (b := 12) y (by omega))
    rw [rmL, rmI, rmN, if_neg h12, if_neg h12, if_neg h12] at hq
    exact ⟨1, 0, 11, rfl, rfl, rfl, by decide, by decide, 1, 0, 11, rfl, rfl, rfl, by decide, by decide, 11, rfl, by decide, 11, rfl, by decide, hq⟩
abbrev rm_X7_remember : Room := { frames := 1, cells := 0, slots := 0, locals := 60 }
set_option maxRecDepth 100000 in
set_option maxHeartbeats 4000000 in
theorem ct_X7_remember (l : Launch) (D : va_G) (dA : Nat → ClassId) (σ : Nat → Nat) : em_CT l D em_cl dA σ (em_F σ) y_X7_remember c_X7_remember 1 (Option.none : Option ClassFile.FieldType) rm_X7_remember (sp_X7_remember ) := by
  refine em_CT_of (T := T_X7_remember ) (em_F_ok σ) (by decide) (fun p e s m args below meth c A ρ Q C hFok hF hret hlk hin => ?_) (me_X7_remember )
  unfold T_X7_remember
  refine List.forall_mem_cons.mpr ⟨s_aload_n C (by decide +kernel : decode c_X7_remember 0 = .ok (.aload_n 0, 1)) rfl rfl rfl, ?_⟩
  refine List.forall_mem_cons.mpr ⟨s_getf C (by decide +kernel : decode c_X7_remember 1 = .ok (.getfield 64, 3)) rfl rfl em_cl_X7 (by decide) ew107 rfl, ?_⟩
  refine List.forall_mem_cons.mpr ⟨s_bipush C (by decide +kernel : decode c_X7_remember 4 = .ok (.bipush 12, 2)) rfl rfl (by decide), ?_⟩
  refine List.forall_mem_cons.mpr ⟨s_icmplt C (by decide +kernel : decode c_X7_remember 6 = .ok (.if_icmp .lt 43, 3)) (by decide) rfl rfl rfl, ?_⟩
  refine List.forall_mem_cons.mpr ⟨s_aload_n C (by decide +kernel : decode c_X7_remember 9 = .ok (.aload_n 0, 1)) rfl rfl rfl, ?_⟩
  refine List.forall_mem_cons.mpr ⟨s_bipush C (by decide +kernel : decode c_X7_remember 10 = .ok (.bipush 11, 2)) rfl rfl (by decide), ?_⟩
  refine List.forall_mem_cons.mpr ⟨s_putI C (by decide +kernel : decode c_X7_remember 12 = .ok (.putfield 64, 3)) rfl rfl em_cl_X7 (by decide) ew107 rfl (by decide) (by decide +kernel), ?_⟩
  refine List.forall_mem_cons.mpr ⟨s_aload_n C (by decide +kernel : decode c_X7_remember 15 = .ok (.aload_n 0, 1)) rfl rfl rfl, ?_⟩
  refine List.forall_mem_cons.mpr ⟨s_getf C (by decide +kernel : decode c_X7_remember 16 = .ok (.getfield 21, 3)) rfl rfl em_cl_X7 (by decide) ew109 rfl, ?_⟩
  refine List.forall_mem_cons.mpr ⟨s_iconst C (by decide +kernel : decode c_X7_remember 19 = .ok (.iconst 1, 1)) rfl rfl (by decide), ?_⟩
  refine List.forall_mem_cons.mpr ⟨s_aload_n C (by decide +kernel : decode c_X7_remember 20 = .ok (.aload_n 0, 1)) rfl rfl rfl, ?_⟩
  refine List.forall_mem_cons.mpr ⟨s_getf C (by decide +kernel : decode c_X7_remember 21 = .ok (.getfield 21, 3)) rfl rfl em_cl_X7 (by decide) ew109 rfl, ?_⟩
  refine List.forall_mem_cons.mpr ⟨s_iconst C (by decide +kernel : decode c_X7_remember 24 = .ok (.iconst 0, 1)) rfl rfl (by decide), ?_⟩
  refine List.forall_mem_cons.mpr ⟨s_aload_n C (by decide +kernel : decode c_X7_remember 25 = .ok (.aload_n 0, 1)) rfl rfl rfl, ?_⟩
  refine List.forall_mem_cons.mpr ⟨s_getf C (by decide +kernel : decode c_X7_remember 26 = .ok (.getfield 64, 3)) rfl rfl em_cl_X7 (by decide) ew107 rfl, ?_⟩
  refine List.forall_mem_cons.mpr ⟨s_acopyL C ew428 ew430 ew429 ew14 ⟨by decide, by decide⟩ (by decide +kernel : decode c_X7_remember 29 = .ok (.invokestatic 70, 3)) rfl rfl, ?_⟩
  refine List.forall_mem_cons.mpr ⟨s_aload_n C (by decide +kernel : decode c_X7_remember 32 = .ok (.aload_n 0, 1)) rfl rfl rfl, ?_⟩
  refine List.forall_mem_cons.mpr ⟨s_getf C (by decide +kernel : decode c_X7_remember 33 = .ok (.getfield 25, 3)) rfl rfl em_cl_X7 (by decide) ew110 rfl, ?_⟩
  refine List.forall_mem_cons.mpr ⟨s_iconst C (by decide +kernel : decode c_X7_remember 36 = .ok (.iconst 1, 1)) rfl rfl (by decide), ?_⟩
  refine List.forall_mem_cons.mpr ⟨s_aload_n C (by decide +kernel : decode c_X7_remember 37 = .ok (.aload_n 0, 1)) rfl rfl rfl, ?_⟩
  refine List.forall_mem_cons.mpr ⟨s_getf C (by decide +kernel : decode c_X7_remember 38 = .ok (.getfield 25, 3)) rfl rfl em_cl_X7 (by decide) ew110 rfl, ?_⟩
  refine List.forall_mem_cons.mpr ⟨s_iconst C (by decide +kernel : decode c_X7_remember 41 = .ok (.iconst 0, 1)) rfl rfl (by decide), ?_⟩
  refine List.forall_mem_cons.mpr ⟨s_aload_n C (by decide +kernel : decode c_X7_remember 42 = .ok (.aload_n 0, 1)) rfl rfl rfl, ?_⟩
  refine List.forall_mem_cons.mpr ⟨s_getf C (by decide +kernel : decode c_X7_remember 43 = .ok (.getfield 64, 3)) rfl rfl em_cl_X7 (by decide) ew107 rfl, ?_⟩
  refine List.forall_mem_cons.mpr ⟨s_acopyI C ew428 ew430 ew429 ew14 ⟨by decide, by decide⟩ (by decide +kernel : decode c_X7_remember 46 = .ok (.invokestatic 70, 3)) rfl rfl, ?_⟩
  refine List.forall_mem_cons.mpr ⟨s_aload_n C (by decide +kernel : decode c_X7_remember 49 = .ok (.aload_n 0, 1)) rfl rfl rfl, ?_⟩
  refine List.forall_mem_cons.mpr ⟨s_getf C (by decide +kernel : decode c_X7_remember 50 = .ok (.getfield 21, 3)) rfl rfl em_cl_X7 (by decide) ew109 rfl, ?_⟩
  refine List.forall_mem_cons.mpr ⟨s_aload_n C (by decide +kernel : decode c_X7_remember 53 = .ok (.aload_n 0, 1)) rfl rfl rfl, ?_⟩
  refine List.forall_mem_cons.mpr ⟨s_getf C (by decide +kernel : decode c_X7_remember 54 = .ok (.getfield 64, 3)) rfl rfl em_cl_X7 (by decide) ew107 rfl, ?_⟩
  refine List.forall_mem_cons.mpr ⟨s_aload_n C (by decide +kernel : decode c_X7_remember 57 = .ok (.aload_n 0, 1)) rfl rfl rfl, ?_⟩
  refine List.forall_mem_cons.mpr ⟨s_getf C (by decide +kernel : decode c_X7_remember 58 = .ok (.getfield 42, 3)) rfl rfl em_cl_X7 (by decide) ew91 rfl, ?_⟩
  refine List.forall_mem_cons.mpr ⟨s_last C (by decide +kernel : decode c_X7_remember 61 = .ok (.lastore, 1)) rfl rfl, ?_⟩
  refine List.forall_mem_cons.mpr ⟨s_aload_n C (by decide +kernel : decode c_X7_remember 62 = .ok (.aload_n 0, 1)) rfl rfl rfl, ?_⟩
  refine List.forall_mem_cons.mpr ⟨s_getf C (by decide +kernel : decode c_X7_remember 63 = .ok (.getfield 25, 3)) rfl rfl em_cl_X7 (by decide) ew110 rfl, ?_⟩
  refine List.forall_mem_cons.mpr ⟨s_aload_n C (by decide +kernel : decode c_X7_remember 66 = .ok (.aload_n 0, 1)) rfl rfl rfl, ?_⟩
  refine List.forall_mem_cons.mpr ⟨s_getf C (by decide +kernel : decode c_X7_remember 67 = .ok (.getfield 64, 3)) rfl rfl em_cl_X7 (by decide) ew107 rfl, ?_⟩
  refine List.forall_mem_cons.mpr ⟨s_aload_n C (by decide +kernel : decode c_X7_remember 70 = .ok (.aload_n 0, 1)) rfl rfl rfl, ?_⟩
  refine List.forall_mem_cons.mpr ⟨s_getf C (by decide +kernel : decode c_X7_remember 71 = .ok (.getfield 61, 3)) rfl rfl em_cl_X7 (by decide) ew105 rfl, ?_⟩
  refine List.forall_mem_cons.mpr ⟨s_iast C (by decide +kernel : decode c_X7_remember 74 = .ok (.iastore, 1)) rfl rfl, ?_⟩
  refine List.forall_mem_cons.mpr ⟨s_aload_n C (by decide +kernel : decode c_X7_remember 75 = .ok (.aload_n 0, 1)) rfl rfl rfl, ?_⟩
  refine List.forall_mem_cons.mpr ⟨s_dup C (by decide +kernel : decode c_X7_remember 76 = .ok (.dup, 1)) rfl rfl, ?_⟩
  refine List.forall_mem_cons.mpr ⟨s_getf C (by decide +kernel : decode c_X7_remember 77 = .ok (.getfield 64, 3)) rfl rfl em_cl_X7 (by decide) ew107 rfl, ?_⟩
  refine List.forall_mem_cons.mpr ⟨s_iconst C (by decide +kernel : decode c_X7_remember 80 = .ok (.iconst 1, 1)) rfl rfl (by decide), ?_⟩
  refine List.forall_mem_cons.mpr ⟨s_iadd C (by decide +kernel : decode c_X7_remember 81 = .ok (.iadd, 1)) rfl rfl, ?_⟩
  refine List.forall_mem_cons.mpr ⟨s_putI C (by decide +kernel : decode c_X7_remember 82 = .ok (.putfield 64, 3)) rfl rfl em_cl_X7 (by decide) ew107 rfl (by decide) (by decide +kernel), ?_⟩
  refine List.forall_mem_cons.mpr ⟨s_vret C (by decide +kernel : decode c_X7_remember 85 = .ok (.return_, 1)) hret hlk ⟨Nat.le_refl 0, Nat.le_refl 0⟩, ?_⟩
  exact fun _ h => absurd h List.not_mem_nil
def sp_X7_takeBack : em_Sp := fun av hp Q => ∃ pe ki mi se we lea mst pa fi sd ev un ma ea co ca clt nu, av = [.ref 0] ∧ hp = (wT pe ki mi se we lea mst pa fi sd ev un ma ea co ca clt) ∧ un = nI nu ∧ nu ≤ 12 ∧ (nu = 0 → Q (some (.int 0)) hp) ∧ (∀ k, nu = k + 1 → Q (some (.int 1)) (wT pe ki (ma k) se we lea mst pa fi sd (ea k) (nI k) ma ea co ca clt))
def T_X7_takeBack : List (Nat × em_Op) := [(0, o_aload 0 1), (1, o_getf 2 11 4), (4, o_iconst 1 5), (5, o_icmpge 10 8), (8, o_iconst 0 9), (9, o_zret), (10, o_aload 0 11), (11, o_dup 12), (12, o_getf 2 11 15), (15, o_iconst 1 16), (16, o_isub 17), (17, o_putI 2 11 20), (20, o_aload 0 21), (21, o_aload 0 22), (22, o_getf 2 12 25), (25, o_aload 0 26), (26, o_getf 2 11 29), (29, o_aldL 1 30), (30, o_putL 2 2 33), (33, o_aload 0 34), (34, o_aload 0 35), (35, o_getf 2 13 38), (38, o_aload 0 39), (39, o_getf 2 11 42), (42, o_aldI 0 43), (43, o_putI 2 10 46), (46, o_iconst 1 47), (47, o_zret)]
theorem me_X7_takeBack : em_Me T_X7_takeBack 1 sp_X7_takeBack := by
  intro Q K hK hle av hp hs
  obtain ⟨pe, ki, mi, se, we, lea, mst, pa, fi, sd, ev, un, ma, ea, co, ca, clt, nu, rfl, rfl, rfl, hn, hq0, hq1⟩ := hs
  refine ⟨Nat.le_of_ble_eq_true rfl, ?_⟩
  refine hK 0 99 0 _ _ _ ?_
  refine ⟨fun z => ?_, fun z => ?_⟩
  · have h1 : 1 ≤ nu := (nI_leI (a := 1) (by omega) (by omega)).mp z
    obtain ⟨k, rfl⟩ : ∃ k, nu = k + 1 := ⟨nu - 1, by omega⟩
    have := hq1 k rfl
    rw [← nI_pred] at this
    exact ⟨k, nI_pred k, by omega, k, nI_pred k, by omega, Or.inr rfl, this⟩
  · have h1 : ¬ 1 ≤ nu := fun y => z (nI_le (a := 1) y (by omega))
    exact ⟨Or.inl rfl, hq0 (by omega)⟩
abbrev rm_X7_takeBack : Room := { frames := 0, cells := 0, slots := 0, locals := 0 }
set_option maxRecDepth 100000 in
set_option maxHeartbeats 4000000 in
theorem ct_X7_takeBack (l : Launch) (D : va_G) (dA : Nat → ClassId) (σ : Nat → Nat) : em_CT l D em_cl dA σ (em_F σ) y_X7_takeBack c_X7_takeBack 1 (Option.some ClassFile.FieldType.boolean) rm_X7_takeBack (sp_X7_takeBack ) := by
  refine em_CT_of (T := T_X7_takeBack ) (em_F_ok σ) (by decide) (fun p e s m args below meth c A ρ Q C hFok hF hret hlk hin => ?_) (me_X7_takeBack )
  unfold T_X7_takeBack
  refine List.forall_mem_cons.mpr ⟨s_aload_n C (by decide +kernel : decode c_X7_takeBack 0 = .ok (.aload_n 0, 1)) rfl rfl rfl, ?_⟩
  refine List.forall_mem_cons.mpr ⟨s_getf C (by decide +kernel : decode c_X7_takeBack 1 = .ok (.getfield 64, 3)) rfl rfl em_cl_X7 (by decide) ew107 rfl, ?_⟩
  refine List.forall_mem_cons.mpr ⟨s_iconst C (by decide +kernel : decode c_X7_takeBack 4 = .ok (.iconst 1, 1)) rfl rfl (by decide), ?_⟩
  refine List.forall_mem_cons.mpr ⟨s_icmpge C (by decide +kernel : decode c_X7_takeBack 5 = .ok (.if_icmp .ge 5, 3)) (by decide) rfl rfl rfl, ?_⟩
  refine List.forall_mem_cons.mpr ⟨s_iconst C (by decide +kernel : decode c_X7_takeBack 8 = .ok (.iconst 0, 1)) rfl rfl (by decide), ?_⟩
  refine List.forall_mem_cons.mpr ⟨s_zret C (by decide +kernel : decode c_X7_takeBack 9 = .ok (.ireturn, 1)) hret hlk ⟨Nat.le_refl 0, Nat.le_refl 0⟩, ?_⟩
  refine List.forall_mem_cons.mpr ⟨s_aload_n C (by decide +kernel : decode c_X7_takeBack 10 = .ok (.aload_n 0, 1)) rfl rfl rfl, ?_⟩
  refine List.forall_mem_cons.mpr ⟨s_dup C (by decide +kernel : decode c_X7_takeBack 11 = .ok (.dup, 1)) rfl rfl, ?_⟩
  refine List.forall_mem_cons.mpr ⟨s_getf C (by decide +kernel : decode c_X7_takeBack 12 = .ok (.getfield 64, 3)) rfl rfl em_cl_X7 (by decide) ew107 rfl, ?_⟩
  refine List.forall_mem_cons.mpr ⟨s_iconst C (by decide +kernel : decode c_X7_takeBack 15 = .ok (.iconst 1, 1)) rfl rfl (by decide), ?_⟩
  refine List.forall_mem_cons.mpr ⟨s_isub C (by decide +kernel : decode c_X7_takeBack 16 = .ok (.isub, 1)) rfl rfl, ?_⟩
  refine List.forall_mem_cons.mpr ⟨s_putI C (by decide +kernel : decode c_X7_takeBack 17 = .ok (.putfield 64, 3)) rfl rfl em_cl_X7 (by decide) ew107 rfl (by decide) (by decide +kernel), ?_⟩
  refine List.forall_mem_cons.mpr ⟨s_aload_n C (by decide +kernel : decode c_X7_takeBack 20 = .ok (.aload_n 0, 1)) rfl rfl rfl, ?_⟩
  refine List.forall_mem_cons.mpr ⟨s_aload_n C (by decide +kernel : decode c_X7_takeBack 21 = .ok (.aload_n 0, 1)) rfl rfl rfl, ?_⟩
  refine List.forall_mem_cons.mpr ⟨s_getf C (by decide +kernel : decode c_X7_takeBack 22 = .ok (.getfield 21, 3)) rfl rfl em_cl_X7 (by decide) ew109 rfl, ?_⟩
  refine List.forall_mem_cons.mpr ⟨s_aload_n C (by decide +kernel : decode c_X7_takeBack 25 = .ok (.aload_n 0, 1)) rfl rfl rfl, ?_⟩
  refine List.forall_mem_cons.mpr ⟨s_getf C (by decide +kernel : decode c_X7_takeBack 26 = .ok (.getfield 64, 3)) rfl rfl em_cl_X7 (by decide) ew107 rfl, ?_⟩
  refine List.forall_mem_cons.mpr ⟨s_lald C (by decide +kernel : decode c_X7_takeBack 29 = .ok (.laload, 1)) rfl rfl, ?_⟩
  refine List.forall_mem_cons.mpr ⟨s_putL C (by decide +kernel : decode c_X7_takeBack 30 = .ok (.putfield 42, 3)) rfl rfl em_cl_X7 (by decide) ew91 rfl (by decide) (by decide +kernel), ?_⟩
  refine List.forall_mem_cons.mpr ⟨s_aload_n C (by decide +kernel : decode c_X7_takeBack 33 = .ok (.aload_n 0, 1)) rfl rfl rfl, ?_⟩
  refine List.forall_mem_cons.mpr ⟨s_aload_n C (by decide +kernel : decode c_X7_takeBack 34 = .ok (.aload_n 0, 1)) rfl rfl rfl, ?_⟩
  refine List.forall_mem_cons.mpr ⟨s_getf C (by decide +kernel : decode c_X7_takeBack 35 = .ok (.getfield 25, 3)) rfl rfl em_cl_X7 (by decide) ew110 rfl, ?_⟩
  refine List.forall_mem_cons.mpr ⟨s_aload_n C (by decide +kernel : decode c_X7_takeBack 38 = .ok (.aload_n 0, 1)) rfl rfl rfl, ?_⟩
  refine List.forall_mem_cons.mpr ⟨s_getf C (by decide +kernel : decode c_X7_takeBack 39 = .ok (.getfield 64, 3)) rfl rfl em_cl_X7 (by decide) ew107 rfl, ?_⟩
  refine List.forall_mem_cons.mpr ⟨s_iald C (by decide +kernel : decode c_X7_takeBack 42 = .ok (.iaload, 1)) rfl rfl, ?_⟩
  refine List.forall_mem_cons.mpr ⟨s_putI C (by decide +kernel : decode c_X7_takeBack 43 = .ok (.putfield 61, 3)) rfl rfl em_cl_X7 (by decide) ew105 rfl (by decide) (by decide +kernel), ?_⟩
  refine List.forall_mem_cons.mpr ⟨s_iconst C (by decide +kernel : decode c_X7_takeBack 46 = .ok (.iconst 1, 1)) rfl rfl (by decide), ?_⟩
  refine List.forall_mem_cons.mpr ⟨s_zret C (by decide +kernel : decode c_X7_takeBack 47 = .ok (.ireturn, 1)) hret hlk ⟨Nat.le_refl 0, Nat.le_refl 0⟩, ?_⟩
  exact fun _ h => absurd h List.not_mem_nil
def hx (h : Int64) (x : Int32) : Int64 := 31 * h + x.toInt64
def adP (ki : Nat → Int32) (mi se : Int64) (h : Int64) : Nat → Int64
  | 0 => h
  | i + 1 => hx (hx (hx (adP ki mi se h i) (ki i)) (mo mi (nI i))) (mo se (nI i))
def adC (f g : Nat → Int32) (h : Int64) : Nat → Int64
  | 0 => h
  | i + 1 => hx (hx (adC f g h i) (f i)) (g i)
def bz (x : Int32) : Int32 := if x = 0 then 0 else 1
def sp_X7_addTo : em_Sp := fun av hp Q => ∃ pe ki mi se we lea mst pa fi sd ev un ma ea co ca clt h n np nc, av = [.ref 0, .long h] ∧ hp = (wT pe ki mi se we lea mst pa fi sd ev un ma ea co ca clt) ∧ pe = nI n ∧ n ≤ 6 ∧ pa = nI np ∧ np ≤ 8 ∧ co = nI nc ∧ nc ≤ 10 ∧ Q (some (.long (adC ca (fun j => bz (clt j)) (adC fi sd (adP ki mi se (hx (hx (hx h we) lea) mst) n) np) nc))) hp
def T_X7_addTo : List (Nat × em_Op) := [(0, o_lconst 31 3), (3, o_lload 1 4), (4, o_lmul 5), (5, o_aload 0 6), (6, o_getf 2 4 9), (9, o_i2l 10), (10, o_ladd 11), (11, o_lstore 3 12), (12, o_lconst 31 15), (15, o_lload 3 16), (16, o_lmul 17), (17, o_aload 0 18), (18, o_getf 2 5 21), (21, o_i2l 22), (22, o_ladd 23), (23, o_lstore 3 24), (24, o_lconst 31 27), (27, o_lload 3 28), (28, o_lmul 29), (29, o_aload 0 30), (30, o_getf 2 6 33), (33, o_i2l 34), (34, o_ladd 35), (35, o_lstore 3 36), (36, o_iconst 0 37), (37, o_istore 5 39), (39, o_iload 5 41), (41, o_aload 0 42), (42, o_getf 2 0 45), (45, o_icmpge 103 48), (48, o_lconst 31 51), (51, o_lload 3 52), (52, o_lmul 53), (53, o_aload 0 54), (54, o_getf 2 1 57), (57, o_iload 5 59), (59, o_aldI 0 60), (60, o_i2l 61), (61, o_ladd 62), (62, o_lstore 3 63), (63, o_lconst 31 66), (66, o_lload 3 67), (67, o_lmul 68), (68, o_aload 0 69), (69, o_getf 2 2 72), (72, o_iload 5 74), (74, o_call 2 none (sp_X5_of) 77), (77, o_i2l 78), (78, o_ladd 79), (79, o_lstore 3 80), (80, o_lconst 31 83), (83, o_lload 3 84), (84, o_lmul 85), (85, o_aload 0 86), (86, o_getf 2 3 89), (89, o_iload 5 91), (91, o_call 2 none (sp_X5_of) 94), (94, o_i2l 95), (95, o_ladd 96), (96, o_lstore 3 97), (97, o_iinc 5 1 100), (100, o_goto 39), (103, o_iconst 0 104), (104, o_istore 5 106), (106, o_iload 5 108), (108, o_aload 0 109), (109, o_getf 2 7 112), (112, o_icmpge 151 115), (115, o_lconst 31 118), (118, o_lload 3 119), (119, o_lmul 120), (120, o_aload 0 121), (121, o_getf 2 8 124), (124, o_iload 5 126), (126, o_aldI 0 127), (127, o_i2l 128), (128, o_ladd 129), (129, o_lstore 3 130), (130, o_lconst 31 133), (133, o_lload 3 134), (134, o_lmul 135), (135, o_aload 0 136), (136, o_getf 2 9 139), (139, o_iload 5 141), (141, o_aldI 0 142), (142, o_i2l 143), (143, o_ladd 144), (144, o_lstore 3 145), (145, o_iinc 5 1 148), (148, o_goto 106), (151, o_iconst 0 152), (152, o_istore 5 154), (154, o_iload 5 156), (156, o_aload 0 157), (157, o_getf 2 14 160), (160, o_icmpge 207 163), (163, o_lconst 31 166), (166, o_lload 3 167), (167, o_lmul 168), (168, o_aload 0 169), (169, o_getf 2 15 172), (172, o_iload 5 174), (174, o_aldI 0 175), (175, o_i2l 176), (176, o_ladd 177), (177, o_lstore 3 178), (178, o_lconst 31 181), (181, o_lload 3 182), (182, o_lmul 183), (183, o_aload 0 184), (184, o_getf 2 16 187), (187, o_iload 5 189), (189, o_aldI 3 190), (190, o_ifeq 197 193), (193, o_iconst 1 194), (194, o_goto 198), (197, o_iconst 0 198), (198, o_i2l 199), (199, o_ladd 200), (200, o_lstore 3 201), (201, o_iinc 5 1 204), (204, o_goto 154), (207, o_lload 3 208), (208, o_lret)]
theorem me_X7_addTo : em_Me T_X7_addTo 6 sp_X7_addTo := by
  intro Q K hK hle av hp hs
  obtain ⟨pe, ki, mi, se, we, lea, mst, pa, fi, sd, ev, un, ma, ea, co, ca, clt, h, n, np, nc, rfl, rfl, rfl, hn, rfl, hnp, rfl, hnc, hq⟩ := hs
  refine ⟨Nat.le_of_ble_eq_true rfl, ?_⟩
  generalize hA : adP ki mi se (hx (hx (hx h we) lea) mst) n = hP at hq
  generalize hB : adC fi sd hP np = hC at hq
  have l3 : ∀ (d i : Nat), i + d = nc → K 154 [some (.ref 0), some (.long h), none, some (.long (adC ca (fun j => bz (clt j)) hC i)), none, some (.int (nI i))] [] (wT (nI n) ki mi se we lea mst (nI np) fi sd ev un ma ea (nI nc) ca clt) := by
    intro d
    induction d with
    | zero =>
      intro i hi
      have hi : i = nc := by omega
      subst hi
      refine hK 92 99 154 _ _ _ ?_
      exact ⟨fun _ => hq, fun z => absurd (nI_le (Nat.le_refl i) (by omega)) z⟩
    | succ d ih =>
      intro i hi
      have := ih (i + 1) (by omega)
      rw [← nI_1] at this
      refine hK 92 99 154 _ _ _ ?_
      refine ⟨fun z => absurd z (nI_ge (by omega) (by omega)), fun _ => ?_⟩
      refine ⟨i, rfl, by omega, i, rfl, by omega, fun z => ?_, fun z => ?_⟩
      · rw [adC, show bz (clt i) = 0 from if_pos z] at this
        exact this
      · rw [adC, show bz (clt i) = 1 from if_neg z] at this
        exact this
  have l2 : ∀ (d i : Nat), i + d = np → K 106 [some (.ref 0), some (.long h), none, some (.long (adC fi sd hP i)), none, some (.int (nI i))] [] (wT (nI n) ki mi se we lea mst (nI np) fi sd ev un ma ea (nI nc) ca clt) := by
    intro d
    induction d with
    | zero =>
      intro i hi
      have hi : i = np := by omega
      subst hi
      have := l3 nc 0 (by omega)
      refine hK 64 28 106 _ _ _ ?_
      refine ⟨fun _ => ?_, fun z => absurd (nI_le (Nat.le_refl i) (by omega)) z⟩
      rw [hB]
      exact this
    | succ d ih =>
      intro i hi
      have := ih (i + 1) (by omega)
      rw [← nI_1] at this
      refine hK 64 28 106 _ _ _ ?_
      exact ⟨fun z => absurd z (nI_ge (by omega) (by omega)), fun _ => ⟨i, rfl, by omega, i, rfl, by omega, this⟩⟩
  have l1 : ∀ (d i : Nat), i + d = n → K 39 [some (.ref 0), some (.long h), none, some (.long (adP ki mi se (hx (hx (hx h we) lea) mst) i)), none, some (.int (nI i))] [] (wT (nI n) ki mi se we lea mst (nI np) fi sd ev un ma ea (nI nc) ca clt) := by
    intro d
    induction d with
    | zero =>
      intro i hi
      have hi : i = n := by omega
      subst hi
      have := l2 np 0 (by omega)
      refine hK 26 38 39 _ _ _ ?_
      refine ⟨fun _ => ?_, fun z => absurd (nI_le (Nat.le_refl i) (by omega)) z⟩
      rw [hA]
      exact this
    | succ d ih =>
      intro i hi
      have := ih (i + 1) (by omega)
      rw [← nI_1] at this
      refine hK 26 38 39 _ _ _ ?_
      exact ⟨fun z => absurd z (nI_ge (by omega) (by omega)), fun _ => ⟨i, rfl, by omega, _, _, rfl, _, _, rfl, this⟩⟩
  exact hK 0 26 0 _ _ _ (l1 n 0 (by omega))
abbrev rm_X7_addTo : Room := { frames := 1, cells := 0, slots := 0, locals := 22 }
set_option maxRecDepth 100000 in
set_option maxHeartbeats 4000000 in
theorem ct_X7_addTo (l : Launch) (D : va_G) (dA : Nat → ClassId) (σ : Nat → Nat) : em_CT l D em_cl dA σ (em_F σ) y_X7_addTo c_X7_addTo 6 (Option.some ClassFile.FieldType.long) rm_X7_addTo (sp_X7_addTo ) := by
  refine em_CT_of (T := T_X7_addTo ) (em_F_ok σ) (by decide) (fun p e s m args below meth c A ρ Q C hFok hF hret hlk hin => ?_) (me_X7_addTo )
  unfold T_X7_addTo
  refine List.forall_mem_cons.mpr ⟨s_ldc2 C (by decide +kernel : decode c_X7_addTo 0 = .ok (.ldc2_w 129, 3)) rfl rfl ew680, ?_⟩
  refine List.forall_mem_cons.mpr ⟨s_lload_n C (by decide +kernel : decode c_X7_addTo 3 = .ok (.lload_n 1, 1)) rfl rfl rfl, ?_⟩
  refine List.forall_mem_cons.mpr ⟨s_lmul C (by decide +kernel : decode c_X7_addTo 4 = .ok (.lmul, 1)) rfl rfl, ?_⟩
  refine List.forall_mem_cons.mpr ⟨s_aload_n C (by decide +kernel : decode c_X7_addTo 5 = .ok (.aload_n 0, 1)) rfl rfl rfl, ?_⟩
  refine List.forall_mem_cons.mpr ⟨s_getf C (by decide +kernel : decode c_X7_addTo 6 = .ok (.getfield 49, 3)) rfl rfl em_cl_X7 (by decide) ew97 rfl, ?_⟩
  refine List.forall_mem_cons.mpr ⟨s_i2l C (by decide +kernel : decode c_X7_addTo 9 = .ok (.i2l, 1)) rfl rfl, ?_⟩
  refine List.forall_mem_cons.mpr ⟨s_ladd C (by decide +kernel : decode c_X7_addTo 10 = .ok (.ladd, 1)) rfl rfl, ?_⟩
  refine List.forall_mem_cons.mpr ⟨s_lstore_n C (by decide +kernel : decode c_X7_addTo 11 = .ok (.lstore_n 3, 1)) rfl rfl rfl (by decide), ?_⟩
  refine List.forall_mem_cons.mpr ⟨s_ldc2 C (by decide +kernel : decode c_X7_addTo 12 = .ok (.ldc2_w 129, 3)) rfl rfl ew680, ?_⟩
  refine List.forall_mem_cons.mpr ⟨s_lload_n C (by decide +kernel : decode c_X7_addTo 15 = .ok (.lload_n 3, 1)) rfl rfl rfl, ?_⟩
  refine List.forall_mem_cons.mpr ⟨s_lmul C (by decide +kernel : decode c_X7_addTo 16 = .ok (.lmul, 1)) rfl rfl, ?_⟩
  refine List.forall_mem_cons.mpr ⟨s_aload_n C (by decide +kernel : decode c_X7_addTo 17 = .ok (.aload_n 0, 1)) rfl rfl rfl, ?_⟩
  refine List.forall_mem_cons.mpr ⟨s_getf C (by decide +kernel : decode c_X7_addTo 18 = .ok (.getfield 52, 3)) rfl rfl em_cl_X7 (by decide) ew98 rfl, ?_⟩
  refine List.forall_mem_cons.mpr ⟨s_i2l C (by decide +kernel : decode c_X7_addTo 21 = .ok (.i2l, 1)) rfl rfl, ?_⟩
  refine List.forall_mem_cons.mpr ⟨s_ladd C (by decide +kernel : decode c_X7_addTo 22 = .ok (.ladd, 1)) rfl rfl, ?_⟩
  refine List.forall_mem_cons.mpr ⟨s_lstore_n C (by decide +kernel : decode c_X7_addTo 23 = .ok (.lstore_n 3, 1)) rfl rfl rfl (by decide), ?_⟩
  refine List.forall_mem_cons.mpr ⟨s_ldc2 C (by decide +kernel : decode c_X7_addTo 24 = .ok (.ldc2_w 129, 3)) rfl rfl ew680, ?_⟩
  refine List.forall_mem_cons.mpr ⟨s_lload_n C (by decide +kernel : decode c_X7_addTo 27 = .ok (.lload_n 3, 1)) rfl rfl rfl, ?_⟩
  refine List.forall_mem_cons.mpr ⟨s_lmul C (by decide +kernel : decode c_X7_addTo 28 = .ok (.lmul, 1)) rfl rfl, ?_⟩
  refine List.forall_mem_cons.mpr ⟨s_aload_n C (by decide +kernel : decode c_X7_addTo 29 = .ok (.aload_n 0, 1)) rfl rfl rfl, ?_⟩
  refine List.forall_mem_cons.mpr ⟨s_getf C (by decide +kernel : decode c_X7_addTo 30 = .ok (.getfield 55, 3)) rfl rfl em_cl_X7 (by decide) ew99 rfl, ?_⟩
  refine List.forall_mem_cons.mpr ⟨s_i2l C (by decide +kernel : decode c_X7_addTo 33 = .ok (.i2l, 1)) rfl rfl, ?_⟩
  refine List.forall_mem_cons.mpr ⟨s_ladd C (by decide +kernel : decode c_X7_addTo 34 = .ok (.ladd, 1)) rfl rfl, ?_⟩
  refine List.forall_mem_cons.mpr ⟨s_lstore_n C (by decide +kernel : decode c_X7_addTo 35 = .ok (.lstore_n 3, 1)) rfl rfl rfl (by decide), ?_⟩
  refine List.forall_mem_cons.mpr ⟨s_iconst C (by decide +kernel : decode c_X7_addTo 36 = .ok (.iconst 0, 1)) rfl rfl (by decide), ?_⟩
  refine List.forall_mem_cons.mpr ⟨s_istore C (by decide +kernel : decode c_X7_addTo 37 = .ok (.istore 5, 2)) rfl rfl (by decide), ?_⟩
  refine List.forall_mem_cons.mpr ⟨s_iload C (by decide +kernel : decode c_X7_addTo 39 = .ok (.iload 5, 2)) rfl rfl, ?_⟩
  refine List.forall_mem_cons.mpr ⟨s_aload_n C (by decide +kernel : decode c_X7_addTo 41 = .ok (.aload_n 0, 1)) rfl rfl rfl, ?_⟩
  refine List.forall_mem_cons.mpr ⟨s_getf C (by decide +kernel : decode c_X7_addTo 42 = .ok (.getfield 38, 3)) rfl rfl em_cl_X7 (by decide) ew85 rfl, ?_⟩
  refine List.forall_mem_cons.mpr ⟨s_icmpge C (by decide +kernel : decode c_X7_addTo 45 = .ok (.if_icmp .ge 58, 3)) (by decide) rfl rfl rfl, ?_⟩
  refine List.forall_mem_cons.mpr ⟨s_ldc2 C (by decide +kernel : decode c_X7_addTo 48 = .ok (.ldc2_w 129, 3)) rfl rfl ew680, ?_⟩
  refine List.forall_mem_cons.mpr ⟨s_lload_n C (by decide +kernel : decode c_X7_addTo 51 = .ok (.lload_n 3, 1)) rfl rfl rfl, ?_⟩
  refine List.forall_mem_cons.mpr ⟨s_lmul C (by decide +kernel : decode c_X7_addTo 52 = .ok (.lmul, 1)) rfl rfl, ?_⟩
  refine List.forall_mem_cons.mpr ⟨s_aload_n C (by decide +kernel : decode c_X7_addTo 53 = .ok (.aload_n 0, 1)) rfl rfl rfl, ?_⟩
  refine List.forall_mem_cons.mpr ⟨s_getf C (by decide +kernel : decode c_X7_addTo 54 = .ok (.getfield 9, 3)) rfl rfl em_cl_X7 (by decide) ew89 rfl, ?_⟩
  refine List.forall_mem_cons.mpr ⟨s_iload C (by decide +kernel : decode c_X7_addTo 57 = .ok (.iload 5, 2)) rfl rfl, ?_⟩
  refine List.forall_mem_cons.mpr ⟨s_iald C (by decide +kernel : decode c_X7_addTo 59 = .ok (.iaload, 1)) rfl rfl, ?_⟩
  refine List.forall_mem_cons.mpr ⟨s_i2l C (by decide +kernel : decode c_X7_addTo 60 = .ok (.i2l, 1)) rfl rfl, ?_⟩
  refine List.forall_mem_cons.mpr ⟨s_ladd C (by decide +kernel : decode c_X7_addTo 61 = .ok (.ladd, 1)) rfl rfl, ?_⟩
  refine List.forall_mem_cons.mpr ⟨s_lstore_n C (by decide +kernel : decode c_X7_addTo 62 = .ok (.lstore_n 3, 1)) rfl rfl rfl (by decide), ?_⟩
  refine List.forall_mem_cons.mpr ⟨s_ldc2 C (by decide +kernel : decode c_X7_addTo 63 = .ok (.ldc2_w 129, 3)) rfl rfl ew680, ?_⟩
  refine List.forall_mem_cons.mpr ⟨s_lload_n C (by decide +kernel : decode c_X7_addTo 66 = .ok (.lload_n 3, 1)) rfl rfl rfl, ?_⟩
  refine List.forall_mem_cons.mpr ⟨s_lmul C (by decide +kernel : decode c_X7_addTo 67 = .ok (.lmul, 1)) rfl rfl, ?_⟩
  refine List.forall_mem_cons.mpr ⟨s_aload_n C (by decide +kernel : decode c_X7_addTo 68 = .ok (.aload_n 0, 1)) rfl rfl rfl, ?_⟩
  refine List.forall_mem_cons.mpr ⟨s_getf C (by decide +kernel : decode c_X7_addTo 69 = .ok (.getfield 42, 3)) rfl rfl em_cl_X7 (by decide) ew91 rfl, ?_⟩
  refine List.forall_mem_cons.mpr ⟨s_iload C (by decide +kernel : decode c_X7_addTo 72 = .ok (.iload 5, 2)) rfl rfl, ?_⟩
  refine List.forall_mem_cons.mpr ⟨s_callS C hFok hF (ct_X5_of l D dA σ) ⟨rfl, rfl⟩ ew216 ew214 ew215 ew8 ⟨by decide, by decide, by decide +kernel⟩ ⟨by decide, by decide⟩ (by decide +kernel : decode c_X7_addTo 74 = .ok (.invokestatic 94, 3)) rfl rfl ⟨Nat.zero_le _, Nat.zero_le _⟩, ?_⟩
  refine List.forall_mem_cons.mpr ⟨s_i2l C (by decide +kernel : decode c_X7_addTo 77 = .ok (.i2l, 1)) rfl rfl, ?_⟩
  refine List.forall_mem_cons.mpr ⟨s_ladd C (by decide +kernel : decode c_X7_addTo 78 = .ok (.ladd, 1)) rfl rfl, ?_⟩
  refine List.forall_mem_cons.mpr ⟨s_lstore_n C (by decide +kernel : decode c_X7_addTo 79 = .ok (.lstore_n 3, 1)) rfl rfl rfl (by decide), ?_⟩
  refine List.forall_mem_cons.mpr ⟨s_ldc2 C (by decide +kernel : decode c_X7_addTo 80 = .ok (.ldc2_w 129, 3)) rfl rfl ew680, ?_⟩
  refine List.forall_mem_cons.mpr ⟨s_lload_n C (by decide +kernel : decode c_X7_addTo 83 = .ok (.lload_n 3, 1)) rfl rfl rfl, ?_⟩
  refine List.forall_mem_cons.mpr ⟨s_lmul C (by decide +kernel : decode c_X7_addTo 84 = .ok (.lmul, 1)) rfl rfl, ?_⟩
  refine List.forall_mem_cons.mpr ⟨s_aload_n C (by decide +kernel : decode c_X7_addTo 85 = .ok (.aload_n 0, 1)) rfl rfl rfl, ?_⟩
  refine List.forall_mem_cons.mpr ⟨s_getf C (by decide +kernel : decode c_X7_addTo 86 = .ok (.getfield 46, 3)) rfl rfl em_cl_X7 (by decide) ew95 rfl, ?_⟩
  refine List.forall_mem_cons.mpr ⟨s_iload C (by decide +kernel : decode c_X7_addTo 89 = .ok (.iload 5, 2)) rfl rfl, ?_⟩
  refine List.forall_mem_cons.mpr ⟨s_callS C hFok hF (ct_X5_of l D dA σ) ⟨rfl, rfl⟩ ew216 ew214 ew215 ew8 ⟨by decide, by decide, by decide +kernel⟩ ⟨by decide, by decide⟩ (by decide +kernel : decode c_X7_addTo 91 = .ok (.invokestatic 94, 3)) rfl rfl ⟨Nat.zero_le _, Nat.zero_le _⟩, ?_⟩
  refine List.forall_mem_cons.mpr ⟨s_i2l C (by decide +kernel : decode c_X7_addTo 94 = .ok (.i2l, 1)) rfl rfl, ?_⟩
  refine List.forall_mem_cons.mpr ⟨s_ladd C (by decide +kernel : decode c_X7_addTo 95 = .ok (.ladd, 1)) rfl rfl, ?_⟩
  refine List.forall_mem_cons.mpr ⟨s_lstore_n C (by decide +kernel : decode c_X7_addTo 96 = .ok (.lstore_n 3, 1)) rfl rfl rfl (by decide), ?_⟩
  refine List.forall_mem_cons.mpr ⟨s_iinc C (by decide +kernel : decode c_X7_addTo 97 = .ok (.iinc 5 1, 3)) rfl rfl (by decide) (by decide), ?_⟩
  refine List.forall_mem_cons.mpr ⟨s_goto C (by decide +kernel : decode c_X7_addTo 100 = .ok (.goto (-61), 3)) (by decide) rfl, ?_⟩
  refine List.forall_mem_cons.mpr ⟨s_iconst C (by decide +kernel : decode c_X7_addTo 103 = .ok (.iconst 0, 1)) rfl rfl (by decide), ?_⟩
  refine List.forall_mem_cons.mpr ⟨s_istore C (by decide +kernel : decode c_X7_addTo 104 = .ok (.istore 5, 2)) rfl rfl (by decide), ?_⟩
  refine List.forall_mem_cons.mpr ⟨s_iload C (by decide +kernel : decode c_X7_addTo 106 = .ok (.iload 5, 2)) rfl rfl, ?_⟩
  refine List.forall_mem_cons.mpr ⟨s_aload_n C (by decide +kernel : decode c_X7_addTo 108 = .ok (.aload_n 0, 1)) rfl rfl rfl, ?_⟩
  refine List.forall_mem_cons.mpr ⟨s_getf C (by decide +kernel : decode c_X7_addTo 109 = .ok (.getfield 58, 3)) rfl rfl em_cl_X7 (by decide) ew100 rfl, ?_⟩
  refine List.forall_mem_cons.mpr ⟨s_icmpge C (by decide +kernel : decode c_X7_addTo 112 = .ok (.if_icmp .ge 39, 3)) (by decide) rfl rfl rfl, ?_⟩
  refine List.forall_mem_cons.mpr ⟨s_ldc2 C (by decide +kernel : decode c_X7_addTo 115 = .ok (.ldc2_w 129, 3)) rfl rfl ew680, ?_⟩
  refine List.forall_mem_cons.mpr ⟨s_lload_n C (by decide +kernel : decode c_X7_addTo 118 = .ok (.lload_n 3, 1)) rfl rfl rfl, ?_⟩
  refine List.forall_mem_cons.mpr ⟨s_lmul C (by decide +kernel : decode c_X7_addTo 119 = .ok (.lmul, 1)) rfl rfl, ?_⟩
  refine List.forall_mem_cons.mpr ⟨s_aload_n C (by decide +kernel : decode c_X7_addTo 120 = .ok (.aload_n 0, 1)) rfl rfl rfl, ?_⟩
  refine List.forall_mem_cons.mpr ⟨s_getf C (by decide +kernel : decode c_X7_addTo 121 = .ok (.getfield 15, 3)) rfl rfl em_cl_X7 (by decide) ew102 rfl, ?_⟩
  refine List.forall_mem_cons.mpr ⟨s_iload C (by decide +kernel : decode c_X7_addTo 124 = .ok (.iload 5, 2)) rfl rfl, ?_⟩
  refine List.forall_mem_cons.mpr ⟨s_iald C (by decide +kernel : decode c_X7_addTo 126 = .ok (.iaload, 1)) rfl rfl, ?_⟩
  refine List.forall_mem_cons.mpr ⟨s_i2l C (by decide +kernel : decode c_X7_addTo 127 = .ok (.i2l, 1)) rfl rfl, ?_⟩
  refine List.forall_mem_cons.mpr ⟨s_ladd C (by decide +kernel : decode c_X7_addTo 128 = .ok (.ladd, 1)) rfl rfl, ?_⟩
  refine List.forall_mem_cons.mpr ⟨s_lstore_n C (by decide +kernel : decode c_X7_addTo 129 = .ok (.lstore_n 3, 1)) rfl rfl rfl (by decide), ?_⟩
  refine List.forall_mem_cons.mpr ⟨s_ldc2 C (by decide +kernel : decode c_X7_addTo 130 = .ok (.ldc2_w 129, 3)) rfl rfl ew680, ?_⟩
  refine List.forall_mem_cons.mpr ⟨s_lload_n C (by decide +kernel : decode c_X7_addTo 133 = .ok (.lload_n 3, 1)) rfl rfl rfl, ?_⟩
  refine List.forall_mem_cons.mpr ⟨s_lmul C (by decide +kernel : decode c_X7_addTo 134 = .ok (.lmul, 1)) rfl rfl, ?_⟩
  refine List.forall_mem_cons.mpr ⟨s_aload_n C (by decide +kernel : decode c_X7_addTo 135 = .ok (.aload_n 0, 1)) rfl rfl rfl, ?_⟩
  refine List.forall_mem_cons.mpr ⟨s_getf C (by decide +kernel : decode c_X7_addTo 136 = .ok (.getfield 18, 3)) rfl rfl em_cl_X7 (by decide) ew103 rfl, ?_⟩
  refine List.forall_mem_cons.mpr ⟨s_iload C (by decide +kernel : decode c_X7_addTo 139 = .ok (.iload 5, 2)) rfl rfl, ?_⟩
  refine List.forall_mem_cons.mpr ⟨s_iald C (by decide +kernel : decode c_X7_addTo 141 = .ok (.iaload, 1)) rfl rfl, ?_⟩
  refine List.forall_mem_cons.mpr ⟨s_i2l C (by decide +kernel : decode c_X7_addTo 142 = .ok (.i2l, 1)) rfl rfl, ?_⟩
  refine List.forall_mem_cons.mpr ⟨s_ladd C (by decide +kernel : decode c_X7_addTo 143 = .ok (.ladd, 1)) rfl rfl, ?_⟩
  refine List.forall_mem_cons.mpr ⟨s_lstore_n C (by decide +kernel : decode c_X7_addTo 144 = .ok (.lstore_n 3, 1)) rfl rfl rfl (by decide), ?_⟩
  refine List.forall_mem_cons.mpr ⟨s_iinc C (by decide +kernel : decode c_X7_addTo 145 = .ok (.iinc 5 1, 3)) rfl rfl (by decide) (by decide), ?_⟩
  refine List.forall_mem_cons.mpr ⟨s_goto C (by decide +kernel : decode c_X7_addTo 148 = .ok (.goto (-42), 3)) (by decide) rfl, ?_⟩
  refine List.forall_mem_cons.mpr ⟨s_iconst C (by decide +kernel : decode c_X7_addTo 151 = .ok (.iconst 0, 1)) rfl rfl (by decide), ?_⟩
  refine List.forall_mem_cons.mpr ⟨s_istore C (by decide +kernel : decode c_X7_addTo 152 = .ok (.istore 5, 2)) rfl rfl (by decide), ?_⟩
  refine List.forall_mem_cons.mpr ⟨s_iload C (by decide +kernel : decode c_X7_addTo 154 = .ok (.iload 5, 2)) rfl rfl, ?_⟩
  refine List.forall_mem_cons.mpr ⟨s_aload_n C (by decide +kernel : decode c_X7_addTo 156 = .ok (.aload_n 0, 1)) rfl rfl rfl, ?_⟩
  refine List.forall_mem_cons.mpr ⟨s_getf C (by decide +kernel : decode c_X7_addTo 157 = .ok (.getfield 67, 3)) rfl rfl em_cl_X7 (by decide) ew111 rfl, ?_⟩
  refine List.forall_mem_cons.mpr ⟨s_icmpge C (by decide +kernel : decode c_X7_addTo 160 = .ok (.if_icmp .ge 47, 3)) (by decide) rfl rfl rfl, ?_⟩
  refine List.forall_mem_cons.mpr ⟨s_ldc2 C (by decide +kernel : decode c_X7_addTo 163 = .ok (.ldc2_w 129, 3)) rfl rfl ew680, ?_⟩
  refine List.forall_mem_cons.mpr ⟨s_lload_n C (by decide +kernel : decode c_X7_addTo 166 = .ok (.lload_n 3, 1)) rfl rfl rfl, ?_⟩
  refine List.forall_mem_cons.mpr ⟨s_lmul C (by decide +kernel : decode c_X7_addTo 167 = .ok (.lmul, 1)) rfl rfl, ?_⟩
  refine List.forall_mem_cons.mpr ⟨s_aload_n C (by decide +kernel : decode c_X7_addTo 168 = .ok (.aload_n 0, 1)) rfl rfl rfl, ?_⟩
  refine List.forall_mem_cons.mpr ⟨s_getf C (by decide +kernel : decode c_X7_addTo 169 = .ok (.getfield 28, 3)) rfl rfl em_cl_X7 (by decide) ew113 rfl, ?_⟩
  refine List.forall_mem_cons.mpr ⟨s_iload C (by decide +kernel : decode c_X7_addTo 172 = .ok (.iload 5, 2)) rfl rfl, ?_⟩
  refine List.forall_mem_cons.mpr ⟨s_iald C (by decide +kernel : decode c_X7_addTo 174 = .ok (.iaload, 1)) rfl rfl, ?_⟩
  refine List.forall_mem_cons.mpr ⟨s_i2l C (by decide +kernel : decode c_X7_addTo 175 = .ok (.i2l, 1)) rfl rfl, ?_⟩
  refine List.forall_mem_cons.mpr ⟨s_ladd C (by decide +kernel : decode c_X7_addTo 176 = .ok (.ladd, 1)) rfl rfl, ?_⟩
  refine List.forall_mem_cons.mpr ⟨s_lstore_n C (by decide +kernel : decode c_X7_addTo 177 = .ok (.lstore_n 3, 1)) rfl rfl rfl (by decide), ?_⟩
  refine List.forall_mem_cons.mpr ⟨s_ldc2 C (by decide +kernel : decode c_X7_addTo 178 = .ok (.ldc2_w 129, 3)) rfl rfl ew680, ?_⟩
  refine List.forall_mem_cons.mpr ⟨s_lload_n C (by decide +kernel : decode c_X7_addTo 181 = .ok (.lload_n 3, 1)) rfl rfl rfl, ?_⟩
  refine List.forall_mem_cons.mpr ⟨s_lmul C (by decide +kernel : decode c_X7_addTo 182 = .ok (.lmul, 1)) rfl rfl, ?_⟩
  refine List.forall_mem_cons.mpr ⟨s_aload_n C (by decide +kernel : decode c_X7_addTo 183 = .ok (.aload_n 0, 1)) rfl rfl rfl, ?_⟩
  refine List.forall_mem_cons.mpr ⟨s_getf C (by decide +kernel : decode c_X7_addTo 184 = .ok (.getfield 31, 3)) rfl rfl em_cl_X7 (by decide) ew114 rfl, ?_⟩
  refine List.forall_mem_cons.mpr ⟨s_iload C (by decide +kernel : decode c_X7_addTo 187 = .ok (.iload 5, 2)) rfl rfl, ?_⟩
  refine List.forall_mem_cons.mpr ⟨s_zald C (by decide +kernel : decode c_X7_addTo 189 = .ok (.baload, 1)) rfl rfl, ?_⟩
  refine List.forall_mem_cons.mpr ⟨s_ifeq C (by decide +kernel : decode c_X7_addTo 190 = .ok (.ifCond .eq 7, 3)) (by decide) rfl rfl rfl, ?_⟩
  refine List.forall_mem_cons.mpr ⟨s_iconst C (by decide +kernel : decode c_X7_addTo 193 = .ok (.iconst 1, 1)) rfl rfl (by decide), ?_⟩
  refine List.forall_mem_cons.mpr ⟨s_goto C (by decide +kernel : decode c_X7_addTo 194 = .ok (.goto 4, 3)) (by decide) rfl, ?_⟩
  refine List.forall_mem_cons.mpr ⟨s_iconst C (by decide +kernel : decode c_X7_addTo 197 = .ok (.iconst 0, 1)) rfl rfl (by decide), ?_⟩
  refine List.forall_mem_cons.mpr ⟨s_i2l C (by decide +kernel : decode c_X7_addTo 198 = .ok (.i2l, 1)) rfl rfl, ?_⟩
  refine List.forall_mem_cons.mpr ⟨s_ladd C (by decide +kernel : decode c_X7_addTo 199 = .ok (.ladd, 1)) rfl rfl, ?_⟩
  refine List.forall_mem_cons.mpr ⟨s_lstore_n C (by decide +kernel : decode c_X7_addTo 200 = .ok (.lstore_n 3, 1)) rfl rfl rfl (by decide), ?_⟩
  refine List.forall_mem_cons.mpr ⟨s_iinc C (by decide +kernel : decode c_X7_addTo 201 = .ok (.iinc 5 1, 3)) rfl rfl (by decide) (by decide), ?_⟩
  refine List.forall_mem_cons.mpr ⟨s_goto C (by decide +kernel : decode c_X7_addTo 204 = .ok (.goto (-50), 3)) (by decide) rfl, ?_⟩
  refine List.forall_mem_cons.mpr ⟨s_lload_n C (by decide +kernel : decode c_X7_addTo 207 = .ok (.lload_n 3, 1)) rfl rfl rfl, ?_⟩
  refine List.forall_mem_cons.mpr ⟨s_lret C (by decide +kernel : decode c_X7_addTo 208 = .ok (.lreturn, 1)) hret hlk ⟨Nat.le_refl 0, Nat.le_refl 0⟩, ?_⟩
  exact fun _ h => absurd h List.not_mem_nil
