/-! ===== new WedApart, new WedApartModel ===== -/
def sp_X9_init : em_Sp := fun av hp Q => av = [.ref 0] ∧ hp = [.inr (4, [.null, .null, .null, .null, .null, .null, .null])] ∧ Q none (wX z0 0 0 0 zL 0 1 z0 (fun _ => none) 0 z0 0 0 0 2 4 0 z0 z0 0 0 zL z0 0 z0 z0 (tw16 0 z0 0 0 0 2 4 0 z0 z0 0 0 zL z0 0 z0 z0 []))
def T_X9_init : List (Nat × em_Op) := [(0, o_aload 0 1), (1, o_oinit 4), (4, o_aload 0 5), (5, o_new 1 3 [.null, .int 0, .int 0, .int 0] 8), (8, o_dup 9), (9, o_callI 1 sp_X8_init 12), (12, o_putR 4 0 15), (15, o_aload 0 16), (16, o_new 1 0 [.null] 19), (19, o_dup 20), (20, o_callI 1 sp_X0_init 23), (23, o_putR 4 1 26), (26, o_aload 0 27), (27, o_new 1 1 [.int 0, .int 0] 30), (30, o_dup 31), (31, o_callI 1 sp_X2_init 34), (34, o_putR 4 2 37), (37, o_aload 0 38), (38, o_iconst 3 39), (39, o_newa 1 0 3 41), (41, o_putR 4 3 44), (44, o_aload 0 45), (45, o_iconst 2 46), (46, o_newq 1 2 49), (49, o_putR 4 4 52), (52, o_aload 0 53), (53, o_new 1 2 [.int 0, .null, .long 0, .long 0, .int 0, .int 0, .int 0, .int 0, .null, .null, .int 0, .int 0, .null, .null, .int 0, .null, .null] 56), (56, o_dup 57), (57, o_callI 1 sp_X7_init 60), (60, o_putR 4 5 63), (63, o_aload 0 64), (64, o_new 1 2 [.int 0, .null, .long 0, .long 0, .int 0, .int 0, .int 0, .int 0, .null, .null, .int 0, .int 0, .null, .null, .int 0, .null, .null] 67), (67, o_dup 68), (68, o_callI 1 sp_X7_init 71), (71, o_putR 4 6 74), (74, o_vret)]
theorem me_X9_init : em_Me T_X9_init 1 sp_X9_init := by
  intro Q K hK hle av hp hs
  obtain ⟨rfl, rfl, hq⟩ := hs
  refine ⟨Nat.le_of_ble_eq_true rfl, hK 0 9999 0 _ _ _ ?_⟩
  refine ⟨_, rfl, by decide, rfl, (by repeat (first | exact trivial | refine ⟨rfl, ?_⟩ | refine ⟨trivial, ?_⟩ | refine ⟨(fun i q h => by cases h), ?_⟩)), ?_⟩
  refine ⟨rfl, by decide, rfl, (by repeat (first | exact trivial | refine ⟨rfl, ?_⟩ | refine ⟨trivial, ?_⟩ | refine ⟨(fun i q h => by cases h), ?_⟩)), rfl, rfl, rfl, rfl, ?_⟩
  refine ⟨_, rfl, by decide, rfl, (by repeat (first | exact trivial | refine ⟨rfl, ?_⟩ | refine ⟨trivial, ?_⟩ | refine ⟨(fun i q h => by cases h), ?_⟩)), ?_⟩
  refine ⟨rfl, by decide, rfl, (by repeat (first | exact trivial | refine ⟨rfl, ?_⟩ | refine ⟨trivial, ?_⟩ | refine ⟨(fun i q h => by cases h), ?_⟩)), rfl, rfl, rfl, rfl, ?_⟩
  refine ⟨_, rfl, by decide, rfl, (by repeat (first | exact trivial | refine ⟨rfl, ?_⟩ | refine ⟨trivial, ?_⟩ | refine ⟨(fun i q h => by cases h), ?_⟩)), ?_⟩
  refine ⟨rfl, by decide, rfl, (by repeat (first | exact trivial | refine ⟨rfl, ?_⟩ | refine ⟨trivial, ?_⟩ | refine ⟨(fun i q h => by cases h), ?_⟩)), rfl, rfl, rfl, rfl, ?_⟩
  refine ⟨rfl, _, rfl, by decide, rfl, (by repeat (first | exact trivial | refine ⟨rfl, ?_⟩ | refine ⟨trivial, ?_⟩ | refine ⟨(fun i q h => by cases h), ?_⟩)), ?_⟩
  refine ⟨rfl, _, rfl, by decide, rfl, (by repeat (first | exact trivial | refine ⟨rfl, ?_⟩ | refine ⟨trivial, ?_⟩ | refine ⟨(fun i q h => by cases h), ?_⟩)), ?_⟩
  refine ⟨_, rfl, by decide, rfl, (by repeat (first | exact trivial | refine ⟨rfl, ?_⟩ | refine ⟨trivial, ?_⟩ | refine ⟨(fun i q h => by cases h), ?_⟩)), ?_⟩
  refine ⟨rfl, by decide, rfl, (by repeat (first | exact trivial | refine ⟨rfl, ?_⟩ | refine ⟨trivial, ?_⟩ | refine ⟨(fun i q h => by cases h), ?_⟩)), rfl, rfl, rfl, rfl, ?_⟩
  refine ⟨_, rfl, by decide, rfl, (by repeat (first | exact trivial | refine ⟨rfl, ?_⟩ | refine ⟨trivial, ?_⟩ | refine ⟨(fun i q h => by cases h), ?_⟩)), ?_⟩
  refine ⟨rfl, by decide, rfl, (by repeat (first | exact trivial | refine ⟨rfl, ?_⟩ | refine ⟨trivial, ?_⟩ | refine ⟨(fun i q h => by cases h), ?_⟩)), rfl, rfl, rfl, rfl, ?_⟩
  exact hq
abbrev rm_X9_init : Room := { frames := 2, cells := 23, slots := 529, locals := 40 }
set_option maxRecDepth 100000 in
set_option maxHeartbeats 4000000 in
theorem ct_X9_init (l : Launch) (D : va_G) (dA : Nat → ClassId) (σ : Nat → Nat) : em_CA l D em_cl dA σ (em_F σ) 1 y_X9_init c_X9_init 1 (Option.none : Option ClassFile.FieldType) rm_X9_init sp_X9_init 23 529 := by
  refine em_CA_of (T := T_X9_init) (cnt := em_cn [(8, 1, 4), (12, 2, 154), (19, 3, 155), (23, 4, 356), (30, 5, 358), (34, 5, 358), (41, 6, 361), (49, 7, 363), (56, 8, 380), (60, 15, 446), (67, 16, 463), (71, 23, 529)] (0, 0)) rfl (em_F_ok σ) (by decide) (fun p e s m args below meth c A ρ Q C hFok hF hret hlk hin => ?_) me_X9_init
  have hPr : ∀ ρ1 ρ2 : Nat → Nat, (∀ k, k < 1 → ρ1 k = ρ k) → (∀ k, k < 1 → ρ2 k = ρ1 k) → ∀ k, k < 1 → ρ2 k = ρ k := fun ρ1 ρ2 h1 h2 k hk => (h2 k hk).trans (h1 k hk)
  unfold T_X9_init
  refine List.forall_mem_cons.mpr ⟨s_aload_n C (by decide +kernel : decode c_X9_init 0 = .ok (.aload_n 0, 1)) rfl rfl rfl, ?_⟩
  refine List.forall_mem_cons.mpr ⟨s_oinit C ew24 ew25 ew26 ⟨by decide, by decide⟩ (by decide +kernel : decode c_X9_init 1 = .ok (.invokespecial 1, 3)) rfl rfl, ?_⟩
  refine List.forall_mem_cons.mpr ⟨s_aload_n C (by decide +kernel : decode c_X9_init 4 = .ok (.aload_n 0, 1)) rfl rfl rfl, ?_⟩
  refine List.forall_mem_cons.mpr ⟨s_new C hPr em_cl_X8 ew27 ew28 ew2 (by decide +kernel) rfl (by decide +kernel : decode c_X9_init 5 = .ok (.new 7, 3)) rfl rfl ⟨by decide, by decide⟩, ?_⟩
  refine List.forall_mem_cons.mpr ⟨s_dup C (by decide +kernel : decode c_X9_init 8 = .ok (.dup, 1)) rfl rfl, ?_⟩
  refine List.forall_mem_cons.mpr ⟨s_callIN C hPr hFok hF (ct_X8_init l D dA σ) ⟨rfl, rfl⟩ ew31 (em_F_nest (host := "WedApart") hF () (by decide +kernel)) ew30 ew2 rfl ⟨by decide, by decide, by decide +kernel⟩ ⟨by decide, by decide⟩ (by decide +kernel : decode c_X9_init 9 = .ok (.invokespecial 9, 3)) rfl rfl ⟨by decide, by decide⟩, ?_⟩
  refine List.forall_mem_cons.mpr ⟨s_putRF C (by decide +kernel : decode c_X9_init 12 = .ok (.putfield 10, 3)) rfl rfl em_cl_X9 (by decide) ew152 rfl (by decide) hin rfl (Or.inl ⟨_, rfl⟩) (fty := .object "WedApart$TownText") (by decide +kernel), ?_⟩
  refine List.forall_mem_cons.mpr ⟨s_aload_n C (by decide +kernel : decode c_X9_init 15 = .ok (.aload_n 0, 1)) rfl rfl rfl, ?_⟩
  refine List.forall_mem_cons.mpr ⟨s_new C hPr em_cl_X0 ew48 ew49 ew3 (by decide +kernel) rfl (by decide +kernel : decode c_X9_init 16 = .ok (.new 16, 3)) rfl rfl ⟨by decide, by decide⟩, ?_⟩
  refine List.forall_mem_cons.mpr ⟨s_dup C (by decide +kernel : decode c_X9_init 19 = .ok (.dup, 1)) rfl rfl, ?_⟩
  refine List.forall_mem_cons.mpr ⟨s_callIN C hPr hFok hF (ct_X0_init l D dA σ) ⟨rfl, rfl⟩ ew52 (em_F_nest (host := "WedApart") hF () (by decide +kernel)) ew51 ew3 rfl ⟨by decide, by decide, by decide +kernel⟩ ⟨by decide, by decide⟩ (by decide +kernel : decode c_X9_init 20 = .ok (.invokespecial 18, 3)) rfl rfl ⟨by decide, by decide⟩, ?_⟩
  refine List.forall_mem_cons.mpr ⟨s_putRF C (by decide +kernel : decode c_X9_init 23 = .ok (.putfield 19, 3)) rfl rfl em_cl_X9 (by decide) ew153 rfl (by decide) hin rfl (Or.inl ⟨_, rfl⟩) (fty := .object "WedApart$Course") (by decide +kernel), ?_⟩
  refine List.forall_mem_cons.mpr ⟨s_aload_n C (by decide +kernel : decode c_X9_init 26 = .ok (.aload_n 0, 1)) rfl rfl rfl, ?_⟩
  refine List.forall_mem_cons.mpr ⟨s_new C hPr em_cl_X2 ew59 ew60 ew4 (by decide +kernel) rfl (by decide +kernel : decode c_X9_init 27 = .ok (.new 23, 3)) rfl rfl ⟨by decide, by decide⟩, ?_⟩
  refine List.forall_mem_cons.mpr ⟨s_dup C (by decide +kernel : decode c_X9_init 30 = .ok (.dup, 1)) rfl rfl, ?_⟩
  refine List.forall_mem_cons.mpr ⟨s_callIN C hPr hFok hF (ct_X2_init l D dA σ) ⟨rfl, rfl⟩ ew63 (em_F_nest (host := "WedApart") hF () (by decide +kernel)) ew62 ew4 rfl ⟨by decide, by decide, by decide +kernel⟩ ⟨by decide, by decide⟩ (by decide +kernel : decode c_X9_init 31 = .ok (.invokespecial 25, 3)) rfl rfl ⟨by decide, by decide⟩, ?_⟩
  refine List.forall_mem_cons.mpr ⟨s_putRF C (by decide +kernel : decode c_X9_init 34 = .ok (.putfield 26, 3)) rfl rfl em_cl_X9 (by decide) ew154 rfl (by decide) hin rfl (Or.inl ⟨_, rfl⟩) (fty := .object "WedApart$Fraction") (by decide +kernel), ?_⟩
  refine List.forall_mem_cons.mpr ⟨s_aload_n C (by decide +kernel : decode c_X9_init 37 = .ok (.aload_n 0, 1)) rfl rfl rfl, ?_⟩
  refine List.forall_mem_cons.mpr ⟨s_iconst C (by decide +kernel : decode c_X9_init 38 = .ok (.iconst 3, 1)) rfl rfl (by decide), ?_⟩
  refine List.forall_mem_cons.mpr ⟨s_newa C hPr ⟨by decide, rfl⟩ (by decide) ew150 (by decide +kernel : decode c_X9_init 39 = .ok (.newarray .int, 2)) rfl rfl ⟨by decide, by decide⟩, ?_⟩
  refine List.forall_mem_cons.mpr ⟨s_putRF C (by decide +kernel : decode c_X9_init 41 = .ok (.putfield 30, 3)) rfl rfl em_cl_X9 (by decide) ew155 rfl (by decide) hin rfl (Or.inr ⟨_, rfl⟩) (fty := .array .int) (by decide +kernel), ?_⟩
  refine List.forall_mem_cons.mpr ⟨s_aload_n C (by decide +kernel : decode c_X9_init 44 = .ok (.aload_n 0, 1)) rfl rfl rfl, ?_⟩
  refine List.forall_mem_cons.mpr ⟨s_iconst C (by decide +kernel : decode c_X9_init 45 = .ok (.iconst 2, 1)) rfl rfl (by decide), ?_⟩
  refine List.forall_mem_cons.mpr ⟨s_newq C hF hPr (by decide) ew74 (by decide +kernel : decode c_X9_init 46 = .ok (.anewarray 34, 3)) rfl rfl ⟨by decide, by decide⟩, ?_⟩
  refine List.forall_mem_cons.mpr ⟨s_putRF C (by decide +kernel : decode c_X9_init 49 = .ok (.putfield 36, 3)) rfl rfl em_cl_X9 (by decide) ew156 rfl (by decide) hin rfl (Or.inr ⟨_, rfl⟩) (fty := .array (.object "WedApart$Town")) (by decide +kernel), ?_⟩
  refine List.forall_mem_cons.mpr ⟨s_aload_n C (by decide +kernel : decode c_X9_init 52 = .ok (.aload_n 0, 1)) rfl rfl rfl, ?_⟩
  refine List.forall_mem_cons.mpr ⟨s_new C hPr em_cl_X7 ew74 ew76 ew5 (by decide +kernel) rfl (by decide +kernel : decode c_X9_init 53 = .ok (.new 34, 3)) rfl rfl ⟨by decide, by decide⟩, ?_⟩
  refine List.forall_mem_cons.mpr ⟨s_dup C (by decide +kernel : decode c_X9_init 56 = .ok (.dup, 1)) rfl rfl, ?_⟩
  refine List.forall_mem_cons.mpr ⟨s_callI C hPr hFok hF (ct_X7_init l D dA σ) ⟨rfl, rfl⟩ ew79 ew77 ew78 ew5 rfl ⟨by decide, by decide, by decide +kernel⟩ ⟨by decide, by decide⟩ (by decide +kernel : decode c_X9_init 57 = .ok (.invokespecial 40, 3)) rfl rfl ⟨by decide, by decide⟩, ?_⟩
  refine List.forall_mem_cons.mpr ⟨s_putR C (by decide +kernel : decode c_X9_init 60 = .ok (.putfield 41, 3)) rfl rfl em_cl_X9 (by decide) ew157 rfl (by decide) (Or.inl ⟨_, rfl⟩) (fty := .object "WedApart$Town") (by decide +kernel), ?_⟩
  refine List.forall_mem_cons.mpr ⟨s_aload_n C (by decide +kernel : decode c_X9_init 63 = .ok (.aload_n 0, 1)) rfl rfl rfl, ?_⟩
  refine List.forall_mem_cons.mpr ⟨s_new C hPr em_cl_X7 ew74 ew76 ew5 (by decide +kernel) rfl (by decide +kernel : decode c_X9_init 64 = .ok (.new 34, 3)) rfl rfl ⟨by decide, by decide⟩, ?_⟩
  refine List.forall_mem_cons.mpr ⟨s_dup C (by decide +kernel : decode c_X9_init 67 = .ok (.dup, 1)) rfl rfl, ?_⟩
  refine List.forall_mem_cons.mpr ⟨s_callI C hPr hFok hF (ct_X7_init l D dA σ) ⟨rfl, rfl⟩ ew79 ew77 ew78 ew5 rfl ⟨by decide, by decide, by decide +kernel⟩ ⟨by decide, by decide⟩ (by decide +kernel : decode c_X9_init 68 = .ok (.invokespecial 40, 3)) rfl rfl ⟨by decide, by decide⟩, ?_⟩
  refine List.forall_mem_cons.mpr ⟨s_putR C (by decide +kernel : decode c_X9_init 71 = .ok (.putfield 45, 3)) rfl rfl em_cl_X9 (by decide) ew158 rfl (by decide) (Or.inl ⟨_, rfl⟩) (fty := .object "WedApart$Town") (by decide +kernel), ?_⟩
  refine List.forall_mem_cons.mpr ⟨s_vret C (by decide +kernel : decode c_X9_init 74 = .ok (.return_, 1)) hret hlk ⟨by decide, by decide⟩, ?_⟩
  exact fun _ h => absurd h List.not_mem_nil
def n24 : List Value := [.null, .null, .null, .null, .null, .int 0, .long 0, .long 0, .null, .int 0, .int 0, .int 0, .int 0, .int 0, .long 0, .null, .int 0, .null, .null, .null, .null, .null, .null, .null]
def sp_X10_init : em_Sp := fun av hp Q => av = [.ref 0] ∧ hp = [.inr (5, n24)] ∧ Q none (wM (emI z0 146) z0 z0 z0 z0 0 0 1 z0 0 0 0 0 0 0 z0 0 z0 zL z0 z0 z0 z0 z0)
def T_X10_init : List (Nat × em_Op) := [(0, o_aload 0 1), (1, o_oinit 4), (4, o_aload 0 5), (5, o_iconst 146 8), (8, o_newa 1 0 146 10), (10, o_putR 5 0 13), (13, o_aload 0 14), (14, o_iconst 292 17), (17, o_newa 1 0 292 19), (19, o_putR 5 1 22), (22, o_aload 0 23), (23, o_iconst 2 24), (24, o_newa 1 3 2 26), (26, o_putR 5 2 29), (29, o_aload 0 30), (30, o_iconst 146 33), (33, o_newa 1 0 146 35), (35, o_putR 5 3 38), (38, o_aload 0 39), (39, o_iconst 3 40), (40, o_newa 1 0 3 42), (42, o_putR 5 4 45), (45, o_aload 0 46), (46, o_iconst 150 49), (49, o_newa 1 0 150 51), (51, o_putR 5 8 54), (54, o_aload 0 55), (55, o_iconst 150 58), (58, o_newa 1 0 150 60), (60, o_putR 5 15 63), (63, o_aload 0 64), (64, o_iconst 6 66), (66, o_newa 1 0 6 68), (68, o_putR 5 17 71), (71, o_aload 0 72), (72, o_iconst 201 75), (75, o_newa 1 1 201 77), (77, o_putR 5 18 80), (80, o_aload 0 81), (81, o_iconst 6 83), (83, o_newa 1 0 6 85), (85, o_putR 5 19 88), (88, o_aload 0 89), (89, o_iconst 6 91), (91, o_newa 1 0 6 93), (93, o_putR 5 20 96), (96, o_aload 0 97), (97, o_iconst 6 99), (99, o_newa 1 0 6 101), (101, o_putR 5 21 104), (104, o_aload 0 105), (105, o_iconst 4 106), (106, o_newa 1 0 4 108), (108, o_putR 5 22 111), (111, o_aload 0 112), (112, o_iconst 4 113), (113, o_newa 1 0 4 115), (115, o_putR 5 23 118), (118, o_aload 0 119), (119, o_lconst 1 120), (120, o_putL 5 7 123), (123, o_aload 0 124), (124, o_call 1 (some 5) (sp_X10_empties) 127), (127, o_vret)]
theorem me_X10_init : em_Me T_X10_init 1 sp_X10_init := by
  intro Q K hK hle av hp hs
  obtain ⟨rfl, rfl, hq⟩ := hs
  refine ⟨Nat.le_of_ble_eq_true rfl, hK 0 9999 0 _ _ _ ?_⟩
  refine ⟨rfl, _, rfl, by decide, rfl, (by repeat (first | exact trivial | refine ⟨rfl, ?_⟩ | refine ⟨trivial, ?_⟩ | refine ⟨(fun i q h => by cases h), ?_⟩)), ?_⟩
  refine ⟨rfl, _, rfl, by decide, rfl, (by repeat (first | exact trivial | refine ⟨rfl, ?_⟩ | refine ⟨trivial, ?_⟩ | refine ⟨(fun i q h => by cases h), ?_⟩)), ?_⟩
  refine ⟨rfl, _, rfl, by decide, rfl, (by repeat (first | exact trivial | refine ⟨rfl, ?_⟩ | refine ⟨trivial, ?_⟩ | refine ⟨(fun i q h => by cases h), ?_⟩)), ?_⟩
  refine ⟨rfl, _, rfl, by decide, rfl, (by repeat (first | exact trivial | refine ⟨rfl, ?_⟩ | refine ⟨trivial, ?_⟩ | refine ⟨(fun i q h => by cases h), ?_⟩)), ?_⟩
  refine ⟨rfl, _, rfl, by decide, rfl, (by repeat (first | exact trivial | refine ⟨rfl, ?_⟩ | refine ⟨trivial, ?_⟩ | refine ⟨(fun i q h => by cases h), ?_⟩)), ?_⟩
  refine ⟨rfl, _, rfl, by decide, rfl, (by repeat (first | exact trivial | refine ⟨rfl, ?_⟩ | refine ⟨trivial, ?_⟩ | refine ⟨(fun i q h => by cases h), ?_⟩)), ?_⟩
  refine ⟨rfl, _, rfl, by decide, rfl, (by repeat (first | exact trivial | refine ⟨rfl, ?_⟩ | refine ⟨trivial, ?_⟩ | refine ⟨(fun i q h => by cases h), ?_⟩)), ?_⟩
  refine ⟨rfl, _, rfl, by decide, rfl, (by repeat (first | exact trivial | refine ⟨rfl, ?_⟩ | refine ⟨trivial, ?_⟩ | refine ⟨(fun i q h => by cases h), ?_⟩)), ?_⟩
  refine ⟨rfl, _, rfl, by decide, rfl, (by repeat (first | exact trivial | refine ⟨rfl, ?_⟩ | refine ⟨trivial, ?_⟩ | refine ⟨(fun i q h => by cases h), ?_⟩)), ?_⟩
  refine ⟨rfl, _, rfl, by decide, rfl, (by repeat (first | exact trivial | refine ⟨rfl, ?_⟩ | refine ⟨trivial, ?_⟩ | refine ⟨(fun i q h => by cases h), ?_⟩)), ?_⟩
  refine ⟨rfl, _, rfl, by decide, rfl, (by repeat (first | exact trivial | refine ⟨rfl, ?_⟩ | refine ⟨trivial, ?_⟩ | refine ⟨(fun i q h => by cases h), ?_⟩)), ?_⟩
  refine ⟨rfl, _, rfl, by decide, rfl, (by repeat (first | exact trivial | refine ⟨rfl, ?_⟩ | refine ⟨trivial, ?_⟩ | refine ⟨(fun i q h => by cases h), ?_⟩)), ?_⟩
  refine ⟨rfl, _, rfl, by decide, rfl, (by repeat (first | exact trivial | refine ⟨rfl, ?_⟩ | refine ⟨trivial, ?_⟩ | refine ⟨(fun i q h => by cases h), ?_⟩)), ?_⟩
  refine ⟨rfl, _, rfl, by decide, rfl, (by repeat (first | exact trivial | refine ⟨rfl, ?_⟩ | refine ⟨trivial, ?_⟩ | refine ⟨(fun i q h => by cases h), ?_⟩)), ?_⟩
  exact ⟨_, _, _, _, _, _, _, _, _, _, _, _, _, _, _, _, _, _, _, _, _, _, _, _, rfl, rfl, hq⟩
abbrev rm_X10_init : Room := { frames := 1, cells := 14, slots := 1122, locals := 21 }
set_option maxRecDepth 100000 in
set_option maxHeartbeats 4000000 in
theorem ct_X10_init (l : Launch) (D : va_G) (dA : Nat → ClassId) (σ : Nat → Nat) : em_CA l D em_cl dA σ (em_F σ) 1 y_X10_init c_X10_init 1 (Option.none : Option ClassFile.FieldType) rm_X10_init sp_X10_init 14 1122 := by
  refine em_CA_of (T := T_X10_init) (cnt := em_cn [(10, 1, 146), (19, 2, 438), (26, 3, 440), (35, 4, 586), (42, 5, 589), (51, 6, 739), (60, 7, 889), (68, 8, 895), (77, 9, 1096), (85, 10, 1102), (93, 11, 1108), (101, 12, 1114), (108, 13, 1118), (115, 14, 1122)] (0, 0)) rfl (em_F_ok σ) (by decide) (fun p e s m args below meth c A ρ Q C hFok hF hret hlk hin => ?_) me_X10_init
  have hPr : ∀ ρ1 ρ2 : Nat → Nat, (∀ k, k < 1 → ρ1 k = ρ k) → (∀ k, k < 1 → ρ2 k = ρ1 k) → ∀ k, k < 1 → ρ2 k = ρ k := fun ρ1 ρ2 h1 h2 k hk => (h2 k hk).trans (h1 k hk)
  unfold T_X10_init
  refine List.forall_mem_cons.mpr ⟨s_aload_n C (by decide +kernel : decode c_X10_init 0 = .ok (.aload_n 0, 1)) rfl rfl rfl, ?_⟩
  refine List.forall_mem_cons.mpr ⟨s_oinit C ew686 ew25 ew26 ⟨by decide, by decide⟩ (by decide +kernel : decode c_X10_init 1 = .ok (.invokespecial 1, 3)) rfl rfl, ?_⟩
  refine List.forall_mem_cons.mpr ⟨s_aload_n C (by decide +kernel : decode c_X10_init 4 = .ok (.aload_n 0, 1)) rfl rfl rfl, ?_⟩
  refine List.forall_mem_cons.mpr ⟨s_sipush C (by decide +kernel : decode c_X10_init 5 = .ok (.sipush 146, 3)) rfl rfl (by decide), ?_⟩
  refine List.forall_mem_cons.mpr ⟨s_newa C hPr ⟨by decide, rfl⟩ (by decide) ew150 (by decide +kernel : decode c_X10_init 8 = .ok (.newarray .int, 2)) rfl rfl ⟨by decide, by decide⟩, ?_⟩
  refine List.forall_mem_cons.mpr ⟨s_putRF C (by decide +kernel : decode c_X10_init 10 = .ok (.putfield 7, 3)) rfl rfl em_cl_X10 (by decide) ew691 rfl (by decide) hin rfl (Or.inr ⟨_, rfl⟩) (fty := .array .int) (by decide +kernel), ?_⟩
  refine List.forall_mem_cons.mpr ⟨s_aload_n C (by decide +kernel : decode c_X10_init 13 = .ok (.aload_n 0, 1)) rfl rfl rfl, ?_⟩
  refine List.forall_mem_cons.mpr ⟨s_sipush C (by decide +kernel : decode c_X10_init 14 = .ok (.sipush 292, 3)) rfl rfl (by decide), ?_⟩
  refine List.forall_mem_cons.mpr ⟨s_newa C hPr ⟨by decide, rfl⟩ (by decide) ew150 (by decide +kernel : decode c_X10_init 17 = .ok (.newarray .int, 2)) rfl rfl ⟨by decide, by decide⟩, ?_⟩
  refine List.forall_mem_cons.mpr ⟨s_putRF C (by decide +kernel : decode c_X10_init 19 = .ok (.putfield 13, 3)) rfl rfl em_cl_X10 (by decide) ew692 rfl (by decide) hin rfl (Or.inr ⟨_, rfl⟩) (fty := .array .int) (by decide +kernel), ?_⟩
  refine List.forall_mem_cons.mpr ⟨s_aload_n C (by decide +kernel : decode c_X10_init 22 = .ok (.aload_n 0, 1)) rfl rfl rfl, ?_⟩
  refine List.forall_mem_cons.mpr ⟨s_iconst C (by decide +kernel : decode c_X10_init 23 = .ok (.iconst 2, 1)) rfl rfl (by decide), ?_⟩
  refine List.forall_mem_cons.mpr ⟨s_newa C hPr ⟨by decide, rfl⟩ (by decide) ew151 (by decide +kernel : decode c_X10_init 24 = .ok (.newarray .boolean, 2)) rfl rfl ⟨by decide, by decide⟩, ?_⟩
  refine List.forall_mem_cons.mpr ⟨s_putRF C (by decide +kernel : decode c_X10_init 26 = .ok (.putfield 16, 3)) rfl rfl em_cl_X10 (by decide) ew693 rfl (by decide) hin rfl (Or.inr ⟨_, rfl⟩) (fty := .array .boolean) (by decide +kernel), ?_⟩
  refine List.forall_mem_cons.mpr ⟨s_aload_n C (by decide +kernel : decode c_X10_init 29 = .ok (.aload_n 0, 1)) rfl rfl rfl, ?_⟩
  refine List.forall_mem_cons.mpr ⟨s_sipush C (by decide +kernel : decode c_X10_init 30 = .ok (.sipush 146, 3)) rfl rfl (by decide), ?_⟩
  refine List.forall_mem_cons.mpr ⟨s_newa C hPr ⟨by decide, rfl⟩ (by decide) ew150 (by decide +kernel : decode c_X10_init 33 = .ok (.newarray .int, 2)) rfl rfl ⟨by decide, by decide⟩, ?_⟩
  refine List.forall_mem_cons.mpr ⟨s_putRF C (by decide +kernel : decode c_X10_init 35 = .ok (.putfield 20, 3)) rfl rfl em_cl_X10 (by decide) ew694 rfl (by decide) hin rfl (Or.inr ⟨_, rfl⟩) (fty := .array .int) (by decide +kernel), ?_⟩
  refine List.forall_mem_cons.mpr ⟨s_aload_n C (by decide +kernel : decode c_X10_init 38 = .ok (.aload_n 0, 1)) rfl rfl rfl, ?_⟩
  refine List.forall_mem_cons.mpr ⟨s_iconst C (by decide +kernel : decode c_X10_init 39 = .ok (.iconst 3, 1)) rfl rfl (by decide), ?_⟩
  refine List.forall_mem_cons.mpr ⟨s_newa C hPr ⟨by decide, rfl⟩ (by decide) ew150 (by decide +kernel : decode c_X10_init 40 = .ok (.newarray .int, 2)) rfl rfl ⟨by decide, by decide⟩, ?_⟩
  refine List.forall_mem_cons.mpr ⟨s_putRF C (by decide +kernel : decode c_X10_init 42 = .ok (.putfield 23, 3)) rfl rfl em_cl_X10 (by decide) ew695 rfl (by decide) hin rfl (Or.inr ⟨_, rfl⟩) (fty := .array .int) (by decide +kernel), ?_⟩
  refine List.forall_mem_cons.mpr ⟨s_aload_n C (by decide +kernel : decode c_X10_init 45 = .ok (.aload_n 0, 1)) rfl rfl rfl, ?_⟩
  refine List.forall_mem_cons.mpr ⟨s_sipush C (by decide +kernel : decode c_X10_init 46 = .ok (.sipush 150, 3)) rfl rfl (by decide), ?_⟩
  refine List.forall_mem_cons.mpr ⟨s_newa C hPr ⟨by decide, rfl⟩ (by decide) ew150 (by decide +kernel : decode c_X10_init 49 = .ok (.newarray .int, 2)) rfl rfl ⟨by decide, by decide⟩, ?_⟩
  refine List.forall_mem_cons.mpr ⟨s_putRF C (by decide +kernel : decode c_X10_init 51 = .ok (.putfield 26, 3)) rfl rfl em_cl_X10 (by decide) ew699 rfl (by decide) hin rfl (Or.inr ⟨_, rfl⟩) (fty := .array .int) (by decide +kernel), ?_⟩
  refine List.forall_mem_cons.mpr ⟨s_aload_n C (by decide +kernel : decode c_X10_init 54 = .ok (.aload_n 0, 1)) rfl rfl rfl, ?_⟩
  refine List.forall_mem_cons.mpr ⟨s_sipush C (by decide +kernel : decode c_X10_init 55 = .ok (.sipush 150, 3)) rfl rfl (by decide), ?_⟩
  refine List.forall_mem_cons.mpr ⟨s_newa C hPr ⟨by decide, rfl⟩ (by decide) ew150 (by decide +kernel : decode c_X10_init 58 = .ok (.newarray .int, 2)) rfl rfl ⟨by decide, by decide⟩, ?_⟩
  refine List.forall_mem_cons.mpr ⟨s_putRF C (by decide +kernel : decode c_X10_init 60 = .ok (.putfield 29, 3)) rfl rfl em_cl_X10 (by decide) ew706 rfl (by decide) hin rfl (Or.inr ⟨_, rfl⟩) (fty := .array .int) (by decide +kernel), ?_⟩
  refine List.forall_mem_cons.mpr ⟨s_aload_n C (by decide +kernel : decode c_X10_init 63 = .ok (.aload_n 0, 1)) rfl rfl rfl, ?_⟩
  refine List.forall_mem_cons.mpr ⟨s_bipush C (by decide +kernel : decode c_X10_init 64 = .ok (.bipush 6, 2)) rfl rfl (by decide), ?_⟩
  refine List.forall_mem_cons.mpr ⟨s_newa C hPr ⟨by decide, rfl⟩ (by decide) ew150 (by decide +kernel : decode c_X10_init 66 = .ok (.newarray .int, 2)) rfl rfl ⟨by decide, by decide⟩, ?_⟩
  refine List.forall_mem_cons.mpr ⟨s_putRF C (by decide +kernel : decode c_X10_init 68 = .ok (.putfield 32, 3)) rfl rfl em_cl_X10 (by decide) ew708 rfl (by decide) hin rfl (Or.inr ⟨_, rfl⟩) (fty := .array .int) (by decide +kernel), ?_⟩
  refine List.forall_mem_cons.mpr ⟨s_aload_n C (by decide +kernel : decode c_X10_init 71 = .ok (.aload_n 0, 1)) rfl rfl rfl, ?_⟩
  refine List.forall_mem_cons.mpr ⟨s_sipush C (by decide +kernel : decode c_X10_init 72 = .ok (.sipush 201, 3)) rfl rfl (by decide), ?_⟩
  refine List.forall_mem_cons.mpr ⟨s_newa C hPr ⟨by decide, rfl⟩ (by decide) ew58 (by decide +kernel : decode c_X10_init 75 = .ok (.newarray .long, 2)) rfl rfl ⟨by decide, by decide⟩, ?_⟩
  refine List.forall_mem_cons.mpr ⟨s_putRF C (by decide +kernel : decode c_X10_init 77 = .ok (.putfield 35, 3)) rfl rfl em_cl_X10 (by decide) ew709 rfl (by decide) hin rfl (Or.inr ⟨_, rfl⟩) (fty := .array .long) (by decide +kernel), ?_⟩
  refine List.forall_mem_cons.mpr ⟨s_aload_n C (by decide +kernel : decode c_X10_init 80 = .ok (.aload_n 0, 1)) rfl rfl rfl, ?_⟩
  refine List.forall_mem_cons.mpr ⟨s_bipush C (by decide +kernel : decode c_X10_init 81 = .ok (.bipush 6, 2)) rfl rfl (by decide), ?_⟩
  refine List.forall_mem_cons.mpr ⟨s_newa C hPr ⟨by decide, rfl⟩ (by decide) ew150 (by decide +kernel : decode c_X10_init 83 = .ok (.newarray .int, 2)) rfl rfl ⟨by decide, by decide⟩, ?_⟩
  refine List.forall_mem_cons.mpr ⟨s_putRF C (by decide +kernel : decode c_X10_init 85 = .ok (.putfield 39, 3)) rfl rfl em_cl_X10 (by decide) ew710 rfl (by decide) hin rfl (Or.inr ⟨_, rfl⟩) (fty := .array .int) (by decide +kernel), ?_⟩
  refine List.forall_mem_cons.mpr ⟨s_aload_n C (by decide +kernel : decode c_X10_init 88 = .ok (.aload_n 0, 1)) rfl rfl rfl, ?_⟩
  refine List.forall_mem_cons.mpr ⟨s_bipush C (by decide +kernel : decode c_X10_init 89 = .ok (.bipush 6, 2)) rfl rfl (by decide), ?_⟩
  refine List.forall_mem_cons.mpr ⟨s_newa C hPr ⟨by decide, rfl⟩ (by decide) ew150 (by decide +kernel : decode c_X10_init 91 = .ok (.newarray .int, 2)) rfl rfl ⟨by decide, by decide⟩, ?_⟩
  refine List.forall_mem_cons.mpr ⟨s_putRF C (by decide +kernel : decode c_X10_init 93 = .ok (.putfield 42, 3)) rfl rfl em_cl_X10 (by decide) ew711 rfl (by decide) hin rfl (Or.inr ⟨_, rfl⟩) (fty := .array .int) (by decide +kernel), ?_⟩
  refine List.forall_mem_cons.mpr ⟨s_aload_n C (by decide +kernel : decode c_X10_init 96 = .ok (.aload_n 0, 1)) rfl rfl rfl, ?_⟩
  refine List.forall_mem_cons.mpr ⟨s_bipush C (by decide +kernel : decode c_X10_init 97 = .ok (.bipush 6, 2)) rfl rfl (by decide), ?_⟩
  refine List.forall_mem_cons.mpr ⟨s_newa C hPr ⟨by decide, rfl⟩ (by decide) ew150 (by decide +kernel : decode c_X10_init 99 = .ok (.newarray .int, 2)) rfl rfl ⟨by decide, by decide⟩, ?_⟩
  refine List.forall_mem_cons.mpr ⟨s_putRF C (by decide +kernel : decode c_X10_init 101 = .ok (.putfield 45, 3)) rfl rfl em_cl_X10 (by decide) ew712 rfl (by decide) hin rfl (Or.inr ⟨_, rfl⟩) (fty := .array .int) (by decide +kernel), ?_⟩
  refine List.forall_mem_cons.mpr ⟨s_aload_n C (by decide +kernel : decode c_X10_init 104 = .ok (.aload_n 0, 1)) rfl rfl rfl, ?_⟩
  refine List.forall_mem_cons.mpr ⟨s_iconst C (by decide +kernel : decode c_X10_init 105 = .ok (.iconst 4, 1)) rfl rfl (by decide), ?_⟩
  refine List.forall_mem_cons.mpr ⟨s_newa C hPr ⟨by decide, rfl⟩ (by decide) ew150 (by decide +kernel : decode c_X10_init 106 = .ok (.newarray .int, 2)) rfl rfl ⟨by decide, by decide⟩, ?_⟩
  refine List.forall_mem_cons.mpr ⟨s_putRF C (by decide +kernel : decode c_X10_init 108 = .ok (.putfield 48, 3)) rfl rfl em_cl_X10 (by decide) ew713 rfl (by decide) hin rfl (Or.inr ⟨_, rfl⟩) (fty := .array .int) (by decide +kernel), ?_⟩
  refine List.forall_mem_cons.mpr ⟨s_aload_n C (by decide +kernel : decode c_X10_init 111 = .ok (.aload_n 0, 1)) rfl rfl rfl, ?_⟩
  refine List.forall_mem_cons.mpr ⟨s_iconst C (by decide +kernel : decode c_X10_init 112 = .ok (.iconst 4, 1)) rfl rfl (by decide), ?_⟩
  refine List.forall_mem_cons.mpr ⟨s_newa C hPr ⟨by decide, rfl⟩ (by decide) ew150 (by decide +kernel : decode c_X10_init 113 = .ok (.newarray .int, 2)) rfl rfl ⟨by decide, by decide⟩, ?_⟩
  refine List.forall_mem_cons.mpr ⟨s_putRF C (by decide +kernel : decode c_X10_init 115 = .ok (.putfield 51, 3)) rfl rfl em_cl_X10 (by decide) ew714 rfl (by decide) hin rfl (Or.inr ⟨_, rfl⟩) (fty := .array .int) (by decide +kernel), ?_⟩
  refine List.forall_mem_cons.mpr ⟨s_aload_n C (by decide +kernel : decode c_X10_init 118 = .ok (.aload_n 0, 1)) rfl rfl rfl, ?_⟩
  refine List.forall_mem_cons.mpr ⟨s_lconst C (by decide +kernel : decode c_X10_init 119 = .ok (.lconst 1, 1)) rfl rfl (by decide), ?_⟩
  refine List.forall_mem_cons.mpr ⟨s_putL C (by decide +kernel : decode c_X10_init 120 = .ok (.putfield 54, 3)) rfl rfl em_cl_X10 (by decide) ew698 rfl (by decide) (by decide +kernel), ?_⟩
  refine List.forall_mem_cons.mpr ⟨s_aload_n C (by decide +kernel : decode c_X10_init 123 = .ok (.aload_n 0, 1)) rfl rfl rfl, ?_⟩
  refine List.forall_mem_cons.mpr ⟨s_callV C hFok hF (ct_X10_empties l D dA σ) ⟨rfl, rfl⟩ ew690 em_cl_X10 ew687 ew689 ewp12 ew6 ⟨by decide, by decide, by decide +kernel⟩ ⟨by decide, by decide⟩ (by decide +kernel : decode c_X10_init 124 = .ok (.invokevirtual 58, 3)) rfl rfl ⟨by decide, by decide⟩, ?_⟩
  refine List.forall_mem_cons.mpr ⟨s_vret C (by decide +kernel : decode c_X10_init 127 = .ok (.return_, 1)) hret hlk ⟨by decide, by decide⟩, ?_⟩
  exact fun _ h => absurd h List.not_mem_nil
