/-! ===== the constructors ===== -/
def z0 : Nat → Int32 := fun _ => 0
def zL : Nat → Int64 := fun _ => 0
def n17 : List Value := [.int 0, .null, .long 0, .long 0, .int 0, .int 0, .int 0, .int 0, .null, .null, .int 0, .int 0, .null, .null, .int 0, .null, .null]
def sp_X8_init : em_Sp := fun av hp Q => av = [.ref 0] ∧ hp = [.inr (3, [.null, .int 0, .int 0, .int 0])] ∧ Q none (wY z0 0 0 0)
def T_X8_init : List (Nat × em_Op) := [(0, o_aload 0 1), (1, o_oinit 4), (4, o_aload 0 5), (5, o_iconst 150 8), (8, o_newa 1 2 150 10), (10, o_putR 3 0 13), (13, o_vret)]
theorem me_X8_init : em_Me T_X8_init 1 sp_X8_init := by
  intro Q K hK hle av hp hs
  obtain ⟨rfl, rfl, hq⟩ := hs
  refine ⟨Nat.le_of_ble_eq_true rfl, hK 0 9999 0 _ _ _ ?_⟩
  exact ⟨rfl, _, rfl, by decide, rfl, (by repeat (first | exact trivial | refine ⟨rfl, ?_⟩ | refine ⟨trivial, ?_⟩ | refine ⟨(fun i q h => by cases h), ?_⟩)), hq⟩
abbrev rm_X8_init : Room := { frames := 1, cells := 1, slots := 150, locals := 20 }
set_option maxRecDepth 100000 in
set_option maxHeartbeats 4000000 in
theorem ct_X8_init (l : Launch) (D : va_G) (dA : Nat → ClassId) (σ : Nat → Nat) : em_CA l D em_cl dA σ (em_F σ) 1 y_X8_init c_X8_init 1 (Option.none : Option ClassFile.FieldType) rm_X8_init sp_X8_init 1 150 := by
  refine em_CA_of (T := T_X8_init) (cnt := em_cn [(10, 1, 150)] (0, 0)) rfl (em_F_ok σ) (by decide) (fun p e s m args below meth c A ρ Q C hFok hF hret hlk hin => ?_) me_X8_init
  have hPr : ∀ ρ1 ρ2 : Nat → Nat, (∀ k, k < 1 → ρ1 k = ρ k) → (∀ k, k < 1 → ρ2 k = ρ1 k) → ∀ k, k < 1 → ρ2 k = ρ k := fun ρ1 ρ2 h1 h2 k hk => (h2 k hk).trans (h1 k hk)
  unfold T_X8_init
  refine List.forall_mem_cons.mpr ⟨s_aload_n C (by decide +kernel : decode c_X8_init 0 = .ok (.aload_n 0, 1)) rfl rfl rfl, ?_⟩
  refine List.forall_mem_cons.mpr ⟨s_oinit C ew32 ew25 ew26 ⟨by decide, by decide⟩ (by decide +kernel : decode c_X8_init 1 = .ok (.invokespecial 3, 3)) rfl rfl, ?_⟩
  refine List.forall_mem_cons.mpr ⟨s_aload_n C (by decide +kernel : decode c_X8_init 4 = .ok (.aload_n 0, 1)) rfl rfl rfl, ?_⟩
  refine List.forall_mem_cons.mpr ⟨s_sipush C (by decide +kernel : decode c_X8_init 5 = .ok (.sipush 150, 3)) rfl rfl (by decide), ?_⟩
  refine List.forall_mem_cons.mpr ⟨s_newa C hPr ⟨by decide, rfl⟩ (by decide) ew47 (by decide +kernel : decode c_X8_init 8 = .ok (.newarray .byte, 2)) rfl rfl ⟨by decide, by decide⟩, ?_⟩
  refine List.forall_mem_cons.mpr ⟨s_putRF C (by decide +kernel : decode c_X8_init 10 = .ok (.putfield 11, 3)) rfl rfl em_cl_X8 (by decide) ew33 rfl (by decide) hin rfl (Or.inr ⟨_, rfl⟩) (fty := .array .byte) (by decide +kernel), ?_⟩
  refine List.forall_mem_cons.mpr ⟨s_vret C (by decide +kernel : decode c_X8_init 13 = .ok (.return_, 1)) hret hlk ⟨by decide, by decide⟩, ?_⟩
  exact fun _ h => absurd h List.not_mem_nil
def sp_X0_init : em_Sp := fun av hp Q => av = [.ref 0] ∧ hp = [.inr (0, [.null])] ∧ Q none (wC2 zL)
def T_X0_init : List (Nat × em_Op) := [(0, o_aload 0 1), (1, o_oinit 4), (4, o_aload 0 5), (5, o_iconst 201 8), (8, o_newa 1 1 201 10), (10, o_putR 0 0 13), (13, o_vret)]
theorem me_X0_init : em_Me T_X0_init 1 sp_X0_init := by
  intro Q K hK hle av hp hs
  obtain ⟨rfl, rfl, hq⟩ := hs
  refine ⟨Nat.le_of_ble_eq_true rfl, hK 0 9999 0 _ _ _ ?_⟩
  exact ⟨rfl, _, rfl, by decide, rfl, (by repeat (first | exact trivial | refine ⟨rfl, ?_⟩ | refine ⟨trivial, ?_⟩ | refine ⟨(fun i q h => by cases h), ?_⟩)), hq⟩
abbrev rm_X0_init : Room := { frames := 1, cells := 1, slots := 201, locals := 20 }
set_option maxRecDepth 100000 in
set_option maxHeartbeats 4000000 in
theorem ct_X0_init (l : Launch) (D : va_G) (dA : Nat → ClassId) (σ : Nat → Nat) : em_CA l D em_cl dA σ (em_F σ) 1 y_X0_init c_X0_init 1 (Option.none : Option ClassFile.FieldType) rm_X0_init sp_X0_init 1 201 := by
  refine em_CA_of (T := T_X0_init) (cnt := em_cn [(10, 1, 201)] (0, 0)) rfl (em_F_ok σ) (by decide) (fun p e s m args below meth c A ρ Q C hFok hF hret hlk hin => ?_) me_X0_init
  have hPr : ∀ ρ1 ρ2 : Nat → Nat, (∀ k, k < 1 → ρ1 k = ρ k) → (∀ k, k < 1 → ρ2 k = ρ1 k) → ∀ k, k < 1 → ρ2 k = ρ k := fun ρ1 ρ2 h1 h2 k hk => (h2 k hk).trans (h1 k hk)
  unfold T_X0_init
  refine List.forall_mem_cons.mpr ⟨s_aload_n C (by decide +kernel : decode c_X0_init 0 = .ok (.aload_n 0, 1)) rfl rfl rfl, ?_⟩
  refine List.forall_mem_cons.mpr ⟨s_oinit C ew53 ew25 ew26 ⟨by decide, by decide⟩ (by decide +kernel : decode c_X0_init 1 = .ok (.invokespecial 3, 3)) rfl rfl, ?_⟩
  refine List.forall_mem_cons.mpr ⟨s_aload_n C (by decide +kernel : decode c_X0_init 4 = .ok (.aload_n 0, 1)) rfl rfl rfl, ?_⟩
  refine List.forall_mem_cons.mpr ⟨s_sipush C (by decide +kernel : decode c_X0_init 5 = .ok (.sipush 201, 3)) rfl rfl (by decide), ?_⟩
  refine List.forall_mem_cons.mpr ⟨s_newa C hPr ⟨by decide, rfl⟩ (by decide) ew58 (by decide +kernel : decode c_X0_init 8 = .ok (.newarray .long, 2)) rfl rfl ⟨by decide, by decide⟩, ?_⟩
  refine List.forall_mem_cons.mpr ⟨s_putRF C (by decide +kernel : decode c_X0_init 10 = .ok (.putfield 9, 3)) rfl rfl em_cl_X0 (by decide) ew54 rfl (by decide) hin rfl (Or.inr ⟨_, rfl⟩) (fty := .array .long) (by decide +kernel), ?_⟩
  refine List.forall_mem_cons.mpr ⟨s_vret C (by decide +kernel : decode c_X0_init 13 = .ok (.return_, 1)) hret hlk ⟨by decide, by decide⟩, ?_⟩
  exact fun _ h => absurd h List.not_mem_nil
def sp_X2_init : em_Sp := fun av hp Q => av = [.ref 0] ∧ hp = [.inr (1, [.int 0, .int 0])] ∧ Q none [.inr (1, [.int 0, .int 1])]
def T_X2_init : List (Nat × em_Op) := [(0, o_aload 0 1), (1, o_oinit 4), (4, o_aload 0 5), (5, o_iconst 0 6), (6, o_putI 1 0 9), (9, o_aload 0 10), (10, o_iconst 1 11), (11, o_putI 1 1 14), (14, o_vret)]
theorem me_X2_init : em_Me T_X2_init 1 sp_X2_init := by
  intro Q K hK hle av hp hs
  obtain ⟨rfl, rfl, hq⟩ := hs
  exact ⟨Nat.le_of_ble_eq_true rfl, hK 0 9999 0 _ _ _ hq⟩
abbrev rm_X2_init : Room := { frames := 1, cells := 0, slots := 0, locals := 20 }
set_option maxRecDepth 100000 in
set_option maxHeartbeats 4000000 in
theorem ct_X2_init (l : Launch) (D : va_G) (dA : Nat → ClassId) (σ : Nat → Nat) : em_CA l D em_cl dA σ (em_F σ) 1 y_X2_init c_X2_init 1 (Option.none : Option ClassFile.FieldType) rm_X2_init sp_X2_init 0 0 := by
  refine em_CA_of (T := T_X2_init) (cnt := em_cn [] (0, 0)) rfl (em_F_ok σ) (by decide) (fun p e s m args below meth c A ρ Q C hFok hF hret hlk hin => ?_) me_X2_init
  have hPr : ∀ ρ1 ρ2 : Nat → Nat, (∀ k, k < 1 → ρ1 k = ρ k) → (∀ k, k < 1 → ρ2 k = ρ1 k) → ∀ k, k < 1 → ρ2 k = ρ k := fun ρ1 ρ2 h1 h2 k hk => (h2 k hk).trans (h1 k hk)
  unfold T_X2_init
  refine List.forall_mem_cons.mpr ⟨s_aload_n C (by decide +kernel : decode c_X2_init 0 = .ok (.aload_n 0, 1)) rfl rfl rfl, ?_⟩
  refine List.forall_mem_cons.mpr ⟨s_oinit C ew64 ew25 ew26 ⟨by decide, by decide⟩ (by decide +kernel : decode c_X2_init 1 = .ok (.invokespecial 1, 3)) rfl rfl, ?_⟩
  refine List.forall_mem_cons.mpr ⟨s_aload_n C (by decide +kernel : decode c_X2_init 4 = .ok (.aload_n 0, 1)) rfl rfl rfl, ?_⟩
  refine List.forall_mem_cons.mpr ⟨s_iconst C (by decide +kernel : decode c_X2_init 5 = .ok (.iconst 0, 1)) rfl rfl (by decide), ?_⟩
  refine List.forall_mem_cons.mpr ⟨s_putI C (by decide +kernel : decode c_X2_init 6 = .ok (.putfield 7, 3)) rfl rfl em_cl_X2 (by decide) ew65 rfl (by decide) (by decide +kernel), ?_⟩
  refine List.forall_mem_cons.mpr ⟨s_aload_n C (by decide +kernel : decode c_X2_init 9 = .ok (.aload_n 0, 1)) rfl rfl rfl, ?_⟩
  refine List.forall_mem_cons.mpr ⟨s_iconst C (by decide +kernel : decode c_X2_init 10 = .ok (.iconst 1, 1)) rfl rfl (by decide), ?_⟩
  refine List.forall_mem_cons.mpr ⟨s_putI C (by decide +kernel : decode c_X2_init 11 = .ok (.putfield 13, 3)) rfl rfl em_cl_X2 (by decide) ew67 rfl (by decide) (by decide +kernel), ?_⟩
  refine List.forall_mem_cons.mpr ⟨s_vret C (by decide +kernel : decode c_X2_init 14 = .ok (.return_, 1)) hret hlk ⟨by decide, by decide⟩, ?_⟩
  exact fun _ h => absurd h List.not_mem_nil
def sp_X7_init : em_Sp := fun av hp Q => av = [.ref 0] ∧ hp = [.inr (2, n17)] ∧ Q none (wT 0 z0 0 0 0 2 4 0 z0 z0 0 0 zL z0 0 z0 z0)
def T_X7_init : List (Nat × em_Op) := [(0, o_aload 0 1), (1, o_oinit 4), (4, o_aload 0 5), (5, o_iconst 6 7), (7, o_newa 1 0 6 9), (9, o_putR 2 1 12), (12, o_aload 0 13), (13, o_iconst 8 15), (15, o_newa 1 0 8 17), (17, o_putR 2 8 20), (20, o_aload 0 21), (21, o_iconst 8 23), (23, o_newa 1 0 8 25), (25, o_putR 2 9 28), (28, o_aload 0 29), (29, o_iconst 12 31), (31, o_newa 1 1 12 33), (33, o_putR 2 12 36), (36, o_aload 0 37), (37, o_iconst 12 39), (39, o_newa 1 0 12 41), (41, o_putR 2 13 44), (44, o_aload 0 45), (45, o_iconst 10 47), (47, o_newa 1 0 10 49), (49, o_putR 2 15 52), (52, o_aload 0 53), (53, o_iconst 10 55), (55, o_newa 1 3 10 57), (57, o_putR 2 16 60), (60, o_aload 0 61), (61, o_call 1 (some 2) (sp_X7_begin) 64), (64, o_vret)]
theorem me_X7_init : em_Me T_X7_init 1 sp_X7_init := by
  intro Q K hK hle av hp hs
  obtain ⟨rfl, rfl, hq⟩ := hs
  refine ⟨Nat.le_of_ble_eq_true rfl, hK 0 9999 0 _ _ _ ?_⟩
  refine ⟨rfl, _, rfl, by decide, rfl, (by repeat (first | exact trivial | refine ⟨rfl, ?_⟩ | refine ⟨trivial, ?_⟩ | refine ⟨(fun i q h => by cases h), ?_⟩)), ?_⟩
  refine ⟨rfl, _, rfl, by decide, rfl, (by repeat (first | exact trivial | refine ⟨rfl, ?_⟩ | refine ⟨trivial, ?_⟩ | refine ⟨(fun i q h => by cases h), ?_⟩)), ?_⟩
  refine ⟨rfl, _, rfl, by decide, rfl, (by repeat (first | exact trivial | refine ⟨rfl, ?_⟩ | refine ⟨trivial, ?_⟩ | refine ⟨(fun i q h => by cases h), ?_⟩)), ?_⟩
  refine ⟨rfl, _, rfl, by decide, rfl, (by repeat (first | exact trivial | refine ⟨rfl, ?_⟩ | refine ⟨trivial, ?_⟩ | refine ⟨(fun i q h => by cases h), ?_⟩)), ?_⟩
  refine ⟨rfl, _, rfl, by decide, rfl, (by repeat (first | exact trivial | refine ⟨rfl, ?_⟩ | refine ⟨trivial, ?_⟩ | refine ⟨(fun i q h => by cases h), ?_⟩)), ?_⟩
  refine ⟨rfl, _, rfl, by decide, rfl, (by repeat (first | exact trivial | refine ⟨rfl, ?_⟩ | refine ⟨trivial, ?_⟩ | refine ⟨(fun i q h => by cases h), ?_⟩)), ?_⟩
  refine ⟨rfl, _, rfl, by decide, rfl, (by repeat (first | exact trivial | refine ⟨rfl, ?_⟩ | refine ⟨trivial, ?_⟩ | refine ⟨(fun i q h => by cases h), ?_⟩)), ?_⟩
  exact ⟨_, _, _, _, _, _, _, _, _, _, _, _, _, _, _, _, _, rfl, rfl, hq⟩
abbrev rm_X7_init : Room := { frames := 1, cells := 7, slots := 66, locals := 20 }
set_option maxRecDepth 100000 in
set_option maxHeartbeats 4000000 in
theorem ct_X7_init (l : Launch) (D : va_G) (dA : Nat → ClassId) (σ : Nat → Nat) : em_CA l D em_cl dA σ (em_F σ) 1 y_X7_init c_X7_init 1 (Option.none : Option ClassFile.FieldType) rm_X7_init sp_X7_init 7 66 := by
  refine em_CA_of (T := T_X7_init) (cnt := em_cn [(9, 1, 6), (17, 2, 14), (25, 3, 22), (33, 4, 34), (41, 5, 46), (49, 6, 56), (57, 7, 66)] (0, 0)) rfl (em_F_ok σ) (by decide) (fun p e s m args below meth c A ρ Q C hFok hF hret hlk hin => ?_) me_X7_init
  have hPr : ∀ ρ1 ρ2 : Nat → Nat, (∀ k, k < 1 → ρ1 k = ρ k) → (∀ k, k < 1 → ρ2 k = ρ1 k) → ∀ k, k < 1 → ρ2 k = ρ k := fun ρ1 ρ2 h1 h2 k hk => (h2 k hk).trans (h1 k hk)
  unfold T_X7_init
  refine List.forall_mem_cons.mpr ⟨s_aload_n C (by decide +kernel : decode c_X7_init 0 = .ok (.aload_n 0, 1)) rfl rfl rfl, ?_⟩
  refine List.forall_mem_cons.mpr ⟨s_oinit C ew80 ew25 ew26 ⟨by decide, by decide⟩ (by decide +kernel : decode c_X7_init 1 = .ok (.invokespecial 3, 3)) rfl rfl, ?_⟩
  refine List.forall_mem_cons.mpr ⟨s_aload_n C (by decide +kernel : decode c_X7_init 4 = .ok (.aload_n 0, 1)) rfl rfl rfl, ?_⟩
  refine List.forall_mem_cons.mpr ⟨s_bipush C (by decide +kernel : decode c_X7_init 5 = .ok (.bipush 6, 2)) rfl rfl (by decide), ?_⟩
  refine List.forall_mem_cons.mpr ⟨s_newa C hPr ⟨by decide, rfl⟩ (by decide) ew150 (by decide +kernel : decode c_X7_init 7 = .ok (.newarray .int, 2)) rfl rfl ⟨by decide, by decide⟩, ?_⟩
  refine List.forall_mem_cons.mpr ⟨s_putRF C (by decide +kernel : decode c_X7_init 9 = .ok (.putfield 9, 3)) rfl rfl em_cl_X7 (by decide) ew89 rfl (by decide) hin rfl (Or.inr ⟨_, rfl⟩) (fty := .array .int) (by decide +kernel), ?_⟩
  refine List.forall_mem_cons.mpr ⟨s_aload_n C (by decide +kernel : decode c_X7_init 12 = .ok (.aload_n 0, 1)) rfl rfl rfl, ?_⟩
  refine List.forall_mem_cons.mpr ⟨s_bipush C (by decide +kernel : decode c_X7_init 13 = .ok (.bipush 8, 2)) rfl rfl (by decide), ?_⟩
  refine List.forall_mem_cons.mpr ⟨s_newa C hPr ⟨by decide, rfl⟩ (by decide) ew150 (by decide +kernel : decode c_X7_init 15 = .ok (.newarray .int, 2)) rfl rfl ⟨by decide, by decide⟩, ?_⟩
  refine List.forall_mem_cons.mpr ⟨s_putRF C (by decide +kernel : decode c_X7_init 17 = .ok (.putfield 15, 3)) rfl rfl em_cl_X7 (by decide) ew102 rfl (by decide) hin rfl (Or.inr ⟨_, rfl⟩) (fty := .array .int) (by decide +kernel), ?_⟩
  refine List.forall_mem_cons.mpr ⟨s_aload_n C (by decide +kernel : decode c_X7_init 20 = .ok (.aload_n 0, 1)) rfl rfl rfl, ?_⟩
  refine List.forall_mem_cons.mpr ⟨s_bipush C (by decide +kernel : decode c_X7_init 21 = .ok (.bipush 8, 2)) rfl rfl (by decide), ?_⟩
  refine List.forall_mem_cons.mpr ⟨s_newa C hPr ⟨by decide, rfl⟩ (by decide) ew150 (by decide +kernel : decode c_X7_init 23 = .ok (.newarray .int, 2)) rfl rfl ⟨by decide, by decide⟩, ?_⟩
  refine List.forall_mem_cons.mpr ⟨s_putRF C (by decide +kernel : decode c_X7_init 25 = .ok (.putfield 18, 3)) rfl rfl em_cl_X7 (by decide) ew103 rfl (by decide) hin rfl (Or.inr ⟨_, rfl⟩) (fty := .array .int) (by decide +kernel), ?_⟩
  refine List.forall_mem_cons.mpr ⟨s_aload_n C (by decide +kernel : decode c_X7_init 28 = .ok (.aload_n 0, 1)) rfl rfl rfl, ?_⟩
  refine List.forall_mem_cons.mpr ⟨s_bipush C (by decide +kernel : decode c_X7_init 29 = .ok (.bipush 12, 2)) rfl rfl (by decide), ?_⟩
  refine List.forall_mem_cons.mpr ⟨s_newa C hPr ⟨by decide, rfl⟩ (by decide) ew58 (by decide +kernel : decode c_X7_init 31 = .ok (.newarray .long, 2)) rfl rfl ⟨by decide, by decide⟩, ?_⟩
  refine List.forall_mem_cons.mpr ⟨s_putRF C (by decide +kernel : decode c_X7_init 33 = .ok (.putfield 21, 3)) rfl rfl em_cl_X7 (by decide) ew109 rfl (by decide) hin rfl (Or.inr ⟨_, rfl⟩) (fty := .array .long) (by decide +kernel), ?_⟩
  refine List.forall_mem_cons.mpr ⟨s_aload_n C (by decide +kernel : decode c_X7_init 36 = .ok (.aload_n 0, 1)) rfl rfl rfl, ?_⟩
  refine List.forall_mem_cons.mpr ⟨s_bipush C (by decide +kernel : decode c_X7_init 37 = .ok (.bipush 12, 2)) rfl rfl (by decide), ?_⟩
  refine List.forall_mem_cons.mpr ⟨s_newa C hPr ⟨by decide, rfl⟩ (by decide) ew150 (by decide +kernel : decode c_X7_init 39 = .ok (.newarray .int, 2)) rfl rfl ⟨by decide, by decide⟩, ?_⟩
  refine List.forall_mem_cons.mpr ⟨s_putRF C (by decide +kernel : decode c_X7_init 41 = .ok (.putfield 25, 3)) rfl rfl em_cl_X7 (by decide) ew110 rfl (by decide) hin rfl (Or.inr ⟨_, rfl⟩) (fty := .array .int) (by decide +kernel), ?_⟩
  refine List.forall_mem_cons.mpr ⟨s_aload_n C (by decide +kernel : decode c_X7_init 44 = .ok (.aload_n 0, 1)) rfl rfl rfl, ?_⟩
  refine List.forall_mem_cons.mpr ⟨s_bipush C (by decide +kernel : decode c_X7_init 45 = .ok (.bipush 10, 2)) rfl rfl (by decide), ?_⟩
  refine List.forall_mem_cons.mpr ⟨s_newa C hPr ⟨by decide, rfl⟩ (by decide) ew150 (by decide +kernel : decode c_X7_init 47 = .ok (.newarray .int, 2)) rfl rfl ⟨by decide, by decide⟩, ?_⟩
  refine List.forall_mem_cons.mpr ⟨s_putRF C (by decide +kernel : decode c_X7_init 49 = .ok (.putfield 28, 3)) rfl rfl em_cl_X7 (by decide) ew113 rfl (by decide) hin rfl (Or.inr ⟨_, rfl⟩) (fty := .array .int) (by decide +kernel), ?_⟩
  refine List.forall_mem_cons.mpr ⟨s_aload_n C (by decide +kernel : decode c_X7_init 52 = .ok (.aload_n 0, 1)) rfl rfl rfl, ?_⟩
  refine List.forall_mem_cons.mpr ⟨s_bipush C (by decide +kernel : decode c_X7_init 53 = .ok (.bipush 10, 2)) rfl rfl (by decide), ?_⟩
  refine List.forall_mem_cons.mpr ⟨s_newa C hPr ⟨by decide, rfl⟩ (by decide) ew151 (by decide +kernel : decode c_X7_init 55 = .ok (.newarray .boolean, 2)) rfl rfl ⟨by decide, by decide⟩, ?_⟩
  refine List.forall_mem_cons.mpr ⟨s_putRF C (by decide +kernel : decode c_X7_init 57 = .ok (.putfield 31, 3)) rfl rfl em_cl_X7 (by decide) ew114 rfl (by decide) hin rfl (Or.inr ⟨_, rfl⟩) (fty := .array .boolean) (by decide +kernel), ?_⟩
  refine List.forall_mem_cons.mpr ⟨s_aload_n C (by decide +kernel : decode c_X7_init 60 = .ok (.aload_n 0, 1)) rfl rfl rfl, ?_⟩
  refine List.forall_mem_cons.mpr ⟨s_callV C hFok hF (ct_X7_begin l D dA σ) ⟨rfl, rfl⟩ ew84 em_cl_X7 ew81 ew82 ew83 ew5 ⟨by decide, by decide, by decide +kernel⟩ ⟨by decide, by decide⟩ (by decide +kernel : decode c_X7_init 61 = .ok (.invokevirtual 35, 3)) rfl rfl ⟨by decide, by decide⟩, ?_⟩
  refine List.forall_mem_cons.mpr ⟨s_vret C (by decide +kernel : decode c_X7_init 64 = .ok (.return_, 1)) hret hlk ⟨by decide, by decide⟩, ?_⟩
  exact fun _ h => absurd h List.not_mem_nil
