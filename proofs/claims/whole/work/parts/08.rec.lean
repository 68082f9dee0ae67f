/-! ===== Marriages ===== -/
def mxI (x y : Int32) : Int32 := if x < y then y else x
def bitL (a b : Int32) : Int64 := 1 <<< ((6 * a + b).toInt64 &&& 63)
def sp_X4_bit : em_Sp := fun av hp Q => ∃ a b, av = [.int a, .int b] ∧ Q (some (.long (bitL a b))) hp
def T_X4_bit : List (Nat × em_Op) := [(0, o_lconst 1 1), (1, o_iconst 6 3), (3, o_iload 0 4), (4, o_imul 5), (5, o_iload 1 6), (6, o_iadd 7), (7, o_lshl 8), (8, o_lret)]
theorem me_X4_bit : em_Me T_X4_bit 2 sp_X4_bit := by
  intro Q K hK hle av hp hs
  obtain ⟨a, b, rfl, hq⟩ := hs
  exact ⟨Nat.le_of_ble_eq_true rfl, hK 0 99 0 _ _ _ hq⟩
abbrev rm_X4_bit : Room := { frames := 0, cells := 0, slots := 0, locals := 0 }
set_option maxRecDepth 100000 in
set_option maxHeartbeats 4000000 in
theorem ct_X4_bit (l : Launch) (D : va_G) (dA : Nat → ClassId) (σ : Nat → Nat) : em_CT l D em_cl dA σ (em_F σ) y_X4_bit c_X4_bit 2 (Option.some ClassFile.FieldType.long) rm_X4_bit (sp_X4_bit ) := by
  refine em_CT_of (T := T_X4_bit ) (em_F_ok σ) (by decide) (fun p e s m args below meth c A ρ Q C hFok hF hret hlk hin => ?_) (me_X4_bit )
  unfold T_X4_bit
  refine List.forall_mem_cons.mpr ⟨s_lconst C (by decide +kernel : decode c_X4_bit 0 = .ok (.lconst 1, 1)) rfl rfl (by decide), ?_⟩
  refine List.forall_mem_cons.mpr ⟨s_bipush C (by decide +kernel : decode c_X4_bit 1 = .ok (.bipush 6, 2)) rfl rfl (by decide), ?_⟩
  refine List.forall_mem_cons.mpr ⟨s_iload_n C (by decide +kernel : decode c_X4_bit 3 = .ok (.iload_n 0, 1)) rfl rfl rfl, ?_⟩
  refine List.forall_mem_cons.mpr ⟨s_imul C (by decide +kernel : decode c_X4_bit 4 = .ok (.imul, 1)) rfl rfl, ?_⟩
  refine List.forall_mem_cons.mpr ⟨s_iload_n C (by decide +kernel : decode c_X4_bit 5 = .ok (.iload_n 1, 1)) rfl rfl rfl, ?_⟩
  refine List.forall_mem_cons.mpr ⟨s_iadd C (by decide +kernel : decode c_X4_bit 6 = .ok (.iadd, 1)) rfl rfl, ?_⟩
  refine List.forall_mem_cons.mpr ⟨s_lshl C (by decide +kernel : decode c_X4_bit 7 = .ok (.lshl, 1)) rfl rfl, ?_⟩
  refine List.forall_mem_cons.mpr ⟨s_lret C (by decide +kernel : decode c_X4_bit 8 = .ok (.lreturn, 1)) hret hlk ⟨Nat.le_refl 0, Nat.le_refl 0⟩, ?_⟩
  exact fun _ h => absurd h List.not_mem_nil
def fre (pr : Int64) (tk p o : Int32) : Prop := ¬ lg_cmp (pr &&& bitL p o) 0 = 0 ∧ (tk >>> (o &&& 31)) &&& 1 = 0
def sp_X4_isFree : em_Sp := fun av hp Q => ∃ pr tk p o, av = [.long pr, .int tk, .int p, .int o] ∧ (fre pr tk p o → Q (some (.int 1)) hp) ∧ (¬ fre pr tk p o → Q (some (.int 0)) hp)
def T_X4_isFree : List (Nat × em_Op) := [(0, o_lload 0 1), (1, o_iload 3 2), (2, o_iload 4 4), (4, o_call 2 none (sp_X4_bit) 7), (7, o_land 8), (8, o_lconst 0 9), (9, o_lcmp 10), (10, o_ifeq 26 13), (13, o_iload 2 14), (14, o_iload 4 16), (16, o_ishr 17), (17, o_iconst 1 18), (18, o_iand 19), (19, o_ifne 26 22), (22, o_iconst 1 23), (23, o_goto 27), (26, o_iconst 0 27), (27, o_zret)]
theorem me_X4_isFree : em_Me T_X4_isFree 5 sp_X4_isFree := by
  intro Q K hK hle av hp hs
  obtain ⟨pr, tk, p, o, rfl, h1, h0⟩ := hs
  refine ⟨Nat.le_of_ble_eq_true rfl, hK 0 99 0 _ _ _ ?_⟩
  refine ⟨_, _, rfl, fun z => ⟨Or.inl rfl, h0 (fun y => y.1 z)⟩, fun z => ⟨fun z2 => ⟨Or.inl rfl, h0 (fun y => z2 y.2)⟩, fun z2 => ⟨Or.inr rfl, h1 ⟨z, z2⟩⟩⟩⟩
abbrev rm_X4_isFree : Room := { frames := 1, cells := 0, slots := 0, locals := 21 }
set_option maxRecDepth 100000 in
set_option maxHeartbeats 4000000 in
theorem ct_X4_isFree (l : Launch) (D : va_G) (dA : Nat → ClassId) (σ : Nat → Nat) : em_CT l D em_cl dA σ (em_F σ) y_X4_isFree c_X4_isFree 5 (Option.some ClassFile.FieldType.boolean) rm_X4_isFree (sp_X4_isFree ) := by
  refine em_CT_of (T := T_X4_isFree ) (em_F_ok σ) (by decide) (fun p e s m args below meth c A ρ Q C hFok hF hret hlk hin => ?_) (me_X4_isFree )
  unfold T_X4_isFree
  refine List.forall_mem_cons.mpr ⟨s_lload_n C (by decide +kernel : decode c_X4_isFree 0 = .ok (.lload_n 0, 1)) rfl rfl rfl, ?_⟩
  refine List.forall_mem_cons.mpr ⟨s_iload_n C (by decide +kernel : decode c_X4_isFree 1 = .ok (.iload_n 3, 1)) rfl rfl rfl, ?_⟩
  refine List.forall_mem_cons.mpr ⟨s_iload C (by decide +kernel : decode c_X4_isFree 2 = .ok (.iload 4, 2)) rfl rfl, ?_⟩
  refine List.forall_mem_cons.mpr ⟨s_callS C hFok hF (ct_X4_bit l D dA σ) ⟨rfl, rfl⟩ ew528 ew536 ew527 ew16 ⟨by decide, by decide, by decide +kernel⟩ ⟨by decide, by decide⟩ (by decide +kernel : decode c_X4_isFree 4 = .ok (.invokestatic 28, 3)) rfl rfl ⟨Nat.zero_le _, Nat.zero_le _⟩, ?_⟩
  refine List.forall_mem_cons.mpr ⟨s_land C (by decide +kernel : decode c_X4_isFree 7 = .ok (.land, 1)) rfl rfl, ?_⟩
  refine List.forall_mem_cons.mpr ⟨s_lconst C (by decide +kernel : decode c_X4_isFree 8 = .ok (.lconst 0, 1)) rfl rfl (by decide), ?_⟩
  refine List.forall_mem_cons.mpr ⟨s_lcmp C (by decide +kernel : decode c_X4_isFree 9 = .ok (.lcmp, 1)) rfl rfl, ?_⟩
  refine List.forall_mem_cons.mpr ⟨s_ifeq C (by decide +kernel : decode c_X4_isFree 10 = .ok (.ifCond .eq 16, 3)) (by decide) rfl rfl rfl, ?_⟩
  refine List.forall_mem_cons.mpr ⟨s_iload_n C (by decide +kernel : decode c_X4_isFree 13 = .ok (.iload_n 2, 1)) rfl rfl rfl, ?_⟩
  refine List.forall_mem_cons.mpr ⟨s_iload C (by decide +kernel : decode c_X4_isFree 14 = .ok (.iload 4, 2)) rfl rfl, ?_⟩
  refine List.forall_mem_cons.mpr ⟨s_ishr C (by decide +kernel : decode c_X4_isFree 16 = .ok (.ishr, 1)) rfl rfl, ?_⟩
  refine List.forall_mem_cons.mpr ⟨s_iconst C (by decide +kernel : decode c_X4_isFree 17 = .ok (.iconst 1, 1)) rfl rfl (by decide), ?_⟩
  refine List.forall_mem_cons.mpr ⟨s_iand C (by decide +kernel : decode c_X4_isFree 18 = .ok (.iand, 1)) rfl rfl, ?_⟩
  refine List.forall_mem_cons.mpr ⟨s_ifne C (by decide +kernel : decode c_X4_isFree 19 = .ok (.ifCond .ne 7, 3)) (by decide) rfl rfl rfl, ?_⟩
  refine List.forall_mem_cons.mpr ⟨s_iconst C (by decide +kernel : decode c_X4_isFree 22 = .ok (.iconst 1, 1)) rfl rfl (by decide), ?_⟩
  refine List.forall_mem_cons.mpr ⟨s_goto C (by decide +kernel : decode c_X4_isFree 23 = .ok (.goto 4, 3)) (by decide) rfl, ?_⟩
  refine List.forall_mem_cons.mpr ⟨s_iconst C (by decide +kernel : decode c_X4_isFree 26 = .ok (.iconst 0, 1)) rfl rfl (by decide), ?_⟩
  refine List.forall_mem_cons.mpr ⟨s_zret C (by decide +kernel : decode c_X4_isFree 27 = .ok (.ireturn, 1)) hret hlk ⟨Nat.le_refl 0, Nat.le_refl 0⟩, ?_⟩
  exact fun _ h => absurd h List.not_mem_nil
def freB (pr : Int64) (tk : Int32) (p o : Nat) : Bool := decide (¬ lg_cmp (pr &&& bitL (nI p) (nI o)) 0 = 0 ∧ (tk >>> (nI o &&& 31)) &&& 1 = 0)
theorem freB_t {pr : Int64} {tk : Int32} {p o : Nat} (h : fre pr tk (nI p) (nI o)) : freB pr tk p o = true := decide_eq_true h
theorem freB_f {pr : Int64} {tk : Int32} {p o : Nat} (h : ¬ fre pr tk (nI p) (nI o)) : freB pr tk p o = false := decide_eq_false h
def bor (tk : Int32) (o : Nat) : Int32 := tk ||| ((1 : Int32) <<< (nI o &&& 31))
def mmL (pr : Int64) (tk : Int32) (p : Nat) (f : Int32 → Int32) (b0 : Int32) : Nat → Int32
  | 0 => b0
  | k + 1 => if freB pr tk p (p + 1 + k) = true then mxI (mmL pr tk p f b0 k) (1 + f (bor tk (p + 1 + k))) else mmL pr tk p f b0 k
def mmo (pr : Int64) : Nat → Int32 → Int32
  | 0, _ => 0
  | d + 1, tk => if (tk >>> (nI (5 - d) &&& 31)) &&& 1 = 1 then mmo pr d tk else mmL pr tk (5 - d) (mmo pr d) (mmo pr d tk) d
def sp_X4_most (d : Nat) : em_Sp := fun av hp Q => ∃ pr tk p, av = [.long pr, .int tk, .int (nI p)] ∧ p ≤ 6 ∧ 6 ≤ p + d ∧ Q (some (.int (mmo pr (6 - p) tk))) hp
def sp_X4_mostP : Nat → em_Sp
  | 0 => spF
  | d + 1 => sp_X4_most d
def T_X4_most (sp : em_Sp) : List (Nat × em_Op) := [(0, o_iload 3 1), (1, o_iconst 6 3), (3, o_icmplt 8 6), (6, o_iconst 0 7), (7, o_iret), (8, o_lload 0 9), (9, o_iload 2 10), (10, o_iload 3 11), (11, o_iconst 1 12), (12, o_iadd 13), (13, o_call 3 none (sp) 16), (16, o_istore 4 18), (18, o_iload 2 19), (19, o_iload 3 20), (20, o_ishr 21), (21, o_iconst 1 22), (22, o_iand 23), (23, o_iconst 1 24), (24, o_icmpne 30 27), (27, o_iload 4 29), (29, o_iret), (30, o_iload 3 31), (31, o_iconst 1 32), (32, o_iadd 33), (33, o_istore 5 35), (35, o_iload 5 37), (37, o_iconst 6 39), (39, o_icmpge 81 42), (42, o_lload 0 43), (43, o_iload 2 44), (44, o_iload 3 45), (45, o_iload 5 47), (47, o_call 4 none (sp_X4_isFree) 50), (50, o_ifeq 75 53), (53, o_iload 4 55), (55, o_iconst 1 56), (56, o_lload 0 57), (57, o_iload 2 58), (58, o_iconst 1 59), (59, o_iload 5 61), (61, o_ishl 62), (62, o_ior 63), (63, o_iload 3 64), (64, o_iconst 1 65), (65, o_iadd 66), (66, o_call 3 none (sp) 69), (69, o_iadd 70), (70, o_max 73), (73, o_istore 4 75), (75, o_iinc 5 1 78), (78, o_goto 35), (81, o_iload 4 83), (83, o_iret)]
theorem me_X4_most : ∀ d, em_Me (T_X4_most (sp_X4_mostP d)) 6 (sp_X4_most d) := by
  intro d Q K hK hle av hp hs
  obtain ⟨pr, tk, p, rfl, hp6, hd, hq⟩ := hs
  refine ⟨Nat.le_of_ble_eq_true rfl, ?_⟩
  refine hK 0 25 0 _ _ _ ?_
  refine ⟨fun h => ?_, fun h => ?_⟩
  · have h6 : p < 6 := (nI_ltI (b := 6) (by omega) (by omega)).mp h
    obtain ⟨d, rfl⟩ : ∃ d', d = d' + 1 := ⟨d - 1, by omega⟩
    obtain ⟨k, hk⟩ : ∃ k, p = 5 - k ∧ k ≤ 5 := ⟨5 - p, by omega, by omega⟩
    obtain ⟨hk, hk5⟩ := hk
    have e6 : 6 - p = k + 1 := by omega
    rw [e6, mmo] at hq
    refine ⟨pr, tk, p + 1, by rw [nI_1], by omega, by omega, ?_⟩
    rw [show 6 - (p + 1) = k by omega]
    rw [← hk] at hq
    refine ⟨fun h2 => ?_, fun h2 => ?_⟩
    · rw [if_neg h2] at hq
      have loop : ∀ (r j : Nat), j + r = k → K 35 [some (.long pr), none, some (.int tk), some (.int (nI p)), some (.int (mmL pr tk p (mmo pr k) (mmo pr k tk) j)), some (.int (nI (p + 1 + j)))] [] hp := by
        intro r
        induction r with
        | zero =>
          intro j hj
          have hj : j = k := by omega
          subst hj
          refine hK 25 99 35 _ _ _ ?_
          exact ⟨fun _ => hq, fun z => absurd (nI_le (a := 6) (b := p + 1 + j) (by omega) (by omega)) z⟩
        | succ r ih =>
          intro j hj
          have := ih (j + 1) (by omega)
          rw [show p + 1 + (j + 1) = (p + 1 + j) + 1 by omega, ← nI_1] at this
          refine hK 25 99 35 _ _ _ ?_
          refine ⟨fun z => absurd z (nI_ge (a := p + 1 + j) (b := 6) (by omega) (by omega)), fun _ => ?_⟩
          refine ⟨_, _, _, _, rfl, fun z => ?_, fun z => ?_⟩
          · refine ⟨fun z => absurd z (by decide), fun _ => ?_⟩
            rw [mmL, if_pos (freB_t z)] at this
            refine ⟨pr, bor tk (p + 1 + j), p + 1, by rw [nI_1]; rfl, by omega, by omega, ?_⟩
            rw [show 6 - (p + 1) = k by omega]
            exact this
          · refine ⟨fun _ => ?_, fun z => absurd z (by decide)⟩
            rw [mmL, if_neg (by rw [freB_f z]; exact Bool.false_ne_true)] at this
            exact this
      have := loop k 0 (by omega)
      rw [show p + 1 + 0 = p + 1 by omega, ← nI_1] at this
      exact this
    · rw [if_pos h2] at hq
      exact hq
  · have h6 : p = 6 := by
      have : ¬ p < 6 := fun y => h (nI_lt (b := 6) y (by omega))
      omega
    subst h6
    exact hq
def rm_X4_most (d : Nat) : Room := { frames := 2 + d, cells := 0, slots := 0, locals := 45 + d * 25 }
set_option maxRecDepth 100000 in
set_option maxHeartbeats 4000000 in
theorem snd_X4_most (l : Launch) (D : va_G) (dA : Nat → ClassId) (σ : Nat → Nat) (sp : em_Sp) (rmc rm : Room) (hrec : em_CT l D em_cl dA σ (em_F σ) y_X4_most c_X4_most 6 (Option.some ClassFile.FieldType.int) rmc sp) (hrz : rmc.cells = 0 ∧ rmc.slots = 0) (hR : rmc.frames + 1 ≤ rm.frames ∧ 8 + (6 + 11) + rmc.locals ≤ rm.locals) (hR2 : 2 ≤ rm.frames ∧ 45 ≤ rm.locals) (p : Program) (e : Env) (s : State) (m : MethodId) (args : Array Value) (below : List Frame) (meth : Method) (c : Code) (A : Nat → Prop) (ρ : Nat → Nat) (Q : em_Q) (C : em_Cx p s m args c D em_cl A 6 (em_tys dA) c_X4_most y_X4_most.cls) (hFok : em_Fok (em_F σ)) (hF : em_F σ A s s.heap) (hret : meth.sig.returnType = (Option.some ClassFile.FieldType.int)) (hlk : meth.locks = false) : ∀ q ∈ T_X4_most sp, em_Snd p l e rm s m args below meth c D em_cl dA σ A 6 (fun _ => (0, 0)) (fun ρ' => ρ' = ρ) (MQ below (em_Qc D em_cl dA σ (fun ρ' => ρ' = ρ) Q A) args s 0 0 A) Q q.1 q.2 := by
  unfold T_X4_most
  refine List.forall_mem_cons.mpr ⟨s_iload_n C (by decide +kernel : decode c_X4_most 0 = .ok (.iload_n 3, 1)) rfl rfl rfl, ?_⟩
  refine List.forall_mem_cons.mpr ⟨s_bipush C (by decide +kernel : decode c_X4_most 1 = .ok (.bipush 6, 2)) rfl rfl (by decide), ?_⟩
  refine List.forall_mem_cons.mpr ⟨s_icmplt C (by decide +kernel : decode c_X4_most 3 = .ok (.if_icmp .lt 5, 3)) (by decide) rfl rfl rfl, ?_⟩
  refine List.forall_mem_cons.mpr ⟨s_iconst C (by decide +kernel : decode c_X4_most 6 = .ok (.iconst 0, 1)) rfl rfl (by decide), ?_⟩
  refine List.forall_mem_cons.mpr ⟨s_iret C (by decide +kernel : decode c_X4_most 7 = .ok (.ireturn, 1)) hret hlk ⟨Nat.le_refl 0, Nat.le_refl 0⟩, ?_⟩
  refine List.forall_mem_cons.mpr ⟨s_lload_n C (by decide +kernel : decode c_X4_most 8 = .ok (.lload_n 0, 1)) rfl rfl rfl, ?_⟩
  refine List.forall_mem_cons.mpr ⟨s_iload_n C (by decide +kernel : decode c_X4_most 9 = .ok (.iload_n 2, 1)) rfl rfl rfl, ?_⟩
  refine List.forall_mem_cons.mpr ⟨s_iload_n C (by decide +kernel : decode c_X4_most 10 = .ok (.iload_n 3, 1)) rfl rfl rfl, ?_⟩
  refine List.forall_mem_cons.mpr ⟨s_iconst C (by decide +kernel : decode c_X4_most 11 = .ok (.iconst 1, 1)) rfl rfl (by decide), ?_⟩
  refine List.forall_mem_cons.mpr ⟨s_iadd C (by decide +kernel : decode c_X4_most 12 = .ok (.iadd, 1)) rfl rfl, ?_⟩
  refine List.forall_mem_cons.mpr ⟨s_callS C hFok hF (hrec) hrz ew531 ew532 ew530 ew16 ⟨by decide, by decide, by decide +kernel⟩ hR (by decide +kernel : decode c_X4_most 13 = .ok (.invokestatic 9, 3)) rfl rfl ⟨Nat.zero_le _, Nat.zero_le _⟩, ?_⟩
  refine List.forall_mem_cons.mpr ⟨s_istore C (by decide +kernel : decode c_X4_most 16 = .ok (.istore 4, 2)) rfl rfl (by decide), ?_⟩
  refine List.forall_mem_cons.mpr ⟨s_iload_n C (by decide +kernel : decode c_X4_most 18 = .ok (.iload_n 2, 1)) rfl rfl rfl, ?_⟩
  refine List.forall_mem_cons.mpr ⟨s_iload_n C (by decide +kernel : decode c_X4_most 19 = .ok (.iload_n 3, 1)) rfl rfl rfl, ?_⟩
  refine List.forall_mem_cons.mpr ⟨s_ishr C (by decide +kernel : decode c_X4_most 20 = .ok (.ishr, 1)) rfl rfl, ?_⟩
  refine List.forall_mem_cons.mpr ⟨s_iconst C (by decide +kernel : decode c_X4_most 21 = .ok (.iconst 1, 1)) rfl rfl (by decide), ?_⟩
  refine List.forall_mem_cons.mpr ⟨s_iand C (by decide +kernel : decode c_X4_most 22 = .ok (.iand, 1)) rfl rfl, ?_⟩
  refine List.forall_mem_cons.mpr ⟨s_iconst C (by decide +kernel : decode c_X4_most 23 = .ok (.iconst 1, 1)) rfl rfl (by decide), ?_⟩
  refine List.forall_mem_cons.mpr ⟨s_icmpne C (by decide +kernel : decode c_X4_most 24 = .ok (.if_icmp .ne 6, 3)) (by decide) rfl rfl rfl, ?_⟩
  refine List.forall_mem_cons.mpr ⟨s_iload C (by decide +kernel : decode c_X4_most 27 = .ok (.iload 4, 2)) rfl rfl, ?_⟩
  refine List.forall_mem_cons.mpr ⟨s_iret C (by decide +kernel : decode c_X4_most 29 = .ok (.ireturn, 1)) hret hlk ⟨Nat.le_refl 0, Nat.le_refl 0⟩, ?_⟩
  refine List.forall_mem_cons.mpr ⟨s_iload_n C (by decide +kernel : decode c_X4_most 30 = .ok (.iload_n 3, 1)) rfl rfl rfl, ?_⟩
  refine List.forall_mem_cons.mpr ⟨s_iconst C (by decide +kernel : decode c_X4_most 31 = .ok (.iconst 1, 1)) rfl rfl (by decide), ?_⟩
  refine List.forall_mem_cons.mpr ⟨s_iadd C (by decide +kernel : decode c_X4_most 32 = .ok (.iadd, 1)) rfl rfl, ?_⟩
  refine List.forall_mem_cons.mpr ⟨s_istore C (by decide +kernel : decode c_X4_most 33 = .ok (.istore 5, 2)) rfl rfl (by decide), ?_⟩
  refine List.forall_mem_cons.mpr ⟨s_iload C (by decide +kernel : decode c_X4_most 35 = .ok (.iload 5, 2)) rfl rfl, ?_⟩
  refine List.forall_mem_cons.mpr ⟨s_bipush C (by decide +kernel : decode c_X4_most 37 = .ok (.bipush 6, 2)) rfl rfl (by decide), ?_⟩
  refine List.forall_mem_cons.mpr ⟨s_icmpge C (by decide +kernel : decode c_X4_most 39 = .ok (.if_icmp .ge 42, 3)) (by decide) rfl rfl rfl, ?_⟩
  refine List.forall_mem_cons.mpr ⟨s_lload_n C (by decide +kernel : decode c_X4_most 42 = .ok (.lload_n 0, 1)) rfl rfl rfl, ?_⟩
  refine List.forall_mem_cons.mpr ⟨s_iload_n C (by decide +kernel : decode c_X4_most 43 = .ok (.iload_n 2, 1)) rfl rfl rfl, ?_⟩
  refine List.forall_mem_cons.mpr ⟨s_iload_n C (by decide +kernel : decode c_X4_most 44 = .ok (.iload_n 3, 1)) rfl rfl rfl, ?_⟩
  refine List.forall_mem_cons.mpr ⟨s_iload C (by decide +kernel : decode c_X4_most 45 = .ok (.iload 5, 2)) rfl rfl, ?_⟩
  refine List.forall_mem_cons.mpr ⟨s_callS C hFok hF (ct_X4_isFree l D dA σ) ⟨rfl, rfl⟩ ew535 ew533 ew534 ew16 ⟨by decide, by decide, by decide +kernel⟩ ⟨Nat.le_trans (by decide) hR2.1, Nat.le_trans (by decide) hR2.2⟩ (by decide +kernel : decode c_X4_most 47 = .ok (.invokestatic 15, 3)) rfl rfl ⟨Nat.zero_le _, Nat.zero_le _⟩, ?_⟩
  refine List.forall_mem_cons.mpr ⟨s_ifeq C (by decide +kernel : decode c_X4_most 50 = .ok (.ifCond .eq 25, 3)) (by decide) rfl rfl rfl, ?_⟩
  refine List.forall_mem_cons.mpr ⟨s_iload C (by decide +kernel : decode c_X4_most 53 = .ok (.iload 4, 2)) rfl rfl, ?_⟩
  refine List.forall_mem_cons.mpr ⟨s_iconst C (by decide +kernel : decode c_X4_most 55 = .ok (.iconst 1, 1)) rfl rfl (by decide), ?_⟩
  refine List.forall_mem_cons.mpr ⟨s_lload_n C (by decide +kernel : decode c_X4_most 56 = .ok (.lload_n 0, 1)) rfl rfl rfl, ?_⟩
  refine List.forall_mem_cons.mpr ⟨s_iload_n C (by decide +kernel : decode c_X4_most 57 = .ok (.iload_n 2, 1)) rfl rfl rfl, ?_⟩
  refine List.forall_mem_cons.mpr ⟨s_iconst C (by decide +kernel : decode c_X4_most 58 = .ok (.iconst 1, 1)) rfl rfl (by decide), ?_⟩
  refine List.forall_mem_cons.mpr ⟨s_iload C (by decide +kernel : decode c_X4_most 59 = .ok (.iload 5, 2)) rfl rfl, ?_⟩
  refine List.forall_mem_cons.mpr ⟨s_ishl C (by decide +kernel : decode c_X4_most 61 = .ok (.ishl, 1)) rfl rfl, ?_⟩
  refine List.forall_mem_cons.mpr ⟨s_ior C (by decide +kernel : decode c_X4_most 62 = .ok (.ior, 1)) rfl rfl, ?_⟩
  refine List.forall_mem_cons.mpr ⟨s_iload_n C (by decide +kernel : decode c_X4_most 63 = .ok (.iload_n 3, 1)) rfl rfl rfl, ?_⟩
  refine List.forall_mem_cons.mpr ⟨s_iconst C (by decide +kernel : decode c_X4_most 64 = .ok (.iconst 1, 1)) rfl rfl (by decide), ?_⟩
  refine List.forall_mem_cons.mpr ⟨s_iadd C (by decide +kernel : decode c_X4_most 65 = .ok (.iadd, 1)) rfl rfl, ?_⟩
  refine List.forall_mem_cons.mpr ⟨s_callS C hFok hF (hrec) hrz ew531 ew532 ew530 ew16 ⟨by decide, by decide, by decide +kernel⟩ hR (by decide +kernel : decode c_X4_most 66 = .ok (.invokestatic 9, 3)) rfl rfl ⟨Nat.zero_le _, Nat.zero_le _⟩, ?_⟩
  refine List.forall_mem_cons.mpr ⟨s_iadd C (by decide +kernel : decode c_X4_most 69 = .ok (.iadd, 1)) rfl rfl, ?_⟩
  refine List.forall_mem_cons.mpr ⟨s_max C ew537 ew495 ew15 ew496 ⟨Nat.le_trans (by decide) hR2.1, Nat.le_trans (by decide) hR2.2⟩ ⟨Nat.zero_le _, Nat.zero_le _⟩ (by decide +kernel : decode c_X4_most 70 = .ok (.invokestatic 19, 3)) rfl rfl, ?_⟩
  refine List.forall_mem_cons.mpr ⟨s_istore C (by decide +kernel : decode c_X4_most 73 = .ok (.istore 4, 2)) rfl rfl (by decide), ?_⟩
  refine List.forall_mem_cons.mpr ⟨s_iinc C (by decide +kernel : decode c_X4_most 75 = .ok (.iinc 5 1, 3)) rfl rfl (by decide) (by decide), ?_⟩
  refine List.forall_mem_cons.mpr ⟨s_goto C (by decide +kernel : decode c_X4_most 78 = .ok (.goto (-43), 3)) (by decide) rfl, ?_⟩
  refine List.forall_mem_cons.mpr ⟨s_iload C (by decide +kernel : decode c_X4_most 81 = .ok (.iload 4, 2)) rfl rfl, ?_⟩
  refine List.forall_mem_cons.mpr ⟨s_iret C (by decide +kernel : decode c_X4_most 83 = .ok (.ireturn, 1)) hret hlk ⟨Nat.le_refl 0, Nat.le_refl 0⟩, ?_⟩
  exact fun _ h => absurd h List.not_mem_nil
theorem ct_X4_most (l : Launch) (D : va_G) (dA : Nat → ClassId) (σ : Nat → Nat) : ∀ d : Nat, em_CT l D em_cl dA σ (em_F σ) y_X4_most c_X4_most 6 (Option.some ClassFile.FieldType.int) (rm_X4_most d) (sp_X4_most d)
  | 0 => em_CT_of (T := T_X4_most spF) (em_F_ok σ) (by decide) (fun p e s m args below meth c A ρ Q C hFok hF hret hlk hin => snd_X4_most l D dA σ spF ⟨0, 0, 0, 0⟩ _ em_CT_F ⟨rfl, rfl⟩ ⟨by decide, by decide⟩ ⟨by decide, by decide⟩ p e s m args below meth c A ρ Q C hFok hF hret hlk) (me_X4_most 0)
  | d + 1 => em_CT_of (T := T_X4_most (sp_X4_most d)) (em_F_ok σ) (by decide) (fun p e s m args below meth c A ρ Q C hFok hF hret hlk hin => snd_X4_most l D dA σ (sp_X4_most d) (rm_X4_most d) _ (ct_X4_most l D dA σ d) ⟨rfl, rfl⟩ ⟨by show 2 + d + 1 ≤ 2 + (d + 1); omega, by show 8 + (6 + 11) + (45 + d * 25) ≤ 45 + (d + 1) * 25; omega⟩ ⟨by show 2 ≤ 2 + (d + 1); omega, by show 45 ≤ 45 + (d + 1) * 25; omega⟩ p e s m args below meth c A ρ Q C hFok hF hret hlk) (me_X4_most (d + 1))
def fcL (pr : Int64) (d : Nat) (tk : Int32) (p : Nat) (best : Int32) : Nat → Int32
  | 0 => -1
  | r + 1 => if freB pr tk p (5 - r) = true ∧ 1 + mmo pr d (bor tk (5 - r)) = best then nI (5 - r) else fcL pr d tk p best r
def fch (pr : Int64) (d : Nat) (tk : Int32) : Int32 := if mmo pr d tk = mmo pr (d + 1) tk then -1 else fcL pr d tk (5 - d) (mmo pr (d + 1) tk) d
def sp_X4_firstChoice : em_Sp := fun av hp Q => ∃ pr tk p d, av = [.long pr, .int tk, .int (nI p)] ∧ p + d = 5 ∧ Q (some (.int (fch pr d tk))) hp
def T_X4_firstChoice : List (Nat × em_Op) := [(0, o_lload 0 1), (1, o_iload 2 2), (2, o_iload 3 3), (3, o_call 3 none (sp_X4_most 6) 6), (6, o_istore 4 8), (8, o_lload 0 9), (9, o_iload 2 10), (10, o_iload 3 11), (11, o_iconst 1 12), (12, o_iadd 13), (13, o_call 3 none (sp_X4_most 6) 16), (16, o_iload 4 18), (18, o_icmpne 23 21), (21, o_iconst (-1) 22), (22, o_iret), (23, o_iload 3 24), (24, o_iconst 1 25), (25, o_iadd 26), (26, o_istore 5 28), (28, o_iload 5 30), (30, o_iconst 6 32), (32, o_icmpge 79 35), (35, o_lload 0 36), (36, o_iload 2 37), (37, o_iload 3 38), (38, o_iload 5 40), (40, o_call 4 none (sp_X4_isFree) 43), (43, o_istore 6 45), (45, o_iload 6 47), (47, o_ifeq 73 50), (50, o_iconst 1 51), (51, o_lload 0 52), (52, o_iload 2 53), (53, o_iconst 1 54), (54, o_iload 5 56), (56, o_ishl 57), (57, o_ior 58), (58, o_iload 3 59), (59, o_iconst 1 60), (60, o_iadd 61), (61, o_call 3 none (sp_X4_most 6) 64), (64, o_iadd 65), (65, o_iload 4 67), (67, o_icmpne 73 70), (70, o_iload 5 72), (72, o_iret), (73, o_iinc 5 1 76), (76, o_goto 28), (79, o_iconst (-1) 80), (80, o_iret)]
theorem me_X4_firstChoice : em_Me T_X4_firstChoice 7 sp_X4_firstChoice := by
  intro Q K hK hle av hp hs
  obtain ⟨pr, tk, p, d, rfl, hd, hq⟩ := hs
  refine ⟨Nat.le_of_ble_eq_true rfl, ?_⟩
  refine hK 0 19 0 _ _ _ ?_
  refine ⟨pr, tk, p, rfl, by omega, by omega, pr, tk, p + 1, by rw [nI_1], by omega, by omega, ?_⟩
  rw [show 6 - (p + 1) = d by omega, show 6 - p = d + 1 by omega]
  rw [fch, show 5 - d = p by omega] at hq
  refine ⟨fun h => ?_, fun h => ?_⟩
  · rw [if_neg h] at hq
    generalize hB : mmo pr (d + 1) tk = best at hq ⊢
    have loop : ∀ (r : Nat), r ≤ d → fcL pr d tk p best d = fcL pr d tk p best r → K 28 [some (.long pr), none, some (.int tk), some (.int (nI p)), some (.int best), some (.int (nI (6 - r))), none] [] hp := by
      intro r
      induction r with
      | zero =>
        intro hr he
        rw [he] at hq
        refine hK 19 99 28 _ _ _ ?_
        exact ⟨fun _ => hq, fun z => absurd (nI_le (a := 6) (b := 6) (by omega) (by omega)) z⟩
      | succ r ih =>
        intro hr he
        have e9 : 6 - (r + 1) = 5 - r := by omega
        rw [e9]
        have skip : ¬ (freB pr tk p (5 - r) = true ∧ 1 + mmo pr d (bor tk (5 - r)) = best) → ∀ x, K 73 [some (.long pr), none, some (.int tk), some (.int (nI p)), some (.int best), some (.int (nI (5 - r))), x] [] hp := by
          intro hz x
          have := ih (by omega) (by rw [he, fcL, if_neg hz])
          rw [show 6 - r = (5 - r) + 1 by omega, ← nI_1] at this
          exact hK 46 2 73 _ _ _ (hle _ _ _ _ _ (by repeat (first | exact trivial | refine ⟨rfl, ?_⟩)) this)
        refine hK 19 27 28 _ _ _ ?_
        refine ⟨fun z => absurd z (nI_ge (a := 5 - r) (b := 6) (by omega) (by omega)), fun _ => ?_⟩
        refine ⟨_, _, _, _, rfl, fun z => ?_, fun z => ?_⟩
        · refine ⟨fun z => absurd z (by decide), fun _ => ?_⟩
          refine ⟨pr, bor tk (5 - r), p + 1, by rw [nI_1]; rfl, by omega, by omega, ?_⟩
          rw [show 6 - (p + 1) = d by omega]
          refine ⟨fun z2 => ?_, fun z2 => ?_⟩
          · exact skip (fun y => z2 y.2) _
          · rw [he, fcL, if_pos ⟨freB_t z, z2⟩] at hq
            exact hq
        · refine ⟨fun _ => ?_, fun z => absurd z (by decide)⟩
          exact skip (fun y => by rw [freB_f z] at y; exact Bool.false_ne_true y.1) _
    have := loop d (Nat.le_refl d) rfl
    rw [show 6 - d = p + 1 by omega, ← nI_1] at this
    exact hle _ _ _ _ _ (by repeat (first | exact trivial | refine ⟨rfl, ?_⟩)) this
  · rw [if_pos h] at hq
    exact hq
abbrev rm_X4_firstChoice : Room := { frames := 9, cells := 0, slots := 0, locals := 220 }
set_option maxRecDepth 100000 in
set_option maxHeartbeats 4000000 in
theorem ct_X4_firstChoice (l : Launch) (D : va_G) (dA : Nat → ClassId) (σ : Nat → Nat) : em_CT l D em_cl dA σ (em_F σ) y_X4_firstChoice c_X4_firstChoice 7 (Option.some ClassFile.FieldType.int) rm_X4_firstChoice (sp_X4_firstChoice ) := by
  refine em_CT_of (T := T_X4_firstChoice ) (em_F_ok σ) (by decide) (fun p e s m args below meth c A ρ Q C hFok hF hret hlk hin => ?_) (me_X4_firstChoice )
  unfold T_X4_firstChoice
  refine List.forall_mem_cons.mpr ⟨s_lload_n C (by decide +kernel : decode c_X4_firstChoice 0 = .ok (.lload_n 0, 1)) rfl rfl rfl, ?_⟩
  refine List.forall_mem_cons.mpr ⟨s_iload_n C (by decide +kernel : decode c_X4_firstChoice 1 = .ok (.iload_n 2, 1)) rfl rfl rfl, ?_⟩
  refine List.forall_mem_cons.mpr ⟨s_iload_n C (by decide +kernel : decode c_X4_firstChoice 2 = .ok (.iload_n 3, 1)) rfl rfl rfl, ?_⟩
  refine List.forall_mem_cons.mpr ⟨s_callS C hFok hF (ct_X4_most l D dA σ 6) ⟨rfl, rfl⟩ ew531 ew532 ew530 ew16 ⟨by decide, by decide, by decide +kernel⟩ ⟨by decide, by decide⟩ (by decide +kernel : decode c_X4_firstChoice 3 = .ok (.invokestatic 9, 3)) rfl rfl ⟨Nat.zero_le _, Nat.zero_le _⟩, ?_⟩
  refine List.forall_mem_cons.mpr ⟨s_istore C (by decide +kernel : decode c_X4_firstChoice 6 = .ok (.istore 4, 2)) rfl rfl (by decide), ?_⟩
  refine List.forall_mem_cons.mpr ⟨s_lload_n C (by decide +kernel : decode c_X4_firstChoice 8 = .ok (.lload_n 0, 1)) rfl rfl rfl, ?_⟩
  refine List.forall_mem_cons.mpr ⟨s_iload_n C (by decide +kernel : decode c_X4_firstChoice 9 = .ok (.iload_n 2, 1)) rfl rfl rfl, ?_⟩
  refine List.forall_mem_cons.mpr ⟨s_iload_n C (by decide +kernel : decode c_X4_firstChoice 10 = .ok (.iload_n 3, 1)) rfl rfl rfl, ?_⟩
  refine List.forall_mem_cons.mpr ⟨s_iconst C (by decide +kernel : decode c_X4_firstChoice 11 = .ok (.iconst 1, 1)) rfl rfl (by decide), ?_⟩
  refine List.forall_mem_cons.mpr ⟨s_iadd C (by decide +kernel : decode c_X4_firstChoice 12 = .ok (.iadd, 1)) rfl rfl, ?_⟩
  refine List.forall_mem_cons.mpr ⟨s_callS C hFok hF (ct_X4_most l D dA σ 6) ⟨rfl, rfl⟩ ew531 ew532 ew530 ew16 ⟨by decide, by decide, by decide +kernel⟩ ⟨by decide, by decide⟩ (by decide +kernel : decode c_X4_firstChoice 13 = .ok (.invokestatic 9, 3)) rfl rfl ⟨Nat.zero_le _, Nat.zero_le _⟩, ?_⟩
  refine List.forall_mem_cons.mpr ⟨s_iload C (by decide +kernel : decode c_X4_firstChoice 16 = .ok (.iload 4, 2)) rfl rfl, ?_⟩
  refine List.forall_mem_cons.mpr ⟨s_icmpne C (by decide +kernel : decode c_X4_firstChoice 18 = .ok (.if_icmp .ne 5, 3)) (by decide) rfl rfl rfl, ?_⟩
  refine List.forall_mem_cons.mpr ⟨s_iconst C (by decide +kernel : decode c_X4_firstChoice 21 = .ok (.iconst (-1), 1)) rfl rfl (by decide), ?_⟩
  refine List.forall_mem_cons.mpr ⟨s_iret C (by decide +kernel : decode c_X4_firstChoice 22 = .ok (.ireturn, 1)) hret hlk ⟨Nat.le_refl 0, Nat.le_refl 0⟩, ?_⟩
  refine List.forall_mem_cons.mpr ⟨s_iload_n C (by decide +kernel : decode c_X4_firstChoice 23 = .ok (.iload_n 3, 1)) rfl rfl rfl, ?_⟩
  refine List.forall_mem_cons.mpr ⟨s_iconst C (by decide +kernel : decode c_X4_firstChoice 24 = .ok (.iconst 1, 1)) rfl rfl (by decide), ?_⟩
  refine List.forall_mem_cons.mpr ⟨s_iadd C (by decide +kernel : decode c_X4_firstChoice 25 = .ok (.iadd, 1)) rfl rfl, ?_⟩
  refine List.forall_mem_cons.mpr ⟨s_istore C (by decide +kernel : decode c_X4_firstChoice 26 = .ok (.istore 5, 2)) rfl rfl (by decide), ?_⟩
  refine List.forall_mem_cons.mpr ⟨s_iload C (by decide +kernel : decode c_X4_firstChoice 28 = .ok (.iload 5, 2)) rfl rfl, ?_⟩
  refine List.forall_mem_cons.mpr ⟨s_bipush C (by decide +kernel : decode c_X4_firstChoice 30 = .ok (.bipush 6, 2)) rfl rfl (by decide), ?_⟩
  refine List.forall_mem_cons.mpr ⟨s_icmpge C (by decide +kernel : decode c_X4_firstChoice 32 = .ok (.if_icmp .ge 47, 3)) (by decide) rfl rfl rfl, ?_⟩
  refine List.forall_mem_cons.mpr ⟨s_lload_n C (by decide +kernel : decode c_X4_firstChoice 35 = .ok (.lload_n 0, 1)) rfl rfl rfl, ?_⟩
  refine List.forall_mem_cons.mpr ⟨s_iload_n C (by decide +kernel : decode c_X4_firstChoice 36 = .ok (.iload_n 2, 1)) rfl rfl rfl, ?_⟩
  refine List.forall_mem_cons.mpr ⟨s_iload_n C (by decide +kernel : decode c_X4_firstChoice 37 = .ok (.iload_n 3, 1)) rfl rfl rfl, ?_⟩
  refine List.forall_mem_cons.mpr ⟨s_iload C (by decide +kernel : decode c_X4_firstChoice 38 = .ok (.iload 5, 2)) rfl rfl, ?_⟩
  refine List.forall_mem_cons.mpr ⟨s_callS C hFok hF (ct_X4_isFree l D dA σ) ⟨rfl, rfl⟩ ew535 ew533 ew534 ew16 ⟨by decide, by decide, by decide +kernel⟩ ⟨by decide, by decide⟩ (by decide +kernel : decode c_X4_firstChoice 40 = .ok (.invokestatic 15, 3)) rfl rfl ⟨Nat.zero_le _, Nat.zero_le _⟩, ?_⟩
  refine List.forall_mem_cons.mpr ⟨s_istore C (by decide +kernel : decode c_X4_firstChoice 43 = .ok (.istore 6, 2)) rfl rfl (by decide), ?_⟩
  refine List.forall_mem_cons.mpr ⟨s_iload C (by decide +kernel : decode c_X4_firstChoice 45 = .ok (.iload 6, 2)) rfl rfl, ?_⟩
  refine List.forall_mem_cons.mpr ⟨s_ifeq C (by decide +kernel : decode c_X4_firstChoice 47 = .ok (.ifCond .eq 26, 3)) (by decide) rfl rfl rfl, ?_⟩
  refine List.forall_mem_cons.mpr ⟨s_iconst C (by decide +kernel : decode c_X4_firstChoice 50 = .ok (.iconst 1, 1)) rfl rfl (by decide), ?_⟩
  refine List.forall_mem_cons.mpr ⟨s_lload_n C (by decide +kernel : decode c_X4_firstChoice 51 = .ok (.lload_n 0, 1)) rfl rfl rfl, ?_⟩
  refine List.forall_mem_cons.mpr ⟨s_iload_n C (by decide +kernel : decode c_X4_firstChoice 52 = .ok (.iload_n 2, 1)) rfl rfl rfl, ?_⟩
  refine List.forall_mem_cons.mpr ⟨s_iconst C (by decide +kernel : decode c_X4_firstChoice 53 = .ok (.iconst 1, 1)) rfl rfl (by decide), ?_⟩
  refine List.forall_mem_cons.mpr ⟨s_iload C (by decide +kernel : decode c_X4_firstChoice 54 = .ok (.iload 5, 2)) rfl rfl, ?_⟩
  refine List.forall_mem_cons.mpr ⟨s_ishl C (by decide +kernel : decode c_X4_firstChoice 56 = .ok (.ishl, 1)) rfl rfl, ?_⟩
  refine List.forall_mem_cons.mpr ⟨s_ior C (by decide +kernel : decode c_X4_firstChoice 57 = .ok (.ior, 1)) rfl rfl, ?_⟩
  refine List.forall_mem_cons.mpr ⟨s_iload_n C (by decide +kernel : decode c_X4_firstChoice 58 = .ok (.iload_n 3, 1)) rfl rfl rfl, ?_⟩
  refine List.forall_mem_cons.mpr ⟨s_iconst C (by decide +kernel : decode c_X4_firstChoice 59 = .ok (.iconst 1, 1)) rfl rfl (by decide), ?_⟩
  refine List.forall_mem_cons.mpr ⟨s_iadd C (by decide +kernel : decode c_X4_firstChoice 60 = .ok (.iadd, 1)) rfl rfl, ?_⟩
  refine List.forall_mem_cons.mpr ⟨s_callS C hFok hF (ct_X4_most l D dA σ 6) ⟨rfl, rfl⟩ ew531 ew532 ew530 ew16 ⟨by decide, by decide, by decide +kernel⟩ ⟨by decide, by decide⟩ (by decide +kernel : decode c_X4_firstChoice 61 = .ok (.invokestatic 9, 3)) rfl rfl ⟨Nat.zero_le _, Nat.zero_le _⟩, ?_⟩
  refine List.forall_mem_cons.mpr ⟨s_iadd C (by decide +kernel : decode c_X4_firstChoice 64 = .ok (.iadd, 1)) rfl rfl, ?_⟩
  refine List.forall_mem_cons.mpr ⟨s_iload C (by decide +kernel : decode c_X4_firstChoice 65 = .ok (.iload 4, 2)) rfl rfl, ?_⟩
  refine List.forall_mem_cons.mpr ⟨s_icmpne C (by decide +kernel : decode c_X4_firstChoice 67 = .ok (.if_icmp .ne 6, 3)) (by decide) rfl rfl rfl, ?_⟩
  refine List.forall_mem_cons.mpr ⟨s_iload C (by decide +kernel : decode c_X4_firstChoice 70 = .ok (.iload 5, 2)) rfl rfl, ?_⟩
  refine List.forall_mem_cons.mpr ⟨s_iret C (by decide +kernel : decode c_X4_firstChoice 72 = .ok (.ireturn, 1)) hret hlk ⟨Nat.le_refl 0, Nat.le_refl 0⟩, ?_⟩
  refine List.forall_mem_cons.mpr ⟨s_iinc C (by decide +kernel : decode c_X4_firstChoice 73 = .ok (.iinc 5 1, 3)) rfl rfl (by decide) (by decide), ?_⟩
  refine List.forall_mem_cons.mpr ⟨s_goto C (by decide +kernel : decode c_X4_firstChoice 76 = .ok (.goto (-48), 3)) (by decide) rfl, ?_⟩
  refine List.forall_mem_cons.mpr ⟨s_iconst C (by decide +kernel : decode c_X4_firstChoice 79 = .ok (.iconst (-1), 1)) rfl rfl (by decide), ?_⟩
  refine List.forall_mem_cons.mpr ⟨s_iret C (by decide +kernel : decode c_X4_firstChoice 80 = .ok (.ireturn, 1)) hret hlk ⟨Nat.le_refl 0, Nat.le_refl 0⟩, ?_⟩
  exact fun _ h => absurd h List.not_mem_nil
def spo (pr : Int64) (w : Nat) : Nat → Int32 → Int32
  | 0, _ => -1
  | r + 1, tk => if (tk >>> (nI (w - r) &&& 31)) &&& 1 = 0 then
      (if r = 0 then fch pr (5 - (w - r)) tk else if fch pr (5 - (w - r)) tk = nI w then nI (w - r) else if fch pr (5 - (w - r)) tk = -1 then spo pr w r tk else spo pr w r (tk ||| ((1 : Int32) <<< (fch pr (5 - (w - r)) tk &&& 31))))
    else spo pr w r tk
def sp_X4_spouse : em_Sp := fun av hp Q => ∃ pr w, av = [.long pr, .int (nI w)] ∧ w < 6 ∧ Q (some (.int (spo pr w (w + 1) 0))) hp
def T_X4_spouse : List (Nat × em_Op) := [(0, o_iconst 0 1), (1, o_istore 3 2), (2, o_iconst 0 3), (3, o_istore 4 5), (5, o_iload 4 7), (7, o_iload 2 8), (8, o_icmpgt 66 11), (11, o_iload 3 12), (12, o_iload 4 14), (14, o_ishr 15), (15, o_iconst 1 16), (16, o_iand 17), (17, o_ifne 60 20), (20, o_lload 0 21), (21, o_iload 3 22), (22, o_iload 4 24), (24, o_call 3 none (sp_X4_firstChoice) 27), (27, o_istore 5 29), (29, o_iload 4 31), (31, o_iload 2 32), (32, o_icmpne 38 35), (35, o_iload 5 37), (37, o_iret), (38, o_iload 5 40), (40, o_iload 2 41), (41, o_icmpne 47 44), (44, o_iload 4 46), (46, o_iret), (47, o_iload 5 49), (49, o_iconst (-1) 50), (50, o_icmpeq 60 53), (53, o_iload 3 54), (54, o_iconst 1 55), (55, o_iload 5 57), (57, o_ishl 58), (58, o_ior 59), (59, o_istore 3 60), (60, o_iinc 4 1 63), (63, o_goto 5), (66, o_iconst (-1) 67), (67, o_iret)]
theorem me_X4_spouse : em_Me T_X4_spouse 6 sp_X4_spouse := by
  intro Q K hK hle av hp hs
  obtain ⟨pr, w, rfl, hw, hq⟩ := hs
  refine ⟨Nat.le_of_ble_eq_true rfl, ?_⟩
  obtain ⟨V, hV⟩ : ∃ V, V = spo pr w (w + 1) 0 := ⟨_, rfl⟩
  rw [← hV] at hq
  have loop : ∀ (r : Nat) (tk : Int32), r ≤ w + 1 → V = spo pr w r tk → K 5 [some (.long pr), none, some (.int (nI w)), some (.int tk), some (.int (nI (w + 1 - r))), none] [] hp := by
    intro r
    induction r with
    | zero =>
      intro tk hr he
      rw [he] at hq
      refine hK 4 99 5 _ _ _ ?_
      exact ⟨fun _ => hq, fun z => absurd (nI_lt (a := w) (b := w + 1) (by omega) (by omega)) z⟩
    | succ r ih =>
      intro tk hr he
      rw [show w + 1 - (r + 1) = w - r by omega]
      have next : ∀ (tk2 : Int32) x, V = spo pr w r tk2 → K 60 [some (.long pr), none, some (.int (nI w)), some (.int tk2), some (.int (nI (w - r))), x] [] hp := by
        intro tk2 x h2
        have := ih tk2 (by omega) h2
        rw [show w + 1 - r = (w - r) + 1 by omega, ← nI_1] at this
        exact hK 37 2 60 _ _ _ (hle _ _ _ _ _ (by repeat (first | exact trivial | refine ⟨rfl, ?_⟩)) this)
      rw [spo] at he
      refine hK 4 33 5 _ _ _ ?_
      refine ⟨fun z => absurd z (nI_nlt (a := w) (b := w - r) (by omega) (by omega)), fun _ => ?_⟩
      refine ⟨fun z => ?_, fun z => ?_⟩
      · rw [if_neg z] at he
        exact next tk _ he
      · rw [if_pos z] at he
        refine ⟨pr, tk, w - r, 5 - (w - r), rfl, by omega, ?_⟩
        refine ⟨fun z2 => ?_, fun z2 => ?_⟩
        · have hr0 : ¬ r = 0 := fun y => z2 (by rw [y, Nat.sub_zero])
          rw [if_neg hr0] at he
          refine ⟨fun z3 => ?_, fun z3 => ?_⟩
          · rw [if_neg z3] at he
            refine ⟨fun z4 => ?_, fun z4 => ?_⟩
            · rw [if_pos z4] at he
              exact next tk _ he
            · rw [if_neg z4] at he
              exact next _ _ he
          · rw [if_pos z3] at he
            rw [he] at hq
            exact hq
        · have hr0 : r = 0 := by
            have := (nI_eq (a := w - r) (b := w) (by omega) (by omega)).mp z2
            omega
          rw [if_pos hr0] at he
          rw [he] at hq
          exact hq
  have := loop (w + 1) 0 (Nat.le_refl _) hV
  rw [Nat.sub_self] at this
  exact hK 0 4 0 _ _ _ this
abbrev rm_X4_spouse : Room := { frames := 10, cells := 0, slots := 0, locals := 246 }
set_option maxRecDepth 100000 in
set_option maxHeartbeats 4000000 in
theorem ct_X4_spouse (l : Launch) (D : va_G) (dA : Nat → ClassId) (σ : Nat → Nat) : em_CT l D em_cl dA σ (em_F σ) y_X4_spouse c_X4_spouse 6 (Option.some ClassFile.FieldType.int) rm_X4_spouse (sp_X4_spouse ) := by
  refine em_CT_of (T := T_X4_spouse ) (em_F_ok σ) (by decide) (fun p e s m args below meth c A ρ Q C hFok hF hret hlk hin => ?_) (me_X4_spouse )
  unfold T_X4_spouse
  refine List.forall_mem_cons.mpr ⟨s_iconst C (by decide +kernel : decode c_X4_spouse 0 = .ok (.iconst 0, 1)) rfl rfl (by decide), ?_⟩
  refine List.forall_mem_cons.mpr ⟨s_istore_n C (by decide +kernel : decode c_X4_spouse 1 = .ok (.istore_n 3, 1)) rfl rfl rfl (by decide), ?_⟩
  refine List.forall_mem_cons.mpr ⟨s_iconst C (by decide +kernel : decode c_X4_spouse 2 = .ok (.iconst 0, 1)) rfl rfl (by decide), ?_⟩
  refine List.forall_mem_cons.mpr ⟨s_istore C (by decide +kernel : decode c_X4_spouse 3 = .ok (.istore 4, 2)) rfl rfl (by decide), ?_⟩
  refine List.forall_mem_cons.mpr ⟨s_iload C (by decide +kernel : decode c_X4_spouse 5 = .ok (.iload 4, 2)) rfl rfl, ?_⟩
  refine List.forall_mem_cons.mpr ⟨s_iload_n C (by decide +kernel : decode c_X4_spouse 7 = .ok (.iload_n 2, 1)) rfl rfl rfl, ?_⟩
  refine List.forall_mem_cons.mpr ⟨s_icmpgt C (by decide +kernel : decode c_X4_spouse 8 = .ok (.if_icmp .gt 58, 3)) (by decide) rfl rfl rfl, ?_⟩
  refine List.forall_mem_cons.mpr ⟨s_iload_n C (by decide +kernel : decode c_X4_spouse 11 = .ok (.iload_n 3, 1)) rfl rfl rfl, ?_⟩
  refine List.forall_mem_cons.mpr ⟨s_iload C (by decide +kernel : decode c_X4_spouse 12 = .ok (.iload 4, 2)) rfl rfl, ?_⟩
  refine List.forall_mem_cons.mpr ⟨s_ishr C (by decide +kernel : decode c_X4_spouse 14 = .ok (.ishr, 1)) rfl rfl, ?_⟩
  refine List.forall_mem_cons.mpr ⟨s_iconst C (by decide +kernel : decode c_X4_spouse 15 = .ok (.iconst 1, 1)) rfl rfl (by decide), ?_⟩
  refine List.forall_mem_cons.mpr ⟨s_iand C (by decide +kernel : decode c_X4_spouse 16 = .ok (.iand, 1)) rfl rfl, ?_⟩
  refine List.forall_mem_cons.mpr ⟨s_ifne C (by decide +kernel : decode c_X4_spouse 17 = .ok (.ifCond .ne 43, 3)) (by decide) rfl rfl rfl, ?_⟩
  refine List.forall_mem_cons.mpr ⟨s_lload_n C (by decide +kernel : decode c_X4_spouse 20 = .ok (.lload_n 0, 1)) rfl rfl rfl, ?_⟩
  refine List.forall_mem_cons.mpr ⟨s_iload_n C (by decide +kernel : decode c_X4_spouse 21 = .ok (.iload_n 3, 1)) rfl rfl rfl, ?_⟩
  refine List.forall_mem_cons.mpr ⟨s_iload C (by decide +kernel : decode c_X4_spouse 22 = .ok (.iload 4, 2)) rfl rfl, ?_⟩
  refine List.forall_mem_cons.mpr ⟨s_callS C hFok hF (ct_X4_firstChoice l D dA σ) ⟨rfl, rfl⟩ ew543 ew541 ew542 ew16 ⟨by decide, by decide, by decide +kernel⟩ ⟨by decide, by decide⟩ (by decide +kernel : decode c_X4_spouse 24 = .ok (.invokestatic 25, 3)) rfl rfl ⟨Nat.zero_le _, Nat.zero_le _⟩, ?_⟩
  refine List.forall_mem_cons.mpr ⟨s_istore C (by decide +kernel : decode c_X4_spouse 27 = .ok (.istore 5, 2)) rfl rfl (by decide), ?_⟩
  refine List.forall_mem_cons.mpr ⟨s_iload C (by decide +kernel : decode c_X4_spouse 29 = .ok (.iload 4, 2)) rfl rfl, ?_⟩
  refine List.forall_mem_cons.mpr ⟨s_iload_n C (by decide +kernel : decode c_X4_spouse 31 = .ok (.iload_n 2, 1)) rfl rfl rfl, ?_⟩
  refine List.forall_mem_cons.mpr ⟨s_icmpne C (by decide +kernel : decode c_X4_spouse 32 = .ok (.if_icmp .ne 6, 3)) (by decide) rfl rfl rfl, ?_⟩
  refine List.forall_mem_cons.mpr ⟨s_iload C (by decide +kernel : decode c_X4_spouse 35 = .ok (.iload 5, 2)) rfl rfl, ?_⟩
  refine List.forall_mem_cons.mpr ⟨s_iret C (by decide +kernel : decode c_X4_spouse 37 = .ok (.ireturn, 1)) hret hlk ⟨Nat.le_refl 0, Nat.le_refl 0⟩, ?_⟩
  refine List.forall_mem_cons.mpr ⟨s_iload C (by decide +kernel : decode c_X4_spouse 38 = .ok (.iload 5, 2)) rfl rfl, ?_⟩
  refine List.forall_mem_cons.mpr ⟨s_iload_n C (by decide +kernel : decode c_X4_spouse 40 = .ok (.iload_n 2, 1)) rfl rfl rfl, ?_⟩
  refine List.forall_mem_cons.mpr ⟨s_icmpne C (by decide +kernel : decode c_X4_spouse 41 = .ok (.if_icmp .ne 6, 3)) (by decide) rfl rfl rfl, ?_⟩
  refine List.forall_mem_cons.mpr ⟨s_iload C (by decide +kernel : decode c_X4_spouse 44 = .ok (.iload 4, 2)) rfl rfl, ?_⟩
  refine List.forall_mem_cons.mpr ⟨s_iret C (by decide +kernel : decode c_X4_spouse 46 = .ok (.ireturn, 1)) hret hlk ⟨Nat.le_refl 0, Nat.le_refl 0⟩, ?_⟩
  refine List.forall_mem_cons.mpr ⟨s_iload C (by decide +kernel : decode c_X4_spouse 47 = .ok (.iload 5, 2)) rfl rfl, ?_⟩
  refine List.forall_mem_cons.mpr ⟨s_iconst C (by decide +kernel : decode c_X4_spouse 49 = .ok (.iconst (-1), 1)) rfl rfl (by decide), ?_⟩
  refine List.forall_mem_cons.mpr ⟨s_icmpeq C (by decide +kernel : decode c_X4_spouse 50 = .ok (.if_icmp .eq 10, 3)) (by decide) rfl rfl rfl, ?_⟩
  refine List.forall_mem_cons.mpr ⟨s_iload_n C (by decide +kernel : decode c_X4_spouse 53 = .ok (.iload_n 3, 1)) rfl rfl rfl, ?_⟩
  refine List.forall_mem_cons.mpr ⟨s_iconst C (by decide +kernel : decode c_X4_spouse 54 = .ok (.iconst 1, 1)) rfl rfl (by decide), ?_⟩
  refine List.forall_mem_cons.mpr ⟨s_iload C (by decide +kernel : decode c_X4_spouse 55 = .ok (.iload 5, 2)) rfl rfl, ?_⟩
  refine List.forall_mem_cons.mpr ⟨s_ishl C (by decide +kernel : decode c_X4_spouse 57 = .ok (.ishl, 1)) rfl rfl, ?_⟩
  refine List.forall_mem_cons.mpr ⟨s_ior C (by decide +kernel : decode c_X4_spouse 58 = .ok (.ior, 1)) rfl rfl, ?_⟩
  refine List.forall_mem_cons.mpr ⟨s_istore_n C (by decide +kernel : decode c_X4_spouse 59 = .ok (.istore_n 3, 1)) rfl rfl rfl (by decide), ?_⟩
  refine List.forall_mem_cons.mpr ⟨s_iinc C (by decide +kernel : decode c_X4_spouse 60 = .ok (.iinc 4 1, 3)) rfl rfl (by decide) (by decide), ?_⟩
  refine List.forall_mem_cons.mpr ⟨s_goto C (by decide +kernel : decode c_X4_spouse 63 = .ok (.goto (-58), 3)) (by decide) rfl, ?_⟩
  refine List.forall_mem_cons.mpr ⟨s_iconst C (by decide +kernel : decode c_X4_spouse 66 = .ok (.iconst (-1), 1)) rfl rfl (by decide), ?_⟩
  refine List.forall_mem_cons.mpr ⟨s_iret C (by decide +kernel : decode c_X4_spouse 67 = .ok (.ireturn, 1)) hret hlk ⟨Nat.le_refl 0, Nat.le_refl 0⟩, ?_⟩
  exact fun _ h => absurd h List.not_mem_nil
