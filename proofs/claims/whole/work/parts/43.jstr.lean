/-! ===== String.length, String.charAt on the constants; TownText.isWord, takeMatters ===== -/
theorem b1_tt {c : Bool} (h : ¬ b1 c = 0) : c = true := by
  cases c with
  | true => rfl
  | false => exact absurd rfl h
def sp_J0_coder_7d493 : em_Sp := fun av hp Q => ∃ k, av = [.retAddr k] ∧ k < 5 ∧ Q (some (.int 0)) hp
def T_J0_coder_7d493 : List (Nat × em_Op) := [(0, o_gets1 3), (3, o_ifeq 13 6), (6, o_aloadX 0 7), (7, o_getSc 10), (10, o_goto 14), (13, o_no), (14, o_nret .byte)]
theorem me_J0_coder_7d493 : em_Me T_J0_coder_7d493 1 sp_J0_coder_7d493 := by
  intro Q K hK hle av hp hs
  obtain ⟨k, rfl, hk, hq⟩ := hs
  have hk5 : k = 0 ∨ k = 1 ∨ k = 2 ∨ k = 3 ∨ k = 4 := by omega
  rcases hk5 with rfl | rfl | rfl | rfl | rfl
  all_goals exact ⟨Nat.le_of_ble_eq_true rfl, hK 0 9999 0 _ _ _ ⟨fun z => absurd z (by decide), fun _ => ⟨rfl, hq⟩⟩⟩
abbrev rm_J0_coder_7d493 : Room := { frames := 0, cells := 0, slots := 0, locals := 0 }
set_option maxRecDepth 100000 in
set_option maxHeartbeats 4000000 in
theorem ct_J0_coder_7d493 (l : Launch) (D : va_G) (dA : Nat → ClassId) (σ : Nat → Nat) : em_CT l D em_cl dA σ (em_F σ) y_J0_coder_7d493 c_J0_coder_7d493 1 (Option.some ClassFile.FieldType.byte) rm_J0_coder_7d493 (sp_J0_coder_7d493 ) := by
  refine em_CT_of (T := T_J0_coder_7d493 ) (em_F_ok σ) (by decide) (fun p e s m args below meth c A ρ Q C hFok hF hret hlk hin => ?_) (me_J0_coder_7d493 )
  unfold T_J0_coder_7d493
  refine List.forall_mem_cons.mpr ⟨s_gets1 C hF (by decide +kernel : decode c_J0_coder_7d493 0 = .ok (.getstatic 38, 3)) rfl rfl ew313, ?_⟩
  refine List.forall_mem_cons.mpr ⟨s_ifeq C (by decide +kernel : decode c_J0_coder_7d493 3 = .ok (.ifCond .eq 10, 3)) (by decide) rfl rfl rfl, ?_⟩
  refine List.forall_mem_cons.mpr ⟨s_aloadX_n C (by decide +kernel : decode c_J0_coder_7d493 6 = .ok (.aload_n 0, 1)) rfl rfl rfl, ?_⟩
  refine List.forall_mem_cons.mpr ⟨s_getSc C hF (by decide +kernel : decode c_J0_coder_7d493 7 = .ok (.getfield 15, 3)) rfl rfl ew1081, ?_⟩
  refine List.forall_mem_cons.mpr ⟨s_goto C (by decide +kernel : decode c_J0_coder_7d493 10 = .ok (.goto 4, 3)) (by decide) rfl, ?_⟩
  refine List.forall_mem_cons.mpr ⟨s_no, ?_⟩
  refine List.forall_mem_cons.mpr ⟨s_nret C (by decide +kernel : decode c_J0_coder_7d493 14 = .ok (.ireturn, 1)) hret hlk ⟨Nat.le_refl 0, Nat.le_refl 0⟩, ?_⟩
  exact fun _ h => absurd h List.not_mem_nil
def sp_J0_isLatin1_aae02 : em_Sp := fun av hp Q => ∃ k, av = [.retAddr k] ∧ k < 5 ∧ Q (some (.int 1)) hp
def T_J0_isLatin1_aae02 : List (Nat × em_Op) := [(0, o_gets1 3), (3, o_ifeq 17 6), (6, o_aloadX 0 7), (7, o_getSc 10), (10, o_ifne 17 13), (13, o_iconst 1 14), (14, o_goto 18), (17, o_no), (18, o_zret)]
theorem me_J0_isLatin1_aae02 : em_Me T_J0_isLatin1_aae02 1 sp_J0_isLatin1_aae02 := by
  intro Q K hK hle av hp hs
  obtain ⟨k, rfl, hk, hq⟩ := hs
  have hk5 : k = 0 ∨ k = 1 ∨ k = 2 ∨ k = 3 ∨ k = 4 := by omega
  rcases hk5 with rfl | rfl | rfl | rfl | rfl
  all_goals exact ⟨Nat.le_of_ble_eq_true rfl, hK 0 9999 0 _ _ _ ⟨fun z => absurd z (by decide), fun _ => ⟨fun z => absurd rfl z, fun _ => ⟨Or.inr rfl, hq⟩⟩⟩⟩
abbrev rm_J0_isLatin1_aae02 : Room := { frames := 0, cells := 0, slots := 0, locals := 0 }
set_option maxRecDepth 100000 in
set_option maxHeartbeats 4000000 in
theorem ct_J0_isLatin1_aae02 (l : Launch) (D : va_G) (dA : Nat → ClassId) (σ : Nat → Nat) : em_CT l D em_cl dA σ (em_F σ) y_J0_isLatin1_aae02 c_J0_isLatin1_aae02 1 (Option.some ClassFile.FieldType.boolean) rm_J0_isLatin1_aae02 (sp_J0_isLatin1_aae02 ) := by
  refine em_CT_of (T := T_J0_isLatin1_aae02 ) (em_F_ok σ) (by decide) (fun p e s m args below meth c A ρ Q C hFok hF hret hlk hin => ?_) (me_J0_isLatin1_aae02 )
  unfold T_J0_isLatin1_aae02
  refine List.forall_mem_cons.mpr ⟨s_gets1 C hF (by decide +kernel : decode c_J0_isLatin1_aae02 0 = .ok (.getstatic 38, 3)) rfl rfl ew313, ?_⟩
  refine List.forall_mem_cons.mpr ⟨s_ifeq C (by decide +kernel : decode c_J0_isLatin1_aae02 3 = .ok (.ifCond .eq 14, 3)) (by decide) rfl rfl rfl, ?_⟩
  refine List.forall_mem_cons.mpr ⟨s_aloadX_n C (by decide +kernel : decode c_J0_isLatin1_aae02 6 = .ok (.aload_n 0, 1)) rfl rfl rfl, ?_⟩
  refine List.forall_mem_cons.mpr ⟨s_getSc C hF (by decide +kernel : decode c_J0_isLatin1_aae02 7 = .ok (.getfield 15, 3)) rfl rfl ew1081, ?_⟩
  refine List.forall_mem_cons.mpr ⟨s_ifne C (by decide +kernel : decode c_J0_isLatin1_aae02 10 = .ok (.ifCond .ne 7, 3)) (by decide) rfl rfl rfl, ?_⟩
  refine List.forall_mem_cons.mpr ⟨s_iconst C (by decide +kernel : decode c_J0_isLatin1_aae02 13 = .ok (.iconst 1, 1)) rfl rfl (by decide), ?_⟩
  refine List.forall_mem_cons.mpr ⟨s_goto C (by decide +kernel : decode c_J0_isLatin1_aae02 14 = .ok (.goto 4, 3)) (by decide) rfl, ?_⟩
  refine List.forall_mem_cons.mpr ⟨s_no, ?_⟩
  refine List.forall_mem_cons.mpr ⟨s_zret C (by decide +kernel : decode c_J0_isLatin1_aae02 18 = .ok (.ireturn, 1)) hret hlk ⟨Nat.le_refl 0, Nat.le_refl 0⟩, ?_⟩
  exact fun _ h => absurd h List.not_mem_nil
/-- how long the k-th constant is; its bytes -/
def wl (k : Nat) : Nat := em_len.getD k 0
def em_bn : List (List Nat) := [[112, 101, 114, 115, 111, 110], [120], [119, 101, 105, 103, 104, 116, 121], [108, 105, 99, 101, 110, 99, 101], [116, 97, 108, 107]]
def bnN (k i : Nat) : Nat := (em_bn.getD k []).getD i 0
theorem wl_le : ∀ k, k < 5 → wl k ≤ 7 := by decide
theorem bn_lt : ∀ k, k < 5 → ∀ i, i < wl k → bnN k i < 128 := by decide
theorem len_sh : ∀ k, k < 5 → Int32.ofNat (em_len.getD k 0) >>> ((0 : Int32) &&& 31) = nI (wl k) := by decide
theorem byt_c : ∀ k, k < 5 → ∀ i, i < wl k → (((((em_byt.getD k []).getD i 0) &&& 255).toUInt32 % 65536).toInt32) = nI (bnN k i) := by decide
theorem nar_c : ∀ n, n < 128 → (nI n).toUInt32.toUInt16.toUInt32.toInt32 = nI n := by decide +kernel
def sp_J0_length_8abf5 : em_Sp := fun av hp Q => ∃ k, av = [.retAddr k] ∧ k < 5 ∧ Q (some (.int (nI (wl k)))) hp
def T_J0_length_8abf5 : List (Nat × em_Op) := [(0, o_aloadX 0 1), (1, o_getSv 4), (4, o_alenS 5), (5, o_aloadX 0 6), (6, o_callVS 1 (sp_J0_coder_7d493) 9), (9, o_ishr 10), (10, o_iret)]
theorem me_J0_length_8abf5 : em_Me T_J0_length_8abf5 1 sp_J0_length_8abf5 := by
  intro Q K hK hle av hp hs
  obtain ⟨k, rfl, hk, hq⟩ := hs
  rw [← len_sh k hk] at hq
  have hk5 : k = 0 ∨ k = 1 ∨ k = 2 ∨ k = 3 ∨ k = 4 := by omega
  rcases hk5 with rfl | rfl | rfl | rfl | rfl
  all_goals exact ⟨Nat.le_of_ble_eq_true rfl, hK 0 9999 0 _ _ _ ⟨_, rfl, hk, hq⟩⟩
abbrev rm_J0_length_8abf5 : Room := { frames := 1, cells := 0, slots := 0, locals := 20 }
set_option maxRecDepth 100000 in
set_option maxHeartbeats 4000000 in
theorem ct_J0_length_8abf5 (l : Launch) (D : va_G) (dA : Nat → ClassId) (σ : Nat → Nat) : em_CT l D em_cl dA σ (em_F σ) y_J0_length_8abf5 c_J0_length_8abf5 1 (Option.some ClassFile.FieldType.int) rm_J0_length_8abf5 (sp_J0_length_8abf5 ) := by
  refine em_CT_of (T := T_J0_length_8abf5 ) (em_F_ok σ) (by decide) (fun p e s m args below meth c A ρ Q C hFok hF hret hlk hin => ?_) (me_J0_length_8abf5 )
  unfold T_J0_length_8abf5
  refine List.forall_mem_cons.mpr ⟨s_aloadX_n C (by decide +kernel : decode c_J0_length_8abf5 0 = .ok (.aload_n 0, 1)) rfl rfl rfl, ?_⟩
  refine List.forall_mem_cons.mpr ⟨s_getSv C hF (by decide +kernel : decode c_J0_length_8abf5 1 = .ok (.getfield 9, 3)) rfl rfl ew1080, ?_⟩
  refine List.forall_mem_cons.mpr ⟨s_alenS C hF (by decide +kernel : decode c_J0_length_8abf5 4 = .ok (.arraylength, 1)) rfl rfl, ?_⟩
  refine List.forall_mem_cons.mpr ⟨s_aloadX_n C (by decide +kernel : decode c_J0_length_8abf5 5 = .ok (.aload_n 0, 1)) rfl rfl rfl, ?_⟩
  refine List.forall_mem_cons.mpr ⟨s_callVS C hFok hF (ct_J0_coder_7d493 l D dA σ) ⟨rfl, rfl⟩ rfl ew312 ew309 ew310 ew311 ew9 ⟨by decide, by decide, by decide +kernel⟩ ⟨by decide, by decide⟩ (by decide +kernel : decode c_J0_length_8abf5 6 = .ok (.invokevirtual 335, 3)) rfl rfl ⟨Nat.zero_le _, Nat.zero_le _⟩, ?_⟩
  refine List.forall_mem_cons.mpr ⟨s_ishr C (by decide +kernel : decode c_J0_length_8abf5 9 = .ok (.ishr, 1)) rfl rfl, ?_⟩
  refine List.forall_mem_cons.mpr ⟨s_iret C (by decide +kernel : decode c_J0_length_8abf5 10 = .ok (.ireturn, 1)) hret hlk ⟨Nat.le_refl 0, Nat.le_refl 0⟩, ?_⟩
  exact fun _ h => absurd h List.not_mem_nil
def sp_J3_checkIndex_8e157 : em_Sp := fun av hp Q => ∃ i n w, av = [.int (nI i), .int (nI n), w] ∧ (w = .null ∨ w = .retAddr 10) ∧ i < n ∧ n < 2 ^ 31 ∧ Q (some (.int (nI i))) hp
def T_J3_checkIndex_8e157 : List (Nat × em_Op) := [(0, o_iload 0 1), (1, o_iflt 9 4), (4, o_iload 0 5), (5, o_iload 1 6), (6, o_icmplt 16 9), (9, o_no), (10, o_no), (11, o_no), (12, o_no), (15, o_no), (16, o_iload 0 17), (17, o_iret)]
theorem me_J3_checkIndex_8e157 : em_Me T_J3_checkIndex_8e157 3 sp_J3_checkIndex_8e157 := by
  intro Q K hK hle av hp hs
  obtain ⟨i, n, w, rfl, hw, hi, hn, hq⟩ := hs
  rcases hw with rfl | rfl
  all_goals exact ⟨Nat.le_of_ble_eq_true rfl, hK 0 9999 0 _ _ _ ⟨fun z => absurd z (nI_pos (by omega)), fun _ => ⟨fun _ => hq, fun z => absurd (nI_lt hi hn) z⟩⟩⟩
abbrev rm_J3_checkIndex_8e157 : Room := { frames := 0, cells := 0, slots := 0, locals := 0 }
set_option maxRecDepth 100000 in
set_option maxHeartbeats 4000000 in
theorem ct_J3_checkIndex_8e157 (l : Launch) (D : va_G) (dA : Nat → ClassId) (σ : Nat → Nat) : em_CT l D em_cl dA σ (em_F σ) y_J3_checkIndex_8e157 c_J3_checkIndex_8e157 3 (Option.some ClassFile.FieldType.int) rm_J3_checkIndex_8e157 (sp_J3_checkIndex_8e157 ) := by
  refine em_CT_of (T := T_J3_checkIndex_8e157 ) (em_F_ok σ) (by decide) (fun p e s m args below meth c A ρ Q C hFok hF hret hlk hin => ?_) (me_J3_checkIndex_8e157 )
  unfold T_J3_checkIndex_8e157
  refine List.forall_mem_cons.mpr ⟨s_iload_n C (by decide +kernel : decode c_J3_checkIndex_8e157 0 = .ok (.iload_n 0, 1)) rfl rfl rfl, ?_⟩
  refine List.forall_mem_cons.mpr ⟨s_iflt C (by decide +kernel : decode c_J3_checkIndex_8e157 1 = .ok (.ifCond .lt 8, 3)) (by decide) rfl rfl rfl, ?_⟩
  refine List.forall_mem_cons.mpr ⟨s_iload_n C (by decide +kernel : decode c_J3_checkIndex_8e157 4 = .ok (.iload_n 0, 1)) rfl rfl rfl, ?_⟩
  refine List.forall_mem_cons.mpr ⟨s_iload_n C (by decide +kernel : decode c_J3_checkIndex_8e157 5 = .ok (.iload_n 1, 1)) rfl rfl rfl, ?_⟩
  refine List.forall_mem_cons.mpr ⟨s_icmplt C (by decide +kernel : decode c_J3_checkIndex_8e157 6 = .ok (.if_icmp .lt 10, 3)) (by decide) rfl rfl rfl, ?_⟩
  refine List.forall_mem_cons.mpr ⟨s_no, ?_⟩
  refine List.forall_mem_cons.mpr ⟨s_no, ?_⟩
  refine List.forall_mem_cons.mpr ⟨s_no, ?_⟩
  refine List.forall_mem_cons.mpr ⟨s_no, ?_⟩
  refine List.forall_mem_cons.mpr ⟨s_no, ?_⟩
  refine List.forall_mem_cons.mpr ⟨s_iload_n C (by decide +kernel : decode c_J3_checkIndex_8e157 16 = .ok (.iload_n 0, 1)) rfl rfl rfl, ?_⟩
  refine List.forall_mem_cons.mpr ⟨s_iret C (by decide +kernel : decode c_J3_checkIndex_8e157 17 = .ok (.ireturn, 1)) hret hlk ⟨Nat.le_refl 0, Nat.le_refl 0⟩, ?_⟩
  exact fun _ h => absurd h List.not_mem_nil
def sp_J0_checkIndex_df160 : em_Sp := fun av hp Q => ∃ i n, av = [.int (nI i), .int (nI n)] ∧ i < n ∧ n < 2 ^ 31 ∧ Q none hp
def T_J0_checkIndex_df160 : List (Nat × em_Op) := [(0, o_iload 0 1), (1, o_iload 1 2), (2, o_getsQ 5), (5, o_call 3 none (sp_J3_checkIndex_8e157) 8), (8, o_pop 9), (9, o_vret)]
theorem me_J0_checkIndex_df160 : em_Me T_J0_checkIndex_df160 2 sp_J0_checkIndex_df160 := by
  intro Q K hK hle av hp hs
  obtain ⟨i, n, rfl, hi, hn, hq⟩ := hs
  exact ⟨Nat.le_of_ble_eq_true rfl, hK 0 9999 0 _ _ _ ⟨⟨i, n, _, rfl, Or.inl rfl, hi, hn, hq⟩, ⟨i, n, _, rfl, Or.inr rfl, hi, hn, hq⟩⟩⟩
abbrev rm_J0_checkIndex_df160 : Room := { frames := 1, cells := 0, slots := 0, locals := 22 }
set_option maxRecDepth 100000 in
set_option maxHeartbeats 4000000 in
theorem ct_J0_checkIndex_df160 (l : Launch) (D : va_G) (dA : Nat → ClassId) (σ : Nat → Nat) : em_CT l D em_cl dA σ (em_F σ) y_J0_checkIndex_df160 c_J0_checkIndex_df160 2 (Option.none : Option ClassFile.FieldType) rm_J0_checkIndex_df160 (sp_J0_checkIndex_df160 ) := by
  refine em_CT_of (T := T_J0_checkIndex_df160 ) (em_F_ok σ) (by decide) (fun p e s m args below meth c A ρ Q C hFok hF hret hlk hin => ?_) (me_J0_checkIndex_df160 )
  unfold T_J0_checkIndex_df160
  refine List.forall_mem_cons.mpr ⟨s_iload_n C (by decide +kernel : decode c_J0_checkIndex_df160 0 = .ok (.iload_n 0, 1)) rfl rfl rfl, ?_⟩
  refine List.forall_mem_cons.mpr ⟨s_iload_n C (by decide +kernel : decode c_J0_checkIndex_df160 1 = .ok (.iload_n 1, 1)) rfl rfl rfl, ?_⟩
  refine List.forall_mem_cons.mpr ⟨s_getsQ C hF (by decide +kernel : decode c_J0_checkIndex_df160 2 = .ok (.getstatic 1053, 3)) rfl rfl ew329, ?_⟩
  refine List.forall_mem_cons.mpr ⟨s_callS C hFok hF (ct_J3_checkIndex_8e157 l D dA σ) ⟨rfl, rfl⟩ ew333 ew331 ew332 ew11 ⟨by decide, by decide, by decide +kernel⟩ ⟨by decide, by decide⟩ (by decide +kernel : decode c_J0_checkIndex_df160 5 = .ok (.invokestatic 1059, 3)) rfl rfl ⟨Nat.zero_le _, Nat.zero_le _⟩, ?_⟩
  refine List.forall_mem_cons.mpr ⟨s_pop C (by decide +kernel : decode c_J0_checkIndex_df160 8 = .ok (.pop, 1)) rfl rfl, ?_⟩
  refine List.forall_mem_cons.mpr ⟨s_vret C (by decide +kernel : decode c_J0_checkIndex_df160 9 = .ok (.return_, 1)) hret hlk ⟨Nat.le_refl 0, Nat.le_refl 0⟩, ?_⟩
  exact fun _ h => absurd h List.not_mem_nil
def sp_J1_charAt_3b067 : em_Sp := fun av hp Q => ∃ k i, av = [.retAddr (5 + k), .int (nI i)] ∧ k < 5 ∧ i < wl k ∧ Q (some (.int (nI (bnN k i)))) hp
def T_J1_charAt_3b067 : List (Nat × em_Op) := [(0, o_iload 1 1), (1, o_aloadX 0 2), (2, o_alenS 3), (3, o_call 2 none (sp_J0_checkIndex_df160) 6), (6, o_aloadX 0 7), (7, o_iload 1 8), (8, o_baldS 9), (9, o_iconst 255 12), (12, o_iand 13), (13, o_i2c 14), (14, o_nret .char)]
theorem me_J1_charAt_3b067 : em_Me T_J1_charAt_3b067 2 sp_J1_charAt_3b067 := by
  intro Q K hK hle av hp hs
  obtain ⟨k, i, rfl, hk, hi, hq⟩ := hs
  have hb := bn_lt k hk i hi
  have hw := wl_le k hk
  have hn : (nI (bnN k i)).toUInt32.toUInt16.toUInt32.toInt32 = nI (bnN k i) := nar_c _ hb
  have hn2 : narrow .char (.int (nI (bnN k i))) = .int (nI (bnN k i)) := congrArg Value.int hn
  rw [← byt_c k hk i hi] at hq hn2
  have hk5 : k = 0 ∨ k = 1 ∨ k = 2 ∨ k = 3 ∨ k = 4 := by omega
  rcases hk5 with rfl | rfl | rfl | rfl | rfl
  all_goals exact ⟨Nat.le_of_ble_eq_true rfl, hK 0 9999 0 _ _ _ ⟨i, _, rfl, hi, by decide, ⟨i, rfl, hi, hn2, hq⟩⟩⟩
abbrev rm_J1_charAt_3b067 : Room := { frames := 2, cells := 0, slots := 0, locals := 43 }
set_option maxRecDepth 100000 in
set_option maxHeartbeats 4000000 in
theorem ct_J1_charAt_3b067 (l : Launch) (D : va_G) (dA : Nat → ClassId) (σ : Nat → Nat) : em_CT l D em_cl dA σ (em_F σ) y_J1_charAt_3b067 c_J1_charAt_3b067 2 (Option.some ClassFile.FieldType.char) rm_J1_charAt_3b067 (sp_J1_charAt_3b067 ) := by
  refine em_CT_of (T := T_J1_charAt_3b067 ) (em_F_ok σ) (by decide) (fun p e s m args below meth c A ρ Q C hFok hF hret hlk hin => ?_) (me_J1_charAt_3b067 )
  unfold T_J1_charAt_3b067
  refine List.forall_mem_cons.mpr ⟨s_iload_n C (by decide +kernel : decode c_J1_charAt_3b067 0 = .ok (.iload_n 1, 1)) rfl rfl rfl, ?_⟩
  refine List.forall_mem_cons.mpr ⟨s_aloadX_n C (by decide +kernel : decode c_J1_charAt_3b067 1 = .ok (.aload_n 0, 1)) rfl rfl rfl, ?_⟩
  refine List.forall_mem_cons.mpr ⟨s_alenS C hF (by decide +kernel : decode c_J1_charAt_3b067 2 = .ok (.arraylength, 1)) rfl rfl, ?_⟩
  refine List.forall_mem_cons.mpr ⟨s_callS C hFok hF (ct_J0_checkIndex_df160 l D dA σ) ⟨rfl, rfl⟩ ew328 ew326 ew327 ew9 ⟨by decide, by decide, by decide +kernel⟩ ⟨by decide, by decide⟩ (by decide +kernel : decode c_J1_charAt_3b067 3 = .ok (.invokestatic 9, 3)) rfl rfl ⟨Nat.zero_le _, Nat.zero_le _⟩, ?_⟩
  refine List.forall_mem_cons.mpr ⟨s_aloadX_n C (by decide +kernel : decode c_J1_charAt_3b067 6 = .ok (.aload_n 0, 1)) rfl rfl rfl, ?_⟩
  refine List.forall_mem_cons.mpr ⟨s_iload_n C (by decide +kernel : decode c_J1_charAt_3b067 7 = .ok (.iload_n 1, 1)) rfl rfl rfl, ?_⟩
  refine List.forall_mem_cons.mpr ⟨s_baldS C hF (by decide +kernel : decode c_J1_charAt_3b067 8 = .ok (.baload, 1)) rfl rfl, ?_⟩
  refine List.forall_mem_cons.mpr ⟨s_sipush C (by decide +kernel : decode c_J1_charAt_3b067 9 = .ok (.sipush 255, 3)) rfl rfl (by decide), ?_⟩
  refine List.forall_mem_cons.mpr ⟨s_iand C (by decide +kernel : decode c_J1_charAt_3b067 12 = .ok (.iand, 1)) rfl rfl, ?_⟩
  refine List.forall_mem_cons.mpr ⟨s_i2c C (by decide +kernel : decode c_J1_charAt_3b067 13 = .ok (.i2c, 1)) rfl rfl, ?_⟩
  refine List.forall_mem_cons.mpr ⟨s_nret C (by decide +kernel : decode c_J1_charAt_3b067 14 = .ok (.ireturn, 1)) hret hlk ⟨Nat.le_refl 0, Nat.le_refl 0⟩, ?_⟩
  exact fun _ h => absurd h List.not_mem_nil
def sp_J0_charAt_5068e : em_Sp := fun av hp Q => ∃ k i, av = [.retAddr k, .int (nI i)] ∧ k < 5 ∧ i < wl k ∧ Q (some (.int (nI (bnN k i)))) hp
def T_J0_charAt_5068e : List (Nat × em_Op) := [(0, o_aloadX 0 1), (1, o_callVS 1 (sp_J0_isLatin1_aae02) 4), (4, o_ifeq 16 7), (7, o_aloadX 0 8), (8, o_getSv 11), (11, o_iload 1 12), (12, o_call 2 none (sp_J1_charAt_3b067) 15), (15, o_nret .char), (16, o_no), (17, o_no), (20, o_no), (21, o_no), (24, o_no)]
theorem me_J0_charAt_5068e : em_Me T_J0_charAt_5068e 2 sp_J0_charAt_5068e := by
  intro Q K hK hle av hp hs
  obtain ⟨k, i, rfl, hk, hi, hq⟩ := hs
  have hb := bn_lt k hk i hi
  have hn : narrow .char (.int (nI (bnN k i))) = .int (nI (bnN k i)) := congrArg Value.int (nar_c _ hb)
  have hk5 : k = 0 ∨ k = 1 ∨ k = 2 ∨ k = 3 ∨ k = 4 := by omega
  rcases hk5 with rfl | rfl | rfl | rfl | rfl
  · exact ⟨Nat.le_of_ble_eq_true rfl, hK 0 9999 0 _ _ _ ⟨_, rfl, hk, fun z => absurd z (by decide), fun _ => ⟨0, i, rfl, hk, hi, hn, hq⟩⟩⟩
  · exact ⟨Nat.le_of_ble_eq_true rfl, hK 0 9999 0 _ _ _ ⟨_, rfl, hk, fun z => absurd z (by decide), fun _ => ⟨1, i, rfl, hk, hi, hn, hq⟩⟩⟩
  · exact ⟨Nat.le_of_ble_eq_true rfl, hK 0 9999 0 _ _ _ ⟨_, rfl, hk, fun z => absurd z (by decide), fun _ => ⟨2, i, rfl, hk, hi, hn, hq⟩⟩⟩
  · exact ⟨Nat.le_of_ble_eq_true rfl, hK 0 9999 0 _ _ _ ⟨_, rfl, hk, fun z => absurd z (by decide), fun _ => ⟨3, i, rfl, hk, hi, hn, hq⟩⟩⟩
  · exact ⟨Nat.le_of_ble_eq_true rfl, hK 0 9999 0 _ _ _ ⟨_, rfl, hk, fun z => absurd z (by decide), fun _ => ⟨4, i, rfl, hk, hi, hn, hq⟩⟩⟩
abbrev rm_J0_charAt_5068e : Room := { frames := 3, cells := 0, slots := 0, locals := 64 }
set_option maxRecDepth 100000 in
set_option maxHeartbeats 4000000 in
theorem ct_J0_charAt_5068e (l : Launch) (D : va_G) (dA : Nat → ClassId) (σ : Nat → Nat) : em_CT l D em_cl dA σ (em_F σ) y_J0_charAt_5068e c_J0_charAt_5068e 2 (Option.some ClassFile.FieldType.char) rm_J0_charAt_5068e (sp_J0_charAt_5068e ) := by
  refine em_CT_of (T := T_J0_charAt_5068e ) (em_F_ok σ) (by decide) (fun p e s m args below meth c A ρ Q C hFok hF hret hlk hin => ?_) (me_J0_charAt_5068e )
  unfold T_J0_charAt_5068e
  refine List.forall_mem_cons.mpr ⟨s_aloadX_n C (by decide +kernel : decode c_J0_charAt_5068e 0 = .ok (.aload_n 0, 1)) rfl rfl rfl, ?_⟩
  refine List.forall_mem_cons.mpr ⟨s_callVS C hFok hF (ct_J0_isLatin1_aae02 l D dA σ) ⟨rfl, rfl⟩ rfl ew322 ew319 ew320 ew321 ew9 ⟨by decide, by decide, by decide +kernel⟩ ⟨by decide, by decide⟩ (by decide +kernel : decode c_J0_charAt_5068e 1 = .ok (.invokevirtual 492, 3)) rfl rfl ⟨Nat.zero_le _, Nat.zero_le _⟩, ?_⟩
  refine List.forall_mem_cons.mpr ⟨s_ifeq C (by decide +kernel : decode c_J0_charAt_5068e 4 = .ok (.ifCond .eq 12, 3)) (by decide) rfl rfl rfl, ?_⟩
  refine List.forall_mem_cons.mpr ⟨s_aloadX_n C (by decide +kernel : decode c_J0_charAt_5068e 7 = .ok (.aload_n 0, 1)) rfl rfl rfl, ?_⟩
  refine List.forall_mem_cons.mpr ⟨s_getSv C hF (by decide +kernel : decode c_J0_charAt_5068e 8 = .ok (.getfield 9, 3)) rfl rfl ew1080, ?_⟩
  refine List.forall_mem_cons.mpr ⟨s_iload_n C (by decide +kernel : decode c_J0_charAt_5068e 11 = .ok (.iload_n 1, 1)) rfl rfl rfl, ?_⟩
  refine List.forall_mem_cons.mpr ⟨s_callS C hFok hF (ct_J1_charAt_3b067 l D dA σ) ⟨rfl, rfl⟩ ew325 ew323 ew324 ew10 ⟨by decide, by decide, by decide +kernel⟩ ⟨by decide, by decide⟩ (by decide +kernel : decode c_J0_charAt_5068e 12 = .ok (.invokestatic 495, 3)) rfl rfl ⟨Nat.zero_le _, Nat.zero_le _⟩, ?_⟩
  refine List.forall_mem_cons.mpr ⟨s_nret C (by decide +kernel : decode c_J0_charAt_5068e 15 = .ok (.ireturn, 1)) hret hlk ⟨Nat.le_refl 0, Nat.le_refl 0⟩, ?_⟩
  refine List.forall_mem_cons.mpr ⟨s_no, ?_⟩
  refine List.forall_mem_cons.mpr ⟨s_no, ?_⟩
  refine List.forall_mem_cons.mpr ⟨s_no, ?_⟩
  refine List.forall_mem_cons.mpr ⟨s_no, ?_⟩
  refine List.forall_mem_cons.mpr ⟨s_no, ?_⟩
  exact fun _ h => absurd h List.not_mem_nil
/-- is what stands from s to e the k-th constant -/
def isW (C : Nat → Nat) (L s e k : Nat) : Bool := decide (e - s = wl k ∧ ∀ i, i < wl k → s + i < L ∧ C (s + i) = bnN k i)
theorem atC_eq {C : Nat → Nat} {L i c : Nat} (hC : ∀ j, C j < 128) (hc : c < 128) : atC C L i = nI c ↔ (i < L ∧ C i = c) := by
  have h := hC i
  unfold atC
  by_cases z : i < L
  · rw [if_pos z, nI_eq (by omega) (by omega)]
    exact ⟨fun q => ⟨z, q⟩, fun q => q.2⟩
  · rw [if_neg z]
    exact ⟨fun q => absurd q.symm (nI_m1 (by omega)), fun q => absurd q.1 z⟩
def sp_X8_isWord : em_Sp := fun av hp Q => ∃ by9 tln tst ten C L s e k, av = [.ref 0, .retAddr k] ∧ hp = (wY by9 tln tst ten) ∧ TY by9 tln C L ∧ tst = nI s ∧ ten = nI e ∧ s ≤ e ∧ e ≤ 200 ∧ k < 5 ∧ Q (some (.int (b1 (isW C L s e k)))) hp
def T_X8_isWord : List (Nat × em_Op) := [(0, o_aload 0 1), (1, o_getf 3 3 4), (4, o_aload 0 5), (5, o_getf 3 2 8), (8, o_isub 9), (9, o_aloadX 1 10), (10, o_callVS 1 (sp_J0_length_8abf5) 13), (13, o_icmpeq 18 16), (16, o_iconst 0 17), (17, o_zret), (18, o_iconst 0 19), (19, o_istore 2 20), (20, o_iload 2 21), (21, o_aloadX 1 22), (22, o_callVS 1 (sp_J0_length_8abf5) 25), (25, o_icmpge 54 28), (28, o_aload 0 29), (29, o_aload 0 30), (30, o_getf 3 2 33), (33, o_iload 2 34), (34, o_iadd 35), (35, o_call 2 (some 3) (sp_X8_at) 38), (38, o_aloadX 1 39), (39, o_iload 2 40), (40, o_callVS 2 (sp_J0_charAt_5068e) 43), (43, o_icmpeq 48 46), (46, o_iconst 0 47), (47, o_zret), (48, o_iinc 2 1 51), (51, o_goto 20), (54, o_iconst 1 55), (55, o_zret)]
theorem me_X8_isWord : em_Me T_X8_isWord 3 sp_X8_isWord := by
  intro Q K hK hle av hp hs
  obtain ⟨by9, tln, tst, ten, C, L, s, e, k, rfl, rfl, hT, rfl, rfl, hse, he, hk, hq⟩ := hs
  have hL := hT.2.2.1
  have hC := hT.2.2.2
  have hw := wl_le k hk
  have hk5 : k = 0 ∨ k = 1 ∨ k = 2 ∨ k = 3 ∨ k = 4 := by omega
  have es : nI e - nI s = nI (e - s) := pk_sub hse
  have no : ¬ (e - s = wl k ∧ ∀ i, i < wl k → s + i < L ∧ C (s + i) = bnN k i) → Q (some (.int 0)) (wY by9 tln (nI s) (nI e)) := by
    intro h
    rw [isW, decide_eq_false h] at hq
    exact hq
  refine ⟨Nat.le_of_ble_eq_true rfl, ?_⟩
  have s0 : (nI e - nI s = nI (wl k) → K 18 [some (.ref 0), some (.retAddr k), none] [] (wY by9 tln (nI s) (nI e))) → (¬ nI e - nI s = nI (wl k) → K 16 [some (.ref 0), some (.retAddr k), none] [] (wY by9 tln (nI s) (nI e))) → K 0 [some (.ref 0), some (.retAddr k), none] [] (wY by9 tln (nI s) (nI e)) := by
    intro h1 h2
    rcases hk5 with rfl | rfl | rfl | rfl | rfl
    all_goals exact hK 0 8 0 _ _ _ ⟨_, rfl, hk, h1, h2⟩
  have s20 : ∀ i, (nI (wl k) ≤ nI i → K 54 [some (.ref 0), some (.retAddr k), some (.int (nI i))] [] (wY by9 tln (nI s) (nI e))) → (¬ nI (wl k) ≤ nI i → K 28 [some (.ref 0), some (.retAddr k), some (.int (nI i))] [] (wY by9 tln (nI s) (nI e))) → K 20 [some (.ref 0), some (.retAddr k), some (.int (nI i))] [] (wY by9 tln (nI s) (nI e)) := by
    intro i h1 h2
    rcases hk5 with rfl | rfl | rfl | rfl | rfl
    all_goals exact hK 12 4 20 _ _ _ ⟨_, rfl, hk, h1, h2⟩
  have s28 : ∀ i, i < wl k → (atC C L (s + i) = nI (bnN k i) → K 48 [some (.ref 0), some (.retAddr k), some (.int (nI i))] [] (wY by9 tln (nI s) (nI e))) → (¬ atC C L (s + i) = nI (bnN k i) → K 46 [some (.ref 0), some (.retAddr k), some (.int (nI i))] [] (wY by9 tln (nI s) (nI e))) → K 28 [some (.ref 0), some (.retAddr k), some (.int (nI i))] [] (wY by9 tln (nI s) (nI e)) := by
    intro i hi h1 h2
    rcases hk5 with rfl | rfl | rfl | rfl | rfl
    all_goals exact hK 16 10 28 _ _ _ ⟨_, _, _, _, C, L, s + i, congrArg (fun z => [Value.ref 0, Value.int z]) (nI_add s i), rfl, hT, by omega, ⟨_, i, rfl, hk, hi, h1, h2⟩⟩
  have loop : e - s = wl k → ∀ (r i : Nat), i + r = wl k → (∀ j, j < i → s + j < L ∧ C (s + j) = bnN k j) → K 20 [some (.ref 0), some (.retAddr k), some (.int (nI i))] [] (wY by9 tln (nI s) (nI e)) := by
    intro hl r
    induction r with
    | zero =>
      intro i hi h
      have hi : i = wl k := by omega
      subst hi
      have hq1 : Q (some (.int 1)) (wY by9 tln (nI s) (nI e)) := by
        rw [isW, decide_eq_true ⟨hl, h⟩] at hq
        exact hq
      exact s20 _ (fun _ => hK 30 9999 54 _ _ _ ⟨Or.inr rfl, hq1⟩) (fun z => absurd (nI_le (Nat.le_refl _) (by omega)) z)
    | succ r ih =>
      intro i hi h
      refine s20 i (fun z => absurd z (nI_ge (by omega) (by omega))) (fun _ => s28 i (by omega) (fun z => ?_) (fun z => ?_))
      · have z := (atC_eq hC (bn_lt k hk i (by omega))).mp z
        have := ih (i + 1) (by omega) (fun j hj => by
          rcases Nat.lt_or_ge j i with q | q
          · exact h j q
          · have : j = i := by omega
            subst this
            exact z)
        rw [← nI_1 i] at this
        exact hK 28 2 48 _ _ _ this
      · exact hK 26 2 46 _ _ _ ⟨Or.inl rfl, no (fun q => z ((atC_eq hC (bn_lt k hk i (by omega))).mpr (q.2 i (by omega))))⟩
  refine s0 (fun z => ?_) (fun z => ?_)
  · rw [es] at z
    have z : e - s = wl k := (nI_eq (by omega) (by omega)).mp z
    exact hK 10 2 18 _ _ _ (loop z (wl k) 0 (by omega) (fun j hj => by omega))
  · rw [es] at z
    exact hK 8 2 16 _ _ _ ⟨Or.inl rfl, no (fun q => z (by rw [q.1]))⟩
abbrev rm_X8_isWord : Room := { frames := 4, cells := 0, slots := 0, locals := 85 }
set_option maxRecDepth 100000 in
set_option maxHeartbeats 4000000 in
theorem ct_X8_isWord (l : Launch) (D : va_G) (dA : Nat → ClassId) (σ : Nat → Nat) : em_CT l D em_cl dA σ (em_F σ) y_X8_isWord c_X8_isWord 3 (Option.some ClassFile.FieldType.boolean) rm_X8_isWord (sp_X8_isWord ) := by
  refine em_CT_of (T := T_X8_isWord ) (em_F_ok σ) (by decide) (fun p e s m args below meth c A ρ Q C hFok hF hret hlk hin => ?_) (me_X8_isWord )
  unfold T_X8_isWord
  refine List.forall_mem_cons.mpr ⟨s_aload_n C (by decide +kernel : decode c_X8_isWord 0 = .ok (.aload_n 0, 1)) rfl rfl rfl, ?_⟩
  refine List.forall_mem_cons.mpr ⟨s_getf C (by decide +kernel : decode c_X8_isWord 1 = .ok (.getfield 19, 3)) rfl rfl em_cl_X8 (by decide) ew37 rfl, ?_⟩
  refine List.forall_mem_cons.mpr ⟨s_aload_n C (by decide +kernel : decode c_X8_isWord 4 = .ok (.aload_n 0, 1)) rfl rfl rfl, ?_⟩
  refine List.forall_mem_cons.mpr ⟨s_getf C (by decide +kernel : decode c_X8_isWord 5 = .ok (.getfield 25, 3)) rfl rfl em_cl_X8 (by decide) ew36 rfl, ?_⟩
  refine List.forall_mem_cons.mpr ⟨s_isub C (by decide +kernel : decode c_X8_isWord 8 = .ok (.isub, 1)) rfl rfl, ?_⟩
  refine List.forall_mem_cons.mpr ⟨s_aloadX_n C (by decide +kernel : decode c_X8_isWord 9 = .ok (.aload_n 1, 1)) rfl rfl rfl, ?_⟩
  refine List.forall_mem_cons.mpr ⟨s_callVS C hFok hF (ct_J0_length_8abf5 l D dA σ) ⟨rfl, rfl⟩ rfl ew308 ew305 ew306 ew307 ew9 ⟨by decide, by decide, by decide +kernel⟩ ⟨by decide, by decide⟩ (by decide +kernel : decode c_X8_isWord 10 = .ok (.invokevirtual 83, 3)) rfl rfl ⟨Nat.zero_le _, Nat.zero_le _⟩, ?_⟩
  refine List.forall_mem_cons.mpr ⟨s_icmpeq C (by decide +kernel : decode c_X8_isWord 13 = .ok (.if_icmp .eq 5, 3)) (by decide) rfl rfl rfl, ?_⟩
  refine List.forall_mem_cons.mpr ⟨s_iconst C (by decide +kernel : decode c_X8_isWord 16 = .ok (.iconst 0, 1)) rfl rfl (by decide), ?_⟩
  refine List.forall_mem_cons.mpr ⟨s_zret C (by decide +kernel : decode c_X8_isWord 17 = .ok (.ireturn, 1)) hret hlk ⟨Nat.le_refl 0, Nat.le_refl 0⟩, ?_⟩
  refine List.forall_mem_cons.mpr ⟨s_iconst C (by decide +kernel : decode c_X8_isWord 18 = .ok (.iconst 0, 1)) rfl rfl (by decide), ?_⟩
  refine List.forall_mem_cons.mpr ⟨s_istore_n C (by decide +kernel : decode c_X8_isWord 19 = .ok (.istore_n 2, 1)) rfl rfl rfl (by decide), ?_⟩
  refine List.forall_mem_cons.mpr ⟨s_iload_n C (by decide +kernel : decode c_X8_isWord 20 = .ok (.iload_n 2, 1)) rfl rfl rfl, ?_⟩
  refine List.forall_mem_cons.mpr ⟨s_aloadX_n C (by decide +kernel : decode c_X8_isWord 21 = .ok (.aload_n 1, 1)) rfl rfl rfl, ?_⟩
  refine List.forall_mem_cons.mpr ⟨s_callVS C hFok hF (ct_J0_length_8abf5 l D dA σ) ⟨rfl, rfl⟩ rfl ew308 ew305 ew306 ew307 ew9 ⟨by decide, by decide, by decide +kernel⟩ ⟨by decide, by decide⟩ (by decide +kernel : decode c_X8_isWord 22 = .ok (.invokevirtual 83, 3)) rfl rfl ⟨Nat.zero_le _, Nat.zero_le _⟩, ?_⟩
  refine List.forall_mem_cons.mpr ⟨s_icmpge C (by decide +kernel : decode c_X8_isWord 25 = .ok (.if_icmp .ge 29, 3)) (by decide) rfl rfl rfl, ?_⟩
  refine List.forall_mem_cons.mpr ⟨s_aload_n C (by decide +kernel : decode c_X8_isWord 28 = .ok (.aload_n 0, 1)) rfl rfl rfl, ?_⟩
  refine List.forall_mem_cons.mpr ⟨s_aload_n C (by decide +kernel : decode c_X8_isWord 29 = .ok (.aload_n 0, 1)) rfl rfl rfl, ?_⟩
  refine List.forall_mem_cons.mpr ⟨s_getf C (by decide +kernel : decode c_X8_isWord 30 = .ok (.getfield 25, 3)) rfl rfl em_cl_X8 (by decide) ew36 rfl, ?_⟩
  refine List.forall_mem_cons.mpr ⟨s_iload_n C (by decide +kernel : decode c_X8_isWord 33 = .ok (.iload_n 2, 1)) rfl rfl rfl, ?_⟩
  refine List.forall_mem_cons.mpr ⟨s_iadd C (by decide +kernel : decode c_X8_isWord 34 = .ok (.iadd, 1)) rfl rfl, ?_⟩
  refine List.forall_mem_cons.mpr ⟨s_callV C hFok hF (ct_X8_at l D dA σ) ⟨rfl, rfl⟩ ew287 em_cl_X8 ew284 ew286 ewp3 ew2 ⟨by decide, by decide, by decide +kernel⟩ ⟨by decide, by decide⟩ (by decide +kernel : decode c_X8_isWord 35 = .ok (.invokevirtual 71, 3)) rfl rfl ⟨Nat.zero_le _, Nat.zero_le _⟩, ?_⟩
  refine List.forall_mem_cons.mpr ⟨s_aloadX_n C (by decide +kernel : decode c_X8_isWord 38 = .ok (.aload_n 1, 1)) rfl rfl rfl, ?_⟩
  refine List.forall_mem_cons.mpr ⟨s_iload_n C (by decide +kernel : decode c_X8_isWord 39 = .ok (.iload_n 2, 1)) rfl rfl rfl, ?_⟩
  refine List.forall_mem_cons.mpr ⟨s_callVS C hFok hF (ct_J0_charAt_5068e l D dA σ) ⟨rfl, rfl⟩ rfl ew318 ew315 ew316 ew317 ew9 ⟨by decide, by decide, by decide +kernel⟩ ⟨by decide, by decide⟩ (by decide +kernel : decode c_X8_isWord 40 = .ok (.invokevirtual 87, 3)) rfl rfl ⟨Nat.zero_le _, Nat.zero_le _⟩, ?_⟩
  refine List.forall_mem_cons.mpr ⟨s_icmpeq C (by decide +kernel : decode c_X8_isWord 43 = .ok (.if_icmp .eq 5, 3)) (by decide) rfl rfl rfl, ?_⟩
  refine List.forall_mem_cons.mpr ⟨s_iconst C (by decide +kernel : decode c_X8_isWord 46 = .ok (.iconst 0, 1)) rfl rfl (by decide), ?_⟩
  refine List.forall_mem_cons.mpr ⟨s_zret C (by decide +kernel : decode c_X8_isWord 47 = .ok (.ireturn, 1)) hret hlk ⟨Nat.le_refl 0, Nat.le_refl 0⟩, ?_⟩
  refine List.forall_mem_cons.mpr ⟨s_iinc C (by decide +kernel : decode c_X8_isWord 48 = .ok (.iinc 2 1, 3)) rfl rfl (by decide) (by decide), ?_⟩
  refine List.forall_mem_cons.mpr ⟨s_goto C (by decide +kernel : decode c_X8_isWord 51 = .ok (.goto (-31), 3)) (by decide) rfl, ?_⟩
  refine List.forall_mem_cons.mpr ⟨s_iconst C (by decide +kernel : decode c_X8_isWord 54 = .ok (.iconst 1, 1)) rfl rfl (by decide), ?_⟩
  refine List.forall_mem_cons.mpr ⟨s_zret C (by decide +kernel : decode c_X8_isWord 55 = .ok (.ireturn, 1)) hret hlk ⟨Nat.le_refl 0, Nat.le_refl 0⟩, ?_⟩
  exact fun _ h => absurd h List.not_mem_nil
