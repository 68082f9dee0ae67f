/-! ===== Town: its world; what only reads ===== -/
def wT (pe : Int32) (ki : Nat → Int32) (mi se : Int64) (we lea mst pa : Int32) (fi sd : Nat → Int32) (ev un : Int32) (ma : Nat → Int64) (ea : Nat → Int32) (co : Int32) (ca clt : Nat → Int32) : em_H :=
  [.inr (2, [.int pe, .ref 1, .long mi, .long se, .int we, .int lea, .int mst, .int pa, .ref 2, .ref 3, .int ev, .int un, .ref 4, .ref 5, .int co, .ref 6, .ref 7]), .inl (0, 6, .inl ki), .inl (0, 8, .inl fi), .inl (0, 8, .inl sd), .inl (1, 12, .inr (.inl ma)), .inl (0, 12, .inl ea), .inl (0, 10, .inl ca), .inl (3, 10, .inl clt)]
def hs (pe p : Int32) : Prop := ¬ p < 0 ∧ ¬ pe ≤ p
def sp_X7_has : em_Sp := fun av hp Q => ∃ pe ki mi se we lea mst pa fi sd ev un ma ea co ca clt p, av = [.ref 0, .int p] ∧ hp = (wT pe ki mi se we lea mst pa fi sd ev un ma ea co ca clt) ∧ (hs pe p → Q (some (.int 1)) hp) ∧ (¬ hs pe p → Q (some (.int 0)) hp)
def T_X7_has : List (Nat × em_Op) := [(0, o_iload 1 1), (1, o_iflt 16 4), (4, o_iload 1 5), (5, o_aload 0 6), (6, o_getf 2 0 9), (9, o_icmpge 16 12), (12, o_iconst 1 13), (13, o_goto 17), (16, o_iconst 0 17), (17, o_zret)]
theorem me_X7_has : em_Me T_X7_has 2 sp_X7_has := by
  intro Q K hK hle av hp hs
  obtain ⟨pe, ki, mi, se, we, lea, mst, pa, fi, sd, ev, un, ma, ea, co, ca, clt, p, rfl, rfl, h1, h0⟩ := hs
  refine ⟨Nat.le_of_ble_eq_true rfl, hK 0 99 0 _ _ _ ?_⟩
  exact ⟨fun h => ⟨Or.inl rfl, h0 (fun z => z.1 h)⟩, fun h => ⟨fun h2 => ⟨Or.inl rfl, h0 (fun z => z.2 h2)⟩, fun h2 => ⟨Or.inr rfl, h1 ⟨h, h2⟩⟩⟩⟩
abbrev rm_X7_has : Room := { frames := 0, cells := 0, slots := 0, locals := 0 }
set_option maxRecDepth 100000 in
set_option maxHeartbeats 4000000 in
theorem ct_X7_has (l : Launch) (D : va_G) (dA : Nat → ClassId) (σ : Nat → Nat) : em_CT l D em_cl dA σ (em_F σ) y_X7_has c_X7_has 2 (Option.some ClassFile.FieldType.boolean) rm_X7_has (sp_X7_has ) := by
  refine em_CT_of (T := T_X7_has ) (em_F_ok σ) (by decide) (fun p e s m args below meth c A ρ Q C hFok hF hret hlk hin => ?_) (me_X7_has )
  unfold T_X7_has
  refine List.forall_mem_cons.mpr ⟨s_iload_n C (by decide +kernel : decode c_X7_has 0 = .ok (.iload_n 1, 1)) rfl rfl rfl, ?_⟩
  refine List.forall_mem_cons.mpr ⟨s_iflt C (by decide +kernel : decode c_X7_has 1 = .ok (.ifCond .lt 15, 3)) (by decide) rfl rfl rfl, ?_⟩
  refine List.forall_mem_cons.mpr ⟨s_iload_n C (by decide +kernel : decode c_X7_has 4 = .ok (.iload_n 1, 1)) rfl rfl rfl, ?_⟩
  refine List.forall_mem_cons.mpr ⟨s_aload_n C (by decide +kernel : decode c_X7_has 5 = .ok (.aload_n 0, 1)) rfl rfl rfl, ?_⟩
  refine List.forall_mem_cons.mpr ⟨s_getf C (by decide +kernel : decode c_X7_has 6 = .ok (.getfield 38, 3)) rfl rfl em_cl_X7 (by decide) ew85 rfl, ?_⟩
  refine List.forall_mem_cons.mpr ⟨s_icmpge C (by decide +kernel : decode c_X7_has 9 = .ok (.if_icmp .ge 7, 3)) (by decide) rfl rfl rfl, ?_⟩
  refine List.forall_mem_cons.mpr ⟨s_iconst C (by decide +kernel : decode c_X7_has 12 = .ok (.iconst 1, 1)) rfl rfl (by decide), ?_⟩
  refine List.forall_mem_cons.mpr ⟨s_goto C (by decide +kernel : decode c_X7_has 13 = .ok (.goto 4, 3)) (by decide) rfl, ?_⟩
  refine List.forall_mem_cons.mpr ⟨s_iconst C (by decide +kernel : decode c_X7_has 16 = .ok (.iconst 0, 1)) rfl rfl (by decide), ?_⟩
  refine List.forall_mem_cons.mpr ⟨s_zret C (by decide +kernel : decode c_X7_has 17 = .ok (.ireturn, 1)) hret hlk ⟨Nat.le_refl 0, Nat.le_refl 0⟩, ?_⟩
  exact fun _ h => absurd h List.not_mem_nil
def h2 (pe a b : Int32) : Prop := hs pe a ∧ hs pe b ∧ a ≠ b
def sp_X7_hasTwo : em_Sp := fun av hp Q => ∃ pe ki mi se we lea mst pa fi sd ev un ma ea co ca clt a b, av = [.ref 0, .int a, .int b] ∧ hp = (wT pe ki mi se we lea mst pa fi sd ev un ma ea co ca clt) ∧ (h2 pe a b → Q (some (.int 1)) hp) ∧ (¬ h2 pe a b → Q (some (.int 0)) hp)
def T_X7_hasTwo : List (Nat × em_Op) := [(0, o_aload 0 1), (1, o_iload 1 2), (2, o_call 2 (some 2) (sp_X7_has) 5), (5, o_ifeq 25 8), (8, o_aload 0 9), (9, o_iload 2 10), (10, o_call 2 (some 2) (sp_X7_has) 13), (13, o_ifeq 25 16), (16, o_iload 1 17), (17, o_iload 2 18), (18, o_icmpeq 25 21), (21, o_iconst 1 22), (22, o_goto 26), (25, o_iconst 0 26), (26, o_zret)]
theorem me_X7_hasTwo : em_Me T_X7_hasTwo 3 sp_X7_hasTwo := by
  intro Q K hK hle av hp hs
  obtain ⟨pe, ki, mi, se, we, lea, mst, pa, fi, sd, ev, un, ma, ea, co, ca, clt, a, b, rfl, rfl, h1, h0⟩ := hs
  refine ⟨Nat.le_of_ble_eq_true rfl, hK 0 99 0 _ _ _ ?_⟩
  refine ⟨_, _, _, _, _, _, _, _, _, _, _, _, _, _, _, _, _, _, rfl, rfl, fun z1 => ?_, fun z1 => ?_⟩
  · refine ⟨fun z => absurd z (by decide), fun _ => ?_⟩
    refine ⟨_, _, _, _, _, _, _, _, _, _, _, _, _, _, _, _, _, _, rfl, rfl, fun z2 => ?_, fun z2 => ?_⟩
    · refine ⟨fun z => absurd z (by decide), fun _ => ?_⟩
      exact ⟨fun z => ⟨Or.inl rfl, h0 (fun y => y.2.2 z)⟩, fun z => ⟨Or.inr rfl, h1 ⟨z1, z2, z⟩⟩⟩
    · exact ⟨fun _ => ⟨Or.inl rfl, h0 (fun y => z2 y.2.1)⟩, fun z => absurd z (by decide)⟩
  · exact ⟨fun _ => ⟨Or.inl rfl, h0 (fun y => z1 y.1)⟩, fun z => absurd z (by decide)⟩
abbrev rm_X7_hasTwo : Room := { frames := 1, cells := 0, slots := 0, locals := 21 }
set_option maxRecDepth 100000 in
set_option maxHeartbeats 4000000 in
theorem ct_X7_hasTwo (l : Launch) (D : va_G) (dA : Nat → ClassId) (σ : Nat → Nat) : em_CT l D em_cl dA σ (em_F σ) y_X7_hasTwo c_X7_hasTwo 3 (Option.some ClassFile.FieldType.boolean) rm_X7_hasTwo (sp_X7_hasTwo ) := by
  refine em_CT_of (T := T_X7_hasTwo ) (em_F_ok σ) (by decide) (fun p e s m args below meth c A ρ Q C hFok hF hret hlk hin => ?_) (me_X7_hasTwo )
  unfold T_X7_hasTwo
  refine List.forall_mem_cons.mpr ⟨s_aload_n C (by decide +kernel : decode c_X7_hasTwo 0 = .ok (.aload_n 0, 1)) rfl rfl rfl, ?_⟩
  refine List.forall_mem_cons.mpr ⟨s_iload_n C (by decide +kernel : decode c_X7_hasTwo 1 = .ok (.iload_n 1, 1)) rfl rfl rfl, ?_⟩
  refine List.forall_mem_cons.mpr ⟨s_callV C hFok hF (ct_X7_has l D dA σ) ⟨rfl, rfl⟩ ew208 em_cl_X7 ew226 ew206 ew207 ew5 ⟨by decide, by decide, by decide +kernel⟩ ⟨by decide, by decide⟩ (by decide +kernel : decode c_X7_hasTwo 2 = .ok (.invokevirtual 76, 3)) rfl rfl ⟨Nat.zero_le _, Nat.zero_le _⟩, ?_⟩
  refine List.forall_mem_cons.mpr ⟨s_ifeq C (by decide +kernel : decode c_X7_hasTwo 5 = .ok (.ifCond .eq 20, 3)) (by decide) rfl rfl rfl, ?_⟩
  refine List.forall_mem_cons.mpr ⟨s_aload_n C (by decide +kernel : decode c_X7_hasTwo 8 = .ok (.aload_n 0, 1)) rfl rfl rfl, ?_⟩
  refine List.forall_mem_cons.mpr ⟨s_iload_n C (by decide +kernel : decode c_X7_hasTwo 9 = .ok (.iload_n 2, 1)) rfl rfl rfl, ?_⟩
  refine List.forall_mem_cons.mpr ⟨s_callV C hFok hF (ct_X7_has l D dA σ) ⟨rfl, rfl⟩ ew208 em_cl_X7 ew226 ew206 ew207 ew5 ⟨by decide, by decide, by decide +kernel⟩ ⟨by decide, by decide⟩ (by decide +kernel : decode c_X7_hasTwo 10 = .ok (.invokevirtual 76, 3)) rfl rfl ⟨Nat.zero_le _, Nat.zero_le _⟩, ?_⟩
  refine List.forall_mem_cons.mpr ⟨s_ifeq C (by decide +kernel : decode c_X7_hasTwo 13 = .ok (.ifCond .eq 12, 3)) (by decide) rfl rfl rfl, ?_⟩
  refine List.forall_mem_cons.mpr ⟨s_iload_n C (by decide +kernel : decode c_X7_hasTwo 16 = .ok (.iload_n 1, 1)) rfl rfl rfl, ?_⟩
  refine List.forall_mem_cons.mpr ⟨s_iload_n C (by decide +kernel : decode c_X7_hasTwo 17 = .ok (.iload_n 2, 1)) rfl rfl rfl, ?_⟩
  refine List.forall_mem_cons.mpr ⟨s_icmpeq C (by decide +kernel : decode c_X7_hasTwo 18 = .ok (.if_icmp .eq 7, 3)) (by decide) rfl rfl rfl, ?_⟩
  refine List.forall_mem_cons.mpr ⟨s_iconst C (by decide +kernel : decode c_X7_hasTwo 21 = .ok (.iconst 1, 1)) rfl rfl (by decide), ?_⟩
  refine List.forall_mem_cons.mpr ⟨s_goto C (by decide +kernel : decode c_X7_hasTwo 22 = .ok (.goto 4, 3)) (by decide) rfl, ?_⟩
  refine List.forall_mem_cons.mpr ⟨s_iconst C (by decide +kernel : decode c_X7_hasTwo 25 = .ok (.iconst 0, 1)) rfl rfl (by decide), ?_⟩
  refine List.forall_mem_cons.mpr ⟨s_zret C (by decide +kernel : decode c_X7_hasTwo 26 = .ok (.ireturn, 1)) hret hlk ⟨Nat.le_refl 0, Nat.le_refl 0⟩, ?_⟩
  exact fun _ h => absurd h List.not_mem_nil
def dst (we x y : Int32) : Int32 := bcI (x ^^^ y) + bcI ((x ^^^ y) &&& we)
def sp_X7_distance : em_Sp := fun av hp Q => ∃ pe ki mi se we lea mst pa fi sd ev un ma ea co ca clt x y, av = [.ref 0, .int x, .int y] ∧ hp = (wT pe ki mi se we lea mst pa fi sd ev un ma ea co ca clt) ∧ Q (some (.int (dst we x y))) hp
def T_X7_distance : List (Nat × em_Op) := [(0, o_iload 1 1), (1, o_iload 2 2), (2, o_ixor 3), (3, o_istore 3 4), (4, o_iload 3 5), (5, o_call 1 none (sp_J6_bitCount_0f7a4) 8), (8, o_iload 3 9), (9, o_aload 0 10), (10, o_getf 2 4 13), (13, o_iand 14), (14, o_call 1 none (sp_J6_bitCount_0f7a4) 17), (17, o_iadd 18), (18, o_iret)]
theorem me_X7_distance : em_Me T_X7_distance 4 sp_X7_distance := by
  intro Q K hK hle av hp hs
  obtain ⟨pe, ki, mi, se, we, lea, mst, pa, fi, sd, ev, un, ma, ea, co, ca, clt, x, y, rfl, rfl, hq⟩ := hs
  exact ⟨Nat.le_of_ble_eq_true rfl, hK 0 99 0 _ _ _ ⟨_, rfl, _, rfl, hq⟩⟩
abbrev rm_X7_distance : Room := { frames := 1, cells := 0, slots := 0, locals := 20 }
set_option maxRecDepth 100000 in
set_option maxHeartbeats 4000000 in
theorem ct_X7_distance (l : Launch) (D : va_G) (dA : Nat → ClassId) (σ : Nat → Nat) : em_CT l D em_cl dA σ (em_F σ) y_X7_distance c_X7_distance 4 (Option.some ClassFile.FieldType.int) rm_X7_distance (sp_X7_distance ) := by
  refine em_CT_of (T := T_X7_distance ) (em_F_ok σ) (by decide) (fun p e s m args below meth c A ρ Q C hFok hF hret hlk hin => ?_) (me_X7_distance )
  unfold T_X7_distance
  refine List.forall_mem_cons.mpr ⟨s_iload_n C (by decide +kernel : decode c_X7_distance 0 = .ok (.iload_n 1, 1)) rfl rfl rfl, ?_⟩
  refine List.forall_mem_cons.mpr ⟨s_iload_n C (by decide +kernel : decode c_X7_distance 1 = .ok (.iload_n 2, 1)) rfl rfl rfl, ?_⟩
  refine List.forall_mem_cons.mpr ⟨s_ixor C (by decide +kernel : decode c_X7_distance 2 = .ok (.ixor, 1)) rfl rfl, ?_⟩
  refine List.forall_mem_cons.mpr ⟨s_istore_n C (by decide +kernel : decode c_X7_distance 3 = .ok (.istore_n 3, 1)) rfl rfl rfl (by decide), ?_⟩
  refine List.forall_mem_cons.mpr ⟨s_iload_n C (by decide +kernel : decode c_X7_distance 4 = .ok (.iload_n 3, 1)) rfl rfl rfl, ?_⟩
  refine List.forall_mem_cons.mpr ⟨s_callS C hFok hF (ct_J6_bitCount_0f7a4 l D dA σ) ⟨rfl, rfl⟩ ew393 ew391 ew392 ew13 ⟨by decide, by decide, by decide +kernel⟩ ⟨by decide, by decide⟩ (by decide +kernel : decode c_X7_distance 5 = .ok (.invokestatic 102, 3)) rfl rfl ⟨Nat.zero_le _, Nat.zero_le _⟩, ?_⟩
  refine List.forall_mem_cons.mpr ⟨s_iload_n C (by decide +kernel : decode c_X7_distance 8 = .ok (.iload_n 3, 1)) rfl rfl rfl, ?_⟩
  refine List.forall_mem_cons.mpr ⟨s_aload_n C (by decide +kernel : decode c_X7_distance 9 = .ok (.aload_n 0, 1)) rfl rfl rfl, ?_⟩
  refine List.forall_mem_cons.mpr ⟨s_getf C (by decide +kernel : decode c_X7_distance 10 = .ok (.getfield 49, 3)) rfl rfl em_cl_X7 (by decide) ew97 rfl, ?_⟩
  refine List.forall_mem_cons.mpr ⟨s_iand C (by decide +kernel : decode c_X7_distance 13 = .ok (.iand, 1)) rfl rfl, ?_⟩
  refine List.forall_mem_cons.mpr ⟨s_callS C hFok hF (ct_J6_bitCount_0f7a4 l D dA σ) ⟨rfl, rfl⟩ ew393 ew391 ew392 ew13 ⟨by decide, by decide, by decide +kernel⟩ ⟨by decide, by decide⟩ (by decide +kernel : decode c_X7_distance 14 = .ok (.invokestatic 102, 3)) rfl rfl ⟨Nat.zero_le _, Nat.zero_le _⟩, ?_⟩
  refine List.forall_mem_cons.mpr ⟨s_iadd C (by decide +kernel : decode c_X7_distance 17 = .ok (.iadd, 1)) rfl rfl, ?_⟩
  refine List.forall_mem_cons.mpr ⟨s_iret C (by decide +kernel : decode c_X7_distance 18 = .ok (.ireturn, 1)) hret hlk ⟨Nat.le_refl 0, Nat.le_refl 0⟩, ?_⟩
  exact fun _ h => absurd h List.not_mem_nil
def lic (lea mst d : Int32) : Prop := ¬ d < lea ∧ ¬ mst < d
def sp_X7_isLicensed : em_Sp := fun av hp Q => ∃ pe ki mi se we lea mst pa fi sd ev un ma ea co ca clt d, av = [.ref 0, .int d] ∧ hp = (wT pe ki mi se we lea mst pa fi sd ev un ma ea co ca clt) ∧ (lic lea mst d → Q (some (.int 1)) hp) ∧ (¬ lic lea mst d → Q (some (.int 0)) hp)
def T_X7_isLicensed : List (Nat × em_Op) := [(0, o_iload 1 1), (1, o_aload 0 2), (2, o_getf 2 5 5), (5, o_icmplt 20 8), (8, o_iload 1 9), (9, o_aload 0 10), (10, o_getf 2 6 13), (13, o_icmpgt 20 16), (16, o_iconst 1 17), (17, o_goto 21), (20, o_iconst 0 21), (21, o_zret)]
theorem me_X7_isLicensed : em_Me T_X7_isLicensed 2 sp_X7_isLicensed := by
  intro Q K hK hle av hp hs
  obtain ⟨pe, ki, mi, se, we, lea, mst, pa, fi, sd, ev, un, ma, ea, co, ca, clt, d, rfl, rfl, h1, h0⟩ := hs
  refine ⟨Nat.le_of_ble_eq_true rfl, hK 0 99 0 _ _ _ ?_⟩
  exact ⟨fun h => ⟨Or.inl rfl, h0 (fun z => z.1 h)⟩, fun h => ⟨fun h2 => ⟨Or.inl rfl, h0 (fun z => z.2 h2)⟩, fun h2 => ⟨Or.inr rfl, h1 ⟨h, h2⟩⟩⟩⟩
abbrev rm_X7_isLicensed : Room := { frames := 0, cells := 0, slots := 0, locals := 0 }
set_option maxRecDepth 100000 in
set_option maxHeartbeats 4000000 in
theorem ct_X7_isLicensed (l : Launch) (D : va_G) (dA : Nat → ClassId) (σ : Nat → Nat) : em_CT l D em_cl dA σ (em_F σ) y_X7_isLicensed c_X7_isLicensed 2 (Option.some ClassFile.FieldType.boolean) rm_X7_isLicensed (sp_X7_isLicensed ) := by
  refine em_CT_of (T := T_X7_isLicensed ) (em_F_ok σ) (by decide) (fun p e s m args below meth c A ρ Q C hFok hF hret hlk hin => ?_) (me_X7_isLicensed )
  unfold T_X7_isLicensed
  refine List.forall_mem_cons.mpr ⟨s_iload_n C (by decide +kernel : decode c_X7_isLicensed 0 = .ok (.iload_n 1, 1)) rfl rfl rfl, ?_⟩
  refine List.forall_mem_cons.mpr ⟨s_aload_n C (by decide +kernel : decode c_X7_isLicensed 1 = .ok (.aload_n 0, 1)) rfl rfl rfl, ?_⟩
  refine List.forall_mem_cons.mpr ⟨s_getf C (by decide +kernel : decode c_X7_isLicensed 2 = .ok (.getfield 52, 3)) rfl rfl em_cl_X7 (by decide) ew98 rfl, ?_⟩
  refine List.forall_mem_cons.mpr ⟨s_icmplt C (by decide +kernel : decode c_X7_isLicensed 5 = .ok (.if_icmp .lt 15, 3)) (by decide) rfl rfl rfl, ?_⟩
  refine List.forall_mem_cons.mpr ⟨s_iload_n C (by decide +kernel : decode c_X7_isLicensed 8 = .ok (.iload_n 1, 1)) rfl rfl rfl, ?_⟩
  refine List.forall_mem_cons.mpr ⟨s_aload_n C (by decide +kernel : decode c_X7_isLicensed 9 = .ok (.aload_n 0, 1)) rfl rfl rfl, ?_⟩
  refine List.forall_mem_cons.mpr ⟨s_getf C (by decide +kernel : decode c_X7_isLicensed 10 = .ok (.getfield 55, 3)) rfl rfl em_cl_X7 (by decide) ew99 rfl, ?_⟩
  refine List.forall_mem_cons.mpr ⟨s_icmpgt C (by decide +kernel : decode c_X7_isLicensed 13 = .ok (.if_icmp .gt 7, 3)) (by decide) rfl rfl rfl, ?_⟩
  refine List.forall_mem_cons.mpr ⟨s_iconst C (by decide +kernel : decode c_X7_isLicensed 16 = .ok (.iconst 1, 1)) rfl rfl (by decide), ?_⟩
  refine List.forall_mem_cons.mpr ⟨s_goto C (by decide +kernel : decode c_X7_isLicensed 17 = .ok (.goto 4, 3)) (by decide) rfl, ?_⟩
  refine List.forall_mem_cons.mpr ⟨s_iconst C (by decide +kernel : decode c_X7_isLicensed 20 = .ok (.iconst 0, 1)) rfl rfl (by decide), ?_⟩
  refine List.forall_mem_cons.mpr ⟨s_zret C (by decide +kernel : decode c_X7_isLicensed 21 = .ok (.ireturn, 1)) hret hlk ⟨Nat.le_refl 0, Nat.le_refl 0⟩, ?_⟩
  exact fun _ h => absurd h List.not_mem_nil
def mwd (we lea mst : Int32) (m : Int64) (a b : Int32) : Prop := lic lea mst (dst we (mo m a) (mo m b))
def sp_X7_mayWed : em_Sp := fun av hp Q => ∃ pe ki mi se we lea mst pa fi sd ev un ma ea co ca clt m a b, av = [.ref 0, .long m, .int a, .int b] ∧ hp = (wT pe ki mi se we lea mst pa fi sd ev un ma ea co ca clt) ∧ (mwd we lea mst m a b → Q (some (.int 1)) hp) ∧ (¬ mwd we lea mst m a b → Q (some (.int 0)) hp)
def T_X7_mayWed : List (Nat × em_Op) := [(0, o_aload 0 1), (1, o_aload 0 2), (2, o_lload 1 3), (3, o_iload 3 4), (4, o_call 2 none (sp_X5_of) 7), (7, o_lload 1 8), (8, o_iload 4 10), (10, o_call 2 none (sp_X5_of) 13), (13, o_call 3 (some 2) (sp_X7_distance) 16), (16, o_call 2 (some 2) (sp_X7_isLicensed) 19), (19, o_zret)]
theorem me_X7_mayWed : em_Me T_X7_mayWed 5 sp_X7_mayWed := by
  intro Q K hK hle av hp hs
  obtain ⟨pe, ki, mi, se, we, lea, mst, pa, fi, sd, ev, un, ma, ea, co, ca, clt, m, a, b, rfl, rfl, h1, h0⟩ := hs
  refine ⟨Nat.le_of_ble_eq_true rfl, hK 0 99 0 _ _ _ ?_⟩
  refine ⟨_, _, rfl, _, _, rfl, _, _, _, _, _, _, _, _, _, _, _, _, _, _, _, _, _, _, _, rfl, rfl, _, _, _, _, _, _, _, _, _, _, _, _, _, _, _, _, _, _, rfl, rfl, fun z => ?_, fun z => ?_⟩
  · exact ⟨Or.inr rfl, h1 z⟩
  · exact ⟨Or.inl rfl, h0 z⟩
abbrev rm_X7_mayWed : Room := { frames := 2, cells := 0, slots := 0, locals := 43 }
set_option maxRecDepth 100000 in
set_option maxHeartbeats 4000000 in
theorem ct_X7_mayWed (l : Launch) (D : va_G) (dA : Nat → ClassId) (σ : Nat → Nat) : em_CT l D em_cl dA σ (em_F σ) y_X7_mayWed c_X7_mayWed 5 (Option.some ClassFile.FieldType.boolean) rm_X7_mayWed (sp_X7_mayWed ) := by
  refine em_CT_of (T := T_X7_mayWed ) (em_F_ok σ) (by decide) (fun p e s m args below meth c A ρ Q C hFok hF hret hlk hin => ?_) (me_X7_mayWed )
  unfold T_X7_mayWed
  refine List.forall_mem_cons.mpr ⟨s_aload_n C (by decide +kernel : decode c_X7_mayWed 0 = .ok (.aload_n 0, 1)) rfl rfl rfl, ?_⟩
  refine List.forall_mem_cons.mpr ⟨s_aload_n C (by decide +kernel : decode c_X7_mayWed 1 = .ok (.aload_n 0, 1)) rfl rfl rfl, ?_⟩
  refine List.forall_mem_cons.mpr ⟨s_lload_n C (by decide +kernel : decode c_X7_mayWed 2 = .ok (.lload_n 1, 1)) rfl rfl rfl, ?_⟩
  refine List.forall_mem_cons.mpr ⟨s_iload_n C (by decide +kernel : decode c_X7_mayWed 3 = .ok (.iload_n 3, 1)) rfl rfl rfl, ?_⟩
  refine List.forall_mem_cons.mpr ⟨s_callS C hFok hF (ct_X5_of l D dA σ) ⟨rfl, rfl⟩ ew216 ew214 ew215 ew8 ⟨by decide, by decide, by decide +kernel⟩ ⟨by decide, by decide⟩ (by decide +kernel : decode c_X7_mayWed 4 = .ok (.invokestatic 94, 3)) rfl rfl ⟨Nat.zero_le _, Nat.zero_le _⟩, ?_⟩
  refine List.forall_mem_cons.mpr ⟨s_lload_n C (by decide +kernel : decode c_X7_mayWed 7 = .ok (.lload_n 1, 1)) rfl rfl rfl, ?_⟩
  refine List.forall_mem_cons.mpr ⟨s_iload C (by decide +kernel : decode c_X7_mayWed 8 = .ok (.iload 4, 2)) rfl rfl, ?_⟩
  refine List.forall_mem_cons.mpr ⟨s_callS C hFok hF (ct_X5_of l D dA σ) ⟨rfl, rfl⟩ ew216 ew214 ew215 ew8 ⟨by decide, by decide, by decide +kernel⟩ ⟨by decide, by decide⟩ (by decide +kernel : decode c_X7_mayWed 10 = .ok (.invokestatic 94, 3)) rfl rfl ⟨Nat.zero_le _, Nat.zero_le _⟩, ?_⟩
  refine List.forall_mem_cons.mpr ⟨s_callV C hFok hF (ct_X7_distance l D dA σ) ⟨rfl, rfl⟩ ew390 em_cl_X7 ew405 ew388 ew389 ew5 ⟨by decide, by decide, by decide +kernel⟩ ⟨by decide, by decide⟩ (by decide +kernel : decode c_X7_mayWed 13 = .ok (.invokevirtual 108, 3)) rfl rfl ⟨Nat.zero_le _, Nat.zero_le _⟩, ?_⟩
  refine List.forall_mem_cons.mpr ⟨s_callV C hFok hF (ct_X7_isLicensed l D dA σ) ⟨rfl, rfl⟩ ew409 em_cl_X7 ew406 ew407 ew408 ew5 ⟨by decide, by decide, by decide +kernel⟩ ⟨by decide, by decide⟩ (by decide +kernel : decode c_X7_mayWed 16 = .ok (.invokevirtual 112, 3)) rfl rfl ⟨Nat.zero_le _, Nat.zero_le _⟩, ?_⟩
  refine List.forall_mem_cons.mpr ⟨s_zret C (by decide +kernel : decode c_X7_mayWed 19 = .ok (.ireturn, 1)) hret hlk ⟨Nat.le_refl 0, Nat.le_refl 0⟩, ?_⟩
  exact fun _ h => absurd h List.not_mem_nil
/-- how many below n -/
def cU (P : Nat → Bool) : Nat → Nat
  | 0 => 0
  | n + 1 => cU P n + (if P n = true then 1 else 0)
def cU2 (P : Nat → Nat → Bool) (n : Nat) : Nat → Nat
  | 0 => 0
  | a + 1 => cU2 P n a + cU (fun b => decide (a < b) && P a b) n
theorem cU_none {P : Nat → Bool} : ∀ {n : Nat}, (∀ j, j < n → P j = false) → cU P n = 0
  | 0, _ => rfl
  | n + 1, h => by rw [cU, cU_none (fun j hj => h j (by omega)), h n (by omega)]; rfl
theorem cU_le {P : Nat → Bool} : ∀ {n : Nat}, cU P n ≤ n
  | 0 => Nat.le_refl 0
  | n + 1 => by
    have := cU_le (P := P) (n := n)
    rw [cU]
    split <;> omega
def mwB (we lea mst : Int32) (m : Int64) (a b : Nat) : Bool := decide (¬ dst we (mo m (nI a)) (mo m (nI b)) < lea ∧ ¬ mst < dst we (mo m (nI a)) (mo m (nI b)))
theorem mwB_t {we lea mst : Int32} {m : Int64} {a b : Nat} (h : mwd we lea mst m (nI a) (nI b)) : mwB we lea mst m a b = true := decide_eq_true h
theorem mwB_f {we lea mst : Int32} {m : Int64} {a b : Nat} (h : ¬ mwd we lea mst m (nI a) (nI b)) : mwB we lea mst m a b = false := decide_eq_false h
theorem nI_at {pe p : Int32} {n : Nat} (hpe : pe = nI n) (h : hs pe p) : ∃ j, j < n ∧ p = nI j := by
  subst hpe
  obtain ⟨j, hj, rfl⟩ := nI_of h.1
  refine ⟨j, ?_, rfl⟩
  have : ¬ n ≤ j := fun z => h.2 (nI_le z hj)
  omega
theorem hs_nI {j n : Nat} (h : j < n) (hn : n < 2 ^ 31) : hs (nI n) (nI j) := ⟨nI_pos (by omega), nI_ge h hn⟩
theorem not_hs {n : Nat} {j : Nat} (h : n ≤ j) (hj : j < 2 ^ 31) : ¬ hs (nI n) (nI j) := fun z => z.2 (nI_le h hj)
def sp_X7_lawfulPairs : em_Sp := fun av hp Q => ∃ pe ki mi se we lea mst pa fi sd ev un ma ea co ca clt m n, av = [.ref 0, .long m] ∧ hp = (wT pe ki mi se we lea mst pa fi sd ev un ma ea co ca clt) ∧ pe = nI n ∧ n ≤ 6 ∧ Q (some (.int (nI (cU2 (mwB we lea mst m) n n)))) hp
def T_X7_lawfulPairs : List (Nat × em_Op) := [(0, o_iconst 0 1), (1, o_istore 3 2), (2, o_iconst 0 3), (3, o_istore 4 5), (5, o_iload 4 7), (7, o_aload 0 8), (8, o_getf 2 0 11), (11, o_icmpge 56 14), (14, o_iload 4 16), (16, o_iconst 1 17), (17, o_iadd 18), (18, o_istore 5 20), (20, o_iload 5 22), (22, o_aload 0 23), (23, o_getf 2 0 26), (26, o_icmpge 50 29), (29, o_aload 0 30), (30, o_lload 1 31), (31, o_iload 4 33), (33, o_iload 5 35), (35, o_call 4 (some 2) (sp_X7_mayWed) 38), (38, o_ifeq 44 41), (41, o_iinc 3 1 44), (44, o_iinc 5 1 47), (47, o_goto 20), (50, o_iinc 4 1 53), (53, o_goto 5), (56, o_iload 3 57), (57, o_iret)]
theorem me_X7_lawfulPairs : em_Me T_X7_lawfulPairs 6 sp_X7_lawfulPairs := by
  intro Q K hK hle av hp hs
  obtain ⟨pe, ki, mi, se, we, lea, mst, pa, fi, sd, ev, un, ma, ea, co, ca, clt, m, n, rfl, rfl, rfl, hn, hq⟩ := hs
  refine ⟨Nat.le_of_ble_eq_true rfl, ?_⟩
  have inner : ∀ (a : Nat), a < n → (K 5 [some (.ref 0), some (.long m), none, some (.int (nI (cU2 (mwB we lea mst m) n (a + 1)))), some (.int (nI (a + 1))), none] [] (wT (nI n) ki mi se we lea mst pa fi sd ev un ma ea co ca clt)) → ∀ (d b : Nat), b + d = n → a < b → K 20 [some (.ref 0), some (.long m), none, some (.int (nI (cU2 (mwB we lea mst m) n a + cU (fun j => decide (a < j) && mwB we lea mst m a j) b))), some (.int (nI a)), some (.int (nI b))] [] (wT (nI n) ki mi se we lea mst pa fi sd ev un ma ea co ca clt) := by
    intro a ha hk d
    induction d with
    | zero =>
      intro b hb hab
      have hb : b = n := by omega
      subst hb
      refine hK 12 99 20 _ _ _ ?_
      refine ⟨fun _ => ?_, fun h => absurd (nI_le (Nat.le_refl b) (by omega)) h⟩
      exact hle _ _ _ _ _ (by exact ⟨rfl, rfl, rfl, by rw [nI_1], trivial⟩) hk
    | succ d ih =>
      intro b hb hab
      refine hK 12 99 20 _ _ _ ?_
      refine ⟨fun h => absurd h (nI_ge (by omega) (by omega)), fun _ => ?_⟩
      refine ⟨_, _, _, _, _, _, _, _, _, _, _, _, _, _, _, _, _, _, _, _, rfl, rfl, fun z => ?_, fun z => ?_⟩
      · refine ⟨fun z => absurd z (by decide), fun _ => ?_⟩
        have := ih (b + 1) (by omega) (by omega)
        rw [cU, if_pos (by rw [decide_eq_true hab, mwB_t z]; rfl), ← Nat.add_assoc, ← nI_1, ← nI_1] at this
        exact this
      · refine ⟨fun _ => ?_, fun z => absurd z (by decide)⟩
        have := ih (b + 1) (by omega) (by omega)
        rw [cU, if_neg (by rw [mwB_f z]; simp), Nat.add_zero, ← nI_1] at this
        exact this
  have outer : ∀ (d a : Nat), a + d = n → K 5 [some (.ref 0), some (.long m), none, some (.int (nI (cU2 (mwB we lea mst m) n a))), some (.int (nI a)), none] [] (wT (nI n) ki mi se we lea mst pa fi sd ev un ma ea co ca clt) := by
    intro d
    induction d with
    | zero =>
      intro a ha
      have ha : a = n := by omega
      subst ha
      refine hK 4 99 5 _ _ _ ?_
      exact ⟨fun _ => hq, fun h => absurd (nI_le (Nat.le_refl a) (by omega)) h⟩
    | succ d ih =>
      intro a ha
      refine hK 4 8 5 _ _ _ ?_
      refine ⟨fun h => absurd h (nI_ge (by omega) (by omega)), fun _ => ?_⟩
      have := inner a (by omega) (ih (a + 1) (by omega)) (n - (a + 1)) (a + 1) (by omega) (by omega)
      rw [cU_none (n := a + 1) (fun j hj => by rw [decide_eq_false (by omega)]; rfl), Nat.add_zero, ← nI_1] at this
      exact this
  exact hK 0 4 0 _ _ _ (outer n 0 (by omega))
abbrev rm_X7_lawfulPairs : Room := { frames := 3, cells := 0, slots := 0, locals := 67 }
set_option maxRecDepth 100000 in
set_option maxHeartbeats 4000000 in
theorem ct_X7_lawfulPairs (l : Launch) (D : va_G) (dA : Nat → ClassId) (σ : Nat → Nat) : em_CT l D em_cl dA σ (em_F σ) y_X7_lawfulPairs c_X7_lawfulPairs 6 (Option.some ClassFile.FieldType.int) rm_X7_lawfulPairs (sp_X7_lawfulPairs ) := by
  refine em_CT_of (T := T_X7_lawfulPairs ) (em_F_ok σ) (by decide) (fun p e s m args below meth c A ρ Q C hFok hF hret hlk hin => ?_) (me_X7_lawfulPairs )
  unfold T_X7_lawfulPairs
  refine List.forall_mem_cons.mpr ⟨s_iconst C (by decide +kernel : decode c_X7_lawfulPairs 0 = .ok (.iconst 0, 1)) rfl rfl (by decide), ?_⟩
  refine List.forall_mem_cons.mpr ⟨s_istore_n C (by decide +kernel : decode c_X7_lawfulPairs 1 = .ok (.istore_n 3, 1)) rfl rfl rfl (by decide), ?_⟩
  refine List.forall_mem_cons.mpr ⟨s_iconst C (by decide +kernel : decode c_X7_lawfulPairs 2 = .ok (.iconst 0, 1)) rfl rfl (by decide), ?_⟩
  refine List.forall_mem_cons.mpr ⟨s_istore C (by decide +kernel : decode c_X7_lawfulPairs 3 = .ok (.istore 4, 2)) rfl rfl (by decide), ?_⟩
  refine List.forall_mem_cons.mpr ⟨s_iload C (by decide +kernel : decode c_X7_lawfulPairs 5 = .ok (.iload 4, 2)) rfl rfl, ?_⟩
  refine List.forall_mem_cons.mpr ⟨s_aload_n C (by decide +kernel : decode c_X7_lawfulPairs 7 = .ok (.aload_n 0, 1)) rfl rfl rfl, ?_⟩
  refine List.forall_mem_cons.mpr ⟨s_getf C (by decide +kernel : decode c_X7_lawfulPairs 8 = .ok (.getfield 38, 3)) rfl rfl em_cl_X7 (by decide) ew85 rfl, ?_⟩
  refine List.forall_mem_cons.mpr ⟨s_icmpge C (by decide +kernel : decode c_X7_lawfulPairs 11 = .ok (.if_icmp .ge 45, 3)) (by decide) rfl rfl rfl, ?_⟩
  refine List.forall_mem_cons.mpr ⟨s_iload C (by decide +kernel : decode c_X7_lawfulPairs 14 = .ok (.iload 4, 2)) rfl rfl, ?_⟩
  refine List.forall_mem_cons.mpr ⟨s_iconst C (by decide +kernel : decode c_X7_lawfulPairs 16 = .ok (.iconst 1, 1)) rfl rfl (by decide), ?_⟩
  refine List.forall_mem_cons.mpr ⟨s_iadd C (by decide +kernel : decode c_X7_lawfulPairs 17 = .ok (.iadd, 1)) rfl rfl, ?_⟩
  refine List.forall_mem_cons.mpr ⟨s_istore C (by decide +kernel : decode c_X7_lawfulPairs 18 = .ok (.istore 5, 2)) rfl rfl (by decide), ?_⟩
  refine List.forall_mem_cons.mpr ⟨s_iload C (by decide +kernel : decode c_X7_lawfulPairs 20 = .ok (.iload 5, 2)) rfl rfl, ?_⟩
  refine List.forall_mem_cons.mpr ⟨s_aload_n C (by decide +kernel : decode c_X7_lawfulPairs 22 = .ok (.aload_n 0, 1)) rfl rfl rfl, ?_⟩
  refine List.forall_mem_cons.mpr ⟨s_getf C (by decide +kernel : decode c_X7_lawfulPairs 23 = .ok (.getfield 38, 3)) rfl rfl em_cl_X7 (by decide) ew85 rfl, ?_⟩
  refine List.forall_mem_cons.mpr ⟨s_icmpge C (by decide +kernel : decode c_X7_lawfulPairs 26 = .ok (.if_icmp .ge 24, 3)) (by decide) rfl rfl rfl, ?_⟩
  refine List.forall_mem_cons.mpr ⟨s_aload_n C (by decide +kernel : decode c_X7_lawfulPairs 29 = .ok (.aload_n 0, 1)) rfl rfl rfl, ?_⟩
  refine List.forall_mem_cons.mpr ⟨s_lload_n C (by decide +kernel : decode c_X7_lawfulPairs 30 = .ok (.lload_n 1, 1)) rfl rfl rfl, ?_⟩
  refine List.forall_mem_cons.mpr ⟨s_iload C (by decide +kernel : decode c_X7_lawfulPairs 31 = .ok (.iload 4, 2)) rfl rfl, ?_⟩
  refine List.forall_mem_cons.mpr ⟨s_iload C (by decide +kernel : decode c_X7_lawfulPairs 33 = .ok (.iload 5, 2)) rfl rfl, ?_⟩
  refine List.forall_mem_cons.mpr ⟨s_callV C hFok hF (ct_X7_mayWed l D dA σ) ⟨rfl, rfl⟩ ew404 em_cl_X7 ew419 ew402 ew403 ew5 ⟨by decide, by decide, by decide +kernel⟩ ⟨by decide, by decide⟩ (by decide +kernel : decode c_X7_lawfulPairs 35 = .ok (.invokevirtual 115, 3)) rfl rfl ⟨Nat.zero_le _, Nat.zero_le _⟩, ?_⟩
  refine List.forall_mem_cons.mpr ⟨s_ifeq C (by decide +kernel : decode c_X7_lawfulPairs 38 = .ok (.ifCond .eq 6, 3)) (by decide) rfl rfl rfl, ?_⟩
  refine List.forall_mem_cons.mpr ⟨s_iinc C (by decide +kernel : decode c_X7_lawfulPairs 41 = .ok (.iinc 3 1, 3)) rfl rfl (by decide) (by decide), ?_⟩
  refine List.forall_mem_cons.mpr ⟨s_iinc C (by decide +kernel : decode c_X7_lawfulPairs 44 = .ok (.iinc 5 1, 3)) rfl rfl (by decide) (by decide), ?_⟩
  refine List.forall_mem_cons.mpr ⟨s_goto C (by decide +kernel : decode c_X7_lawfulPairs 47 = .ok (.goto (-27), 3)) (by decide) rfl, ?_⟩
  refine List.forall_mem_cons.mpr ⟨s_iinc C (by decide +kernel : decode c_X7_lawfulPairs 50 = .ok (.iinc 4 1, 3)) rfl rfl (by decide) (by decide), ?_⟩
  refine List.forall_mem_cons.mpr ⟨s_goto C (by decide +kernel : decode c_X7_lawfulPairs 53 = .ok (.goto (-48), 3)) (by decide) rfl, ?_⟩
  refine List.forall_mem_cons.mpr ⟨s_iload_n C (by decide +kernel : decode c_X7_lawfulPairs 56 = .ok (.iload_n 3, 1)) rfl rfl rfl, ?_⟩
  refine List.forall_mem_cons.mpr ⟨s_iret C (by decide +kernel : decode c_X7_lawfulPairs 57 = .ok (.ireturn, 1)) hret hlk ⟨Nat.le_refl 0, Nat.le_refl 0⟩, ?_⟩
  exact fun _ h => absurd h List.not_mem_nil
/-- bit a of s -/
def btI (s : Int32) (a : Nat) : Prop := (s >>> (nI a &&& 31)) &&& 1 = 1
def awd (we lea mst : Int32) (m : Int64) (n : Nat) (s : Int32) : Prop := ∀ a b, a < b → b < n → btI s a → btI s b → mwd we lea mst m (nI a) (nI b)
def sp_X7_mayAllWed : em_Sp := fun av hp Q => ∃ pe ki mi se we lea mst pa fi sd ev un ma ea co ca clt s n, av = [.ref 0, .int s] ∧ hp = (wT pe ki mi se we lea mst pa fi sd ev un ma ea co ca clt) ∧ pe = nI n ∧ n ≤ 6 ∧ (awd we lea mst mi n s → Q (some (.int 1)) hp) ∧ (¬ awd we lea mst mi n s → Q (some (.int 0)) hp)
def T_X7_mayAllWed : List (Nat × em_Op) := [(0, o_iconst 0 1), (1, o_istore 2 2), (2, o_iload 2 3), (3, o_aload 0 4), (4, o_getf 2 0 7), (7, o_icmpge 79 10), (10, o_iload 2 11), (11, o_iconst 1 12), (12, o_iadd 13), (13, o_istore 3 14), (14, o_iload 3 15), (15, o_aload 0 16), (16, o_getf 2 0 19), (19, o_icmpge 73 22), (22, o_iload 1 23), (23, o_iload 2 24), (24, o_ishr 25), (25, o_iconst 1 26), (26, o_iand 27), (27, o_iconst 1 28), (28, o_icmpne 44 31), (31, o_iload 1 32), (32, o_iload 3 33), (33, o_ishr 34), (34, o_iconst 1 35), (35, o_iand 36), (36, o_iconst 1 37), (37, o_icmpne 44 40), (40, o_iconst 1 41), (41, o_goto 45), (44, o_iconst 0 45), (45, o_istore 4 47), (47, o_iload 4 49), (49, o_ifeq 67 52), (52, o_aload 0 53), (53, o_aload 0 54), (54, o_getf 2 2 57), (57, o_iload 2 58), (58, o_iload 3 59), (59, o_call 4 (some 2) (sp_X7_mayWed) 62), (62, o_ifne 67 65), (65, o_iconst 0 66), (66, o_zret), (67, o_iinc 3 1 70), (70, o_goto 14), (73, o_iinc 2 1 76), (76, o_goto 2), (79, o_iconst 1 80), (80, o_zret)]
theorem me_X7_mayAllWed : em_Me T_X7_mayAllWed 5 sp_X7_mayAllWed := by
  intro Q K hK hle av hp hs
  obtain ⟨pe, ki, mi, se, we, lea, mst, pa, fi, sd, ev, un, ma, ea, co, ca, clt, s, n, rfl, rfl, rfl, hn, hq1, hq0⟩ := hs
  refine ⟨Nat.le_of_ble_eq_true rfl, ?_⟩
  have inner : ∀ (a : Nat), a < n → (∀ a', a' < a → ∀ b, a' < b → b < n → btI s a' → btI s b → mwd we lea mst mi (nI a') (nI b)) → ((∀ b, a < b → b < n → btI s a → btI s b → mwd we lea mst mi (nI a) (nI b)) → K 2 [some (.ref 0), some (.int s), some (.int (nI (a + 1))), none, none] [] (wT (nI n) ki mi se we lea mst pa fi sd ev un ma ea co ca clt)) → ∀ (d b : Nat), b + d = n → a < b → (∀ j, a < j → j < b → btI s a → btI s j → mwd we lea mst mi (nI a) (nI j)) → K 14 [some (.ref 0), some (.int s), some (.int (nI a)), some (.int (nI b)), none] [] (wT (nI n) ki mi se we lea mst pa fi sd ev un ma ea co ca clt) := by
    intro a ha hlt hk d
    induction d with
    | zero =>
      intro b hb hab hj
      have hb : b = n := by omega
      subst hb
      refine hK 10 99 14 _ _ _ ?_
      refine ⟨fun _ => ?_, fun h => absurd (nI_le (Nat.le_refl b) (by omega)) h⟩
      have := hk hj
      rw [← nI_1] at this
      exact hle _ _ _ _ _ (by exact ⟨rfl, rfl, rfl, trivial⟩) this
    | succ d ih =>
      intro b hb hab hj
      have next : (btI s a → btI s b → mwd we lea mst mi (nI a) (nI b)) → ∀ x, K 67 [some (.ref 0), some (.int s), some (.int (nI a)), some (.int (nI b)), x] [] (wT (nI n) ki mi se we lea mst pa fi sd ev un ma ea co ca clt) := by
        intro hb2 x
        have := ih (b + 1) (by omega) (by omega) (fun j h1 h2 => by
          rcases (by omega : j < b ∨ j = b) with z | z
          · exact hj j h1 z
          · subst z; exact hb2)
        rw [← nI_1] at this
        exact hK 43 2 67 _ _ _ (hle _ _ _ _ _ (by exact ⟨rfl, rfl, rfl, rfl, trivial⟩) this)
      refine hK 10 33 14 _ _ _ ?_
      refine ⟨fun h => absurd h (nI_ge (by omega) (by omega)), fun _ => ?_⟩
      refine ⟨fun h1 => ?_, fun h1 => ⟨fun h2 => ?_, fun h2 => ?_⟩⟩
      · exact ⟨fun _ => next (fun z => absurd z h1) _, fun z => absurd z (by decide)⟩
      · exact ⟨fun _ => next (fun _ z => absurd z h2) _, fun z => absurd z (by decide)⟩
      · refine ⟨fun z => absurd z (by decide), fun _ => ?_⟩
        refine ⟨_, _, _, _, _, _, _, _, _, _, _, _, _, _, _, _, _, _, _, _, rfl, rfl, fun z => ?_, fun z => ?_⟩
        · exact ⟨fun _ => next (fun _ _ => z) _, fun z => absurd z (by decide)⟩
        · exact ⟨fun z => absurd z (by decide), fun _ => ⟨Or.inl rfl, hq0 (fun y => z (y a b hab (by omega) h1 h2))⟩⟩
  have outer : ∀ (d a : Nat), a + d = n → (∀ a', a' < a → ∀ b, a' < b → b < n → btI s a' → btI s b → mwd we lea mst mi (nI a') (nI b)) → K 2 [some (.ref 0), some (.int s), some (.int (nI a)), none, none] [] (wT (nI n) ki mi se we lea mst pa fi sd ev un ma ea co ca clt) := by
    intro d
    induction d with
    | zero =>
      intro a ha hj
      have ha : a = n := by omega
      subst ha
      refine hK 2 99 2 _ _ _ ?_
      exact ⟨fun _ => ⟨Or.inr rfl, hq1 (fun x y h1 h2 => hj x (by omega) y h1 h2)⟩, fun h => absurd (nI_le (Nat.le_refl a) (by omega)) h⟩
    | succ d ih =>
      intro a ha hj
      refine hK 2 8 2 _ _ _ ?_
      refine ⟨fun h => absurd h (nI_ge (by omega) (by omega)), fun _ => ?_⟩
      have := inner a (by omega) hj (fun hb => ih (a + 1) (by omega) (fun a' h1 => by
        rcases (by omega : a' < a ∨ a' = a) with z | z
        · exact hj a' z
        · subst z; exact hb)) (n - (a + 1)) (a + 1) (by omega) (by omega) (fun j h1 h2 => by omega)
      rw [← nI_1] at this
      exact this
  exact hK 0 2 0 _ _ _ (outer n 0 (by omega) (fun a' h => by omega))
abbrev rm_X7_mayAllWed : Room := { frames := 3, cells := 0, slots := 0, locals := 67 }
set_option maxRecDepth 100000 in
set_option maxHeartbeats 4000000 in
theorem ct_X7_mayAllWed (l : Launch) (D : va_G) (dA : Nat → ClassId) (σ : Nat → Nat) : em_CT l D em_cl dA σ (em_F σ) y_X7_mayAllWed c_X7_mayAllWed 5 (Option.some ClassFile.FieldType.boolean) rm_X7_mayAllWed (sp_X7_mayAllWed ) := by
  refine em_CT_of (T := T_X7_mayAllWed ) (em_F_ok σ) (by decide) (fun p e s m args below meth c A ρ Q C hFok hF hret hlk hin => ?_) (me_X7_mayAllWed )
  unfold T_X7_mayAllWed
  refine List.forall_mem_cons.mpr ⟨s_iconst C (by decide +kernel : decode c_X7_mayAllWed 0 = .ok (.iconst 0, 1)) rfl rfl (by decide), ?_⟩
  refine List.forall_mem_cons.mpr ⟨s_istore_n C (by decide +kernel : decode c_X7_mayAllWed 1 = .ok (.istore_n 2, 1)) rfl rfl rfl (by decide), ?_⟩
  refine List.forall_mem_cons.mpr ⟨s_iload_n C (by decide +kernel : decode c_X7_mayAllWed 2 = .ok (.iload_n 2, 1)) rfl rfl rfl, ?_⟩
  refine List.forall_mem_cons.mpr ⟨s_aload_n C (by decide +kernel : decode c_X7_mayAllWed 3 = .ok (.aload_n 0, 1)) rfl rfl rfl, ?_⟩
  refine List.forall_mem_cons.mpr ⟨s_getf C (by decide +kernel : decode c_X7_mayAllWed 4 = .ok (.getfield 38, 3)) rfl rfl em_cl_X7 (by decide) ew85 rfl, ?_⟩
  refine List.forall_mem_cons.mpr ⟨s_icmpge C (by decide +kernel : decode c_X7_mayAllWed 7 = .ok (.if_icmp .ge 72, 3)) (by decide) rfl rfl rfl, ?_⟩
  refine List.forall_mem_cons.mpr ⟨s_iload_n C (by decide +kernel : decode c_X7_mayAllWed 10 = .ok (.iload_n 2, 1)) rfl rfl rfl, ?_⟩
  refine List.forall_mem_cons.mpr ⟨s_iconst C (by decide +kernel : decode c_X7_mayAllWed 11 = .ok (.iconst 1, 1)) rfl rfl (by decide), ?_⟩
  refine List.forall_mem_cons.mpr ⟨s_iadd C (by decide +kernel : decode c_X7_mayAllWed 12 = .ok (.iadd, 1)) rfl rfl, ?_⟩
  refine List.forall_mem_cons.mpr ⟨s_istore_n C (by decide +kernel : decode c_X7_mayAllWed 13 = .ok (.istore_n 3, 1)) rfl rfl rfl (by decide), ?_⟩
  refine List.forall_mem_cons.mpr ⟨s_iload_n C (by decide +kernel : decode c_X7_mayAllWed 14 = .ok (.iload_n 3, 1)) rfl rfl rfl, ?_⟩
  refine List.forall_mem_cons.mpr ⟨s_aload_n C (by decide +kernel : decode c_X7_mayAllWed 15 = .ok (.aload_n 0, 1)) rfl rfl rfl, ?_⟩
  refine List.forall_mem_cons.mpr ⟨s_getf C (by decide +kernel : decode c_X7_mayAllWed 16 = .ok (.getfield 38, 3)) rfl rfl em_cl_X7 (by decide) ew85 rfl, ?_⟩
  refine List.forall_mem_cons.mpr ⟨s_icmpge C (by decide +kernel : decode c_X7_mayAllWed 19 = .ok (.if_icmp .ge 54, 3)) (by decide) rfl rfl rfl, ?_⟩
  refine List.forall_mem_cons.mpr ⟨s_iload_n C (by decide +kernel : decode c_X7_mayAllWed 22 = .ok (.iload_n 1, 1)) rfl rfl rfl, ?_⟩
  refine List.forall_mem_cons.mpr ⟨s_iload_n C (by decide +kernel : decode c_X7_mayAllWed 23 = .ok (.iload_n 2, 1)) rfl rfl rfl, ?_⟩
  refine List.forall_mem_cons.mpr ⟨s_ishr C (by decide +kernel : decode c_X7_mayAllWed 24 = .ok (.ishr, 1)) rfl rfl, ?_⟩
  refine List.forall_mem_cons.mpr ⟨s_iconst C (by decide +kernel : decode c_X7_mayAllWed 25 = .ok (.iconst 1, 1)) rfl rfl (by decide), ?_⟩
  refine List.forall_mem_cons.mpr ⟨s_iand C (by decide +kernel : decode c_X7_mayAllWed 26 = .ok (.iand, 1)) rfl rfl, ?_⟩
  refine List.forall_mem_cons.mpr ⟨s_iconst C (by decide +kernel : decode c_X7_mayAllWed 27 = .ok (.iconst 1, 1)) rfl rfl (by decide), ?_⟩
  refine List.forall_mem_cons.mpr ⟨s_icmpne C (by decide +kernel : decode c_X7_mayAllWed 28 = .ok (.if_icmp .ne 16, 3)) (by decide) rfl rfl rfl, ?_⟩
  refine List.forall_mem_cons.mpr ⟨s_iload_n C (by decide +kernel : decode c_X7_mayAllWed 31 = .ok (.iload_n 1, 1)) rfl rfl rfl, ?_⟩
  refine List.forall_mem_cons.mpr ⟨s_iload_n C (by decide +kernel : decode c_X7_mayAllWed 32 = .ok (.iload_n 3, 1)) rfl rfl rfl, ?_⟩
  refine List.forall_mem_cons.mpr ⟨s_ishr C (by decide +kernel : decode c_X7_mayAllWed 33 = .ok (.ishr, 1)) rfl rfl, ?_⟩
  refine List.forall_mem_cons.mpr ⟨s_iconst C (by decide +kernel : decode c_X7_mayAllWed 34 = .ok (.iconst 1, 1)) rfl rfl (by decide), ?_⟩
  refine List.forall_mem_cons.mpr ⟨s_iand C (by decide +kernel : decode c_X7_mayAllWed 35 = .ok (.iand, 1)) rfl rfl, ?_⟩
  refine List.forall_mem_cons.mpr ⟨s_iconst C (by decide +kernel : decode c_X7_mayAllWed 36 = .ok (.iconst 1, 1)) rfl rfl (by decide), ?_⟩
  refine List.forall_mem_cons.mpr ⟨s_icmpne C (by decide +kernel : decode c_X7_mayAllWed 37 = .ok (.if_icmp .ne 7, 3)) (by decide) rfl rfl rfl, ?_⟩
  refine List.forall_mem_cons.mpr ⟨s_iconst C (by decide +kernel : decode c_X7_mayAllWed 40 = .ok (.iconst 1, 1)) rfl rfl (by decide), ?_⟩
  refine List.forall_mem_cons.mpr ⟨s_goto C (by decide +kernel : decode c_X7_mayAllWed 41 = .ok (.goto 4, 3)) (by decide) rfl, ?_⟩
  refine List.forall_mem_cons.mpr ⟨s_iconst C (by decide +kernel : decode c_X7_mayAllWed 44 = .ok (.iconst 0, 1)) rfl rfl (by decide), ?_⟩
  refine List.forall_mem_cons.mpr ⟨s_istore C (by decide +kernel : decode c_X7_mayAllWed 45 = .ok (.istore 4, 2)) rfl rfl (by decide), ?_⟩
  refine List.forall_mem_cons.mpr ⟨s_iload C (by decide +kernel : decode c_X7_mayAllWed 47 = .ok (.iload 4, 2)) rfl rfl, ?_⟩
  refine List.forall_mem_cons.mpr ⟨s_ifeq C (by decide +kernel : decode c_X7_mayAllWed 49 = .ok (.ifCond .eq 18, 3)) (by decide) rfl rfl rfl, ?_⟩
  refine List.forall_mem_cons.mpr ⟨s_aload_n C (by decide +kernel : decode c_X7_mayAllWed 52 = .ok (.aload_n 0, 1)) rfl rfl rfl, ?_⟩
  refine List.forall_mem_cons.mpr ⟨s_aload_n C (by decide +kernel : decode c_X7_mayAllWed 53 = .ok (.aload_n 0, 1)) rfl rfl rfl, ?_⟩
  refine List.forall_mem_cons.mpr ⟨s_getf C (by decide +kernel : decode c_X7_mayAllWed 54 = .ok (.getfield 42, 3)) rfl rfl em_cl_X7 (by decide) ew91 rfl, ?_⟩
  refine List.forall_mem_cons.mpr ⟨s_iload_n C (by decide +kernel : decode c_X7_mayAllWed 57 = .ok (.iload_n 2, 1)) rfl rfl rfl, ?_⟩
  refine List.forall_mem_cons.mpr ⟨s_iload_n C (by decide +kernel : decode c_X7_mayAllWed 58 = .ok (.iload_n 3, 1)) rfl rfl rfl, ?_⟩
  refine List.forall_mem_cons.mpr ⟨s_callV C hFok hF (ct_X7_mayWed l D dA σ) ⟨rfl, rfl⟩ ew404 em_cl_X7 ew419 ew402 ew403 ew5 ⟨by decide, by decide, by decide +kernel⟩ ⟨by decide, by decide⟩ (by decide +kernel : decode c_X7_mayAllWed 59 = .ok (.invokevirtual 115, 3)) rfl rfl ⟨Nat.zero_le _, Nat.zero_le _⟩, ?_⟩
  refine List.forall_mem_cons.mpr ⟨s_ifne C (by decide +kernel : decode c_X7_mayAllWed 62 = .ok (.ifCond .ne 5, 3)) (by decide) rfl rfl rfl, ?_⟩
  refine List.forall_mem_cons.mpr ⟨s_iconst C (by decide +kernel : decode c_X7_mayAllWed 65 = .ok (.iconst 0, 1)) rfl rfl (by decide), ?_⟩
  refine List.forall_mem_cons.mpr ⟨s_zret C (by decide +kernel : decode c_X7_mayAllWed 66 = .ok (.ireturn, 1)) hret hlk ⟨Nat.le_refl 0, Nat.le_refl 0⟩, ?_⟩
  refine List.forall_mem_cons.mpr ⟨s_iinc C (by decide +kernel : decode c_X7_mayAllWed 67 = .ok (.iinc 3 1, 3)) rfl rfl (by decide) (by decide), ?_⟩
  refine List.forall_mem_cons.mpr ⟨s_goto C (by decide +kernel : decode c_X7_mayAllWed 70 = .ok (.goto (-56), 3)) (by decide) rfl, ?_⟩
  refine List.forall_mem_cons.mpr ⟨s_iinc C (by decide +kernel : decode c_X7_mayAllWed 73 = .ok (.iinc 2 1, 3)) rfl rfl (by decide) (by decide), ?_⟩
  refine List.forall_mem_cons.mpr ⟨s_goto C (by decide +kernel : decode c_X7_mayAllWed 76 = .ok (.goto (-74), 3)) (by decide) rfl, ?_⟩
  refine List.forall_mem_cons.mpr ⟨s_iconst C (by decide +kernel : decode c_X7_mayAllWed 79 = .ok (.iconst 1, 1)) rfl rfl (by decide), ?_⟩
  refine List.forall_mem_cons.mpr ⟨s_zret C (by decide +kernel : decode c_X7_mayAllWed 80 = .ok (.ireturn, 1)) hret hlk ⟨Nat.le_refl 0, Nat.le_refl 0⟩, ?_⟩
  exact fun _ h => absurd h List.not_mem_nil
def dif (m : Int64) (a b : Int32) : Int32 := mo m a ^^^ mo m b
def lig (we : Int32) (m : Int64) (a b : Int32) : Int32 := dif m a b &&& (we ^^^ (-1))
def mat (we : Int32) (m : Int64) (a b : Int32) : Int32 := lob (if lig we m a b = 0 then dif m a b else lig we m a b)
def isw (we : Int32) (m : Int64) (a b : Int32) : Int32 := if lig we m a b = 0 then 1 else 0
def ltI (a b : Int32) : Int32 := if b ≤ a then 0 else 1
/-- what all think behind a talk of two who are there -/
def btk (ki : Nat → Int32) (we : Int32) (m : Int64) (a b : Nat) : Int64 := if mat we m (nI a) (nI b) = 0 then m else
  mw (mw m (nI a) (hrd (ki a) (mo m (nI a)) (mo m (nI b)) (ltI (nI b) (nI a)) (mat we m (nI a) (nI b)) (isw we m (nI a) (nI b)))) (nI b) (hrd (ki b) (mo m (nI b)) (mo m (nI a)) (ltI (nI a) (nI b)) (mat we m (nI a) (nI b)) (isw we m (nI a) (nI b)))
def sp_X7_behindTalk : em_Sp := fun av hp Q => ∃ pe ki mi se we lea mst pa fi sd ev un ma ea co ca clt m a b n, av = [.ref 0, .long m, .int a, .int b] ∧ hp = (wT pe ki mi se we lea mst pa fi sd ev un ma ea co ca clt) ∧ pe = nI n ∧ n ≤ 6 ∧ (¬ h2 pe a b → Q (some (.long m)) hp) ∧ (∀ i j, a = nI i → b = nI j → i < n → j < n → i ≠ j → Q (some (.long (btk ki we m i j))) hp)
def T_X7_behindTalk : List (Nat × em_Op) := [(0, o_aload 0 1), (1, o_iload 3 2), (2, o_iload 4 4), (4, o_call 3 (some 2) (sp_X7_hasTwo) 7), (7, o_ifne 12 10), (10, o_lload 1 11), (11, o_lret), (12, o_lload 1 13), (13, o_iload 3 14), (14, o_call 2 none (sp_X5_of) 17), (17, o_istore 5 19), (19, o_lload 1 20), (20, o_iload 4 22), (22, o_call 2 none (sp_X5_of) 25), (25, o_istore 6 27), (27, o_iload 5 29), (29, o_iload 6 31), (31, o_ixor 32), (32, o_istore 7 34), (34, o_iload 7 36), (36, o_aload 0 37), (37, o_getf 2 4 40), (40, o_iconst (-1) 41), (41, o_ixor 42), (42, o_iand 43), (43, o_istore 8 45), (45, o_iload 8 47), (47, o_ifeq 55 50), (50, o_iload 8 52), (52, o_goto 57), (55, o_iload 7 57), (57, o_call 1 none (sp_J6_lowestOneBit_0f7a4) 60), (60, o_istore 9 62), (62, o_iload 9 64), (64, o_ifne 69 67), (67, o_lload 1 68), (68, o_lret), (69, o_iload 8 71), (71, o_ifne 78 74), (74, o_iconst 1 75), (75, o_goto 79), (78, o_iconst 0 79), (79, o_istore 10 81), (81, o_aload 0 82), (82, o_getf 2 1 85), (85, o_iload 3 86), (86, o_aldI 0 87), (87, o_iload 5 89), (89, o_iload 6 91), (91, o_iload 4 93), (93, o_iload 3 94), (94, o_icmpge 101 97), (97, o_iconst 1 98), (98, o_goto 102), (101, o_iconst 0 102), (102, o_iload 9 104), (104, o_iload 10 106), (106, o_call 6 none (sp_X3_heard) 109), (109, o_istore 11 111), (111, o_aload 0 112), (112, o_getf 2 1 115), (115, o_iload 4 117), (117, o_aldI 0 118), (118, o_iload 6 120), (120, o_iload 5 122), (122, o_iload 3 123), (123, o_iload 4 125), (125, o_icmpge 132 128), (128, o_iconst 1 129), (129, o_goto 133), (132, o_iconst 0 133), (133, o_iload 9 135), (135, o_iload 10 137), (137, o_call 6 none (sp_X3_heard) 140), (140, o_istore 12 142), (142, o_lload 1 143), (143, o_iload 3 144), (144, o_iload 11 146), (146, o_call 3 none (sp_X5_with) 149), (149, o_iload 4 151), (151, o_iload 12 153), (153, o_call 3 none (sp_X5_with) 156), (156, o_lret)]
theorem me_X7_behindTalk : em_Me T_X7_behindTalk 13 sp_X7_behindTalk := by
  intro Q K hK hle av hp hs
  obtain ⟨pe, ki, mi, se, we, lea, mst, pa, fi, sd, ev, un, ma, ea, co, ca, clt, m, a, b, n, rfl, rfl, rfl, hn, hq0, hq1⟩ := hs
  refine ⟨Nat.le_of_ble_eq_true rfl, ?_⟩
  refine hK 0 15 0 _ _ _ ?_
  refine ⟨_, _, _, _, _, _, _, _, _, _, _, _, _, _, _, _, _, _, _, rfl, rfl, fun h => ?_, fun h => ?_⟩
  · refine ⟨fun _ => ?_, fun z => absurd z (by decide)⟩
    obtain ⟨i, hi, rfl⟩ := nI_at rfl h.1
    obtain ⟨j, hj, rfl⟩ := nI_at rfl h.2.1
    have hij : i ≠ j := fun z => h.2.2 (by rw [z])
    have hq := hq1 i j rfl rfl hi hj hij
    refine ⟨_, _, rfl, _, _, rfl, ?_⟩
    have tail : ∀ (w9 : Int32) (h9 : ¬ mat we m (nI i) (nI j) = 0) (hw : w9 = isw we m (nI i) (nI j)), K 79 [some (.ref 0), some (.long m), none, some (.int (nI i)), some (.int (nI j)), some (.int (mo m (nI i))), some (.int (mo m (nI j))), some (.int (dif m (nI i) (nI j))), some (.int (lig we m (nI i) (nI j))), some (.int (mat we m (nI i) (nI j))), none, none, none] [.int w9] (wT (nI n) ki mi se we lea mst pa fi sd ev un ma ea co ca clt) := by
      intro w9 h9 hw
      subst hw
      rw [btk, if_neg h9] at hq
      have second : K 133 [some (.ref 0), some (.long m), none, some (.int (nI i)), some (.int (nI j)), some (.int (mo m (nI i))), some (.int (mo m (nI j))), some (.int (dif m (nI i) (nI j))), some (.int (lig we m (nI i) (nI j))), some (.int (mat we m (nI i) (nI j))), some (.int (isw we m (nI i) (nI j))), some (.int (hrd (ki i) (mo m (nI i)) (mo m (nI j)) (ltI (nI j) (nI i)) (mat we m (nI i) (nI j)) (isw we m (nI i) (nI j)))), none] [.int (ltI (nI i) (nI j)), .int (mo m (nI i)), .int (mo m (nI j)), .int (ki j)] (wT (nI n) ki mi se we lea mst pa fi sd ev un ma ea co ca clt) := by
        refine hK 71 99 133 _ _ _ ?_
        exact ⟨_, _, _, _, _, _, rfl, _, _, _, rfl, _, _, _, rfl, hq⟩
      have first : K 102 [some (.ref 0), some (.long m), none, some (.int (nI i)), some (.int (nI j)), some (.int (mo m (nI i))), some (.int (mo m (nI j))), some (.int (dif m (nI i) (nI j))), some (.int (lig we m (nI i) (nI j))), some (.int (mat we m (nI i) (nI j))), some (.int (isw we m (nI i) (nI j))), none, none] [.int (ltI (nI j) (nI i)), .int (mo m (nI j)), .int (mo m (nI i)), .int (ki i)] (wT (nI n) ki mi se we lea mst pa fi sd ev un ma ea co ca clt) := by
        refine hK 55 16 102 _ _ _ ?_
        refine ⟨_, _, _, _, _, _, rfl, ?_⟩
        refine ⟨j, rfl, by omega, ?_⟩
        refine ⟨fun z => ?_, fun z => ?_⟩
        · rw [show ltI (nI i) (nI j) = 0 from if_pos z] at second; exact second
        · rw [show ltI (nI i) (nI j) = 1 from if_neg z] at second; exact second
      refine hK 42 13 79 _ _ _ ?_
      refine ⟨i, rfl, by omega, ?_⟩
      refine ⟨fun z => ?_, fun z => ?_⟩
      · rw [show ltI (nI j) (nI i) = 0 from if_pos z] at first; exact first
      · rw [show ltI (nI j) (nI i) = 1 from if_neg z] at first; exact first
    have mid : ∀ x, x = (if lig we m (nI i) (nI j) = 0 then dif m (nI i) (nI j) else lig we m (nI i) (nI j)) → K 57 [some (.ref 0), some (.long m), none, some (.int (nI i)), some (.int (nI j)), some (.int (mo m (nI i))), some (.int (mo m (nI j))), some (.int (dif m (nI i) (nI j))), some (.int (lig we m (nI i) (nI j))), none, none, none, none] [.int x] (wT (nI n) ki mi se we lea mst pa fi sd ev un ma ea co ca clt) := by
      intro x hx
      subst hx
      refine hK 31 11 57 _ _ _ ?_
      refine ⟨_, rfl, ?_⟩
      refine ⟨fun z => ?_, fun z => ?_⟩
      · refine ⟨fun y => ?_, fun y => ?_⟩
        · exact tail _ z (by rw [isw, if_neg y])
        · exact tail _ z (by rw [isw, if_pos y])
      · rw [btk, if_pos (show mat we m (nI i) (nI j) = 0 from z)] at hq; exact hq
    refine hK 15 16 27 _ _ _ ?_
    refine ⟨fun z => ?_, fun z => ?_⟩
    · exact mid _ (by rw [if_pos (show lig we m (nI i) (nI j) = 0 from z)]; rfl)
    · exact mid _ (by rw [if_neg (show ¬ lig we m (nI i) (nI j) = 0 from z)]; rfl)
  · exact ⟨fun z => absurd rfl z, fun _ => hq0 h⟩
abbrev rm_X7_behindTalk : Room := { frames := 2, cells := 0, slots := 0, locals := 49 }
set_option maxRecDepth 100000 in
set_option maxHeartbeats 4000000 in
theorem ct_X7_behindTalk (l : Launch) (D : va_G) (dA : Nat → ClassId) (σ : Nat → Nat) : em_CT l D em_cl dA σ (em_F σ) y_X7_behindTalk c_X7_behindTalk 13 (Option.some ClassFile.FieldType.long) rm_X7_behindTalk (sp_X7_behindTalk ) := by
  refine em_CT_of (T := T_X7_behindTalk ) (em_F_ok σ) (by decide) (fun p e s m args below meth c A ρ Q C hFok hF hret hlk hin => ?_) (me_X7_behindTalk )
  unfold T_X7_behindTalk
  refine List.forall_mem_cons.mpr ⟨s_aload_n C (by decide +kernel : decode c_X7_behindTalk 0 = .ok (.aload_n 0, 1)) rfl rfl rfl, ?_⟩
  refine List.forall_mem_cons.mpr ⟨s_iload_n C (by decide +kernel : decode c_X7_behindTalk 1 = .ok (.iload_n 3, 1)) rfl rfl rfl, ?_⟩
  refine List.forall_mem_cons.mpr ⟨s_iload C (by decide +kernel : decode c_X7_behindTalk 2 = .ok (.iload 4, 2)) rfl rfl, ?_⟩
  refine List.forall_mem_cons.mpr ⟨s_callV C hFok hF (ct_X7_hasTwo l D dA σ) ⟨rfl, rfl⟩ ew254 em_cl_X7 ew251 ew252 ew253 ew5 ⟨by decide, by decide, by decide +kernel⟩ ⟨by decide, by decide⟩ (by decide +kernel : decode c_X7_behindTalk 4 = .ok (.invokevirtual 98, 3)) rfl rfl ⟨Nat.zero_le _, Nat.zero_le _⟩, ?_⟩
  refine List.forall_mem_cons.mpr ⟨s_ifne C (by decide +kernel : decode c_X7_behindTalk 7 = .ok (.ifCond .ne 5, 3)) (by decide) rfl rfl rfl, ?_⟩
  refine List.forall_mem_cons.mpr ⟨s_lload_n C (by decide +kernel : decode c_X7_behindTalk 10 = .ok (.lload_n 1, 1)) rfl rfl rfl, ?_⟩
  refine List.forall_mem_cons.mpr ⟨s_lret C (by decide +kernel : decode c_X7_behindTalk 11 = .ok (.lreturn, 1)) hret hlk ⟨Nat.le_refl 0, Nat.le_refl 0⟩, ?_⟩
  refine List.forall_mem_cons.mpr ⟨s_lload_n C (by decide +kernel : decode c_X7_behindTalk 12 = .ok (.lload_n 1, 1)) rfl rfl rfl, ?_⟩
  refine List.forall_mem_cons.mpr ⟨s_iload_n C (by decide +kernel : decode c_X7_behindTalk 13 = .ok (.iload_n 3, 1)) rfl rfl rfl, ?_⟩
  refine List.forall_mem_cons.mpr ⟨s_callS C hFok hF (ct_X5_of l D dA σ) ⟨rfl, rfl⟩ ew216 ew214 ew215 ew8 ⟨by decide, by decide, by decide +kernel⟩ ⟨by decide, by decide⟩ (by decide +kernel : decode c_X7_behindTalk 14 = .ok (.invokestatic 94, 3)) rfl rfl ⟨Nat.zero_le _, Nat.zero_le _⟩, ?_⟩
  refine List.forall_mem_cons.mpr ⟨s_istore C (by decide +kernel : decode c_X7_behindTalk 17 = .ok (.istore 5, 2)) rfl rfl (by decide), ?_⟩
  refine List.forall_mem_cons.mpr ⟨s_lload_n C (by decide +kernel : decode c_X7_behindTalk 19 = .ok (.lload_n 1, 1)) rfl rfl rfl, ?_⟩
  refine List.forall_mem_cons.mpr ⟨s_iload C (by decide +kernel : decode c_X7_behindTalk 20 = .ok (.iload 4, 2)) rfl rfl, ?_⟩
  refine List.forall_mem_cons.mpr ⟨s_callS C hFok hF (ct_X5_of l D dA σ) ⟨rfl, rfl⟩ ew216 ew214 ew215 ew8 ⟨by decide, by decide, by decide +kernel⟩ ⟨by decide, by decide⟩ (by decide +kernel : decode c_X7_behindTalk 22 = .ok (.invokestatic 94, 3)) rfl rfl ⟨Nat.zero_le _, Nat.zero_le _⟩, ?_⟩
  refine List.forall_mem_cons.mpr ⟨s_istore C (by decide +kernel : decode c_X7_behindTalk 25 = .ok (.istore 6, 2)) rfl rfl (by decide), ?_⟩
  refine List.forall_mem_cons.mpr ⟨s_iload C (by decide +kernel : decode c_X7_behindTalk 27 = .ok (.iload 5, 2)) rfl rfl, ?_⟩
  refine List.forall_mem_cons.mpr ⟨s_iload C (by decide +kernel : decode c_X7_behindTalk 29 = .ok (.iload 6, 2)) rfl rfl, ?_⟩
  refine List.forall_mem_cons.mpr ⟨s_ixor C (by decide +kernel : decode c_X7_behindTalk 31 = .ok (.ixor, 1)) rfl rfl, ?_⟩
  refine List.forall_mem_cons.mpr ⟨s_istore C (by decide +kernel : decode c_X7_behindTalk 32 = .ok (.istore 7, 2)) rfl rfl (by decide), ?_⟩
  refine List.forall_mem_cons.mpr ⟨s_iload C (by decide +kernel : decode c_X7_behindTalk 34 = .ok (.iload 7, 2)) rfl rfl, ?_⟩
  refine List.forall_mem_cons.mpr ⟨s_aload_n C (by decide +kernel : decode c_X7_behindTalk 36 = .ok (.aload_n 0, 1)) rfl rfl rfl, ?_⟩
  refine List.forall_mem_cons.mpr ⟨s_getf C (by decide +kernel : decode c_X7_behindTalk 37 = .ok (.getfield 49, 3)) rfl rfl em_cl_X7 (by decide) ew97 rfl, ?_⟩
  refine List.forall_mem_cons.mpr ⟨s_iconst C (by decide +kernel : decode c_X7_behindTalk 40 = .ok (.iconst (-1), 1)) rfl rfl (by decide), ?_⟩
  refine List.forall_mem_cons.mpr ⟨s_ixor C (by decide +kernel : decode c_X7_behindTalk 41 = .ok (.ixor, 1)) rfl rfl, ?_⟩
  refine List.forall_mem_cons.mpr ⟨s_iand C (by decide +kernel : decode c_X7_behindTalk 42 = .ok (.iand, 1)) rfl rfl, ?_⟩
  refine List.forall_mem_cons.mpr ⟨s_istore C (by decide +kernel : decode c_X7_behindTalk 43 = .ok (.istore 8, 2)) rfl rfl (by decide), ?_⟩
  refine List.forall_mem_cons.mpr ⟨s_iload C (by decide +kernel : decode c_X7_behindTalk 45 = .ok (.iload 8, 2)) rfl rfl, ?_⟩
  refine List.forall_mem_cons.mpr ⟨s_ifeq C (by decide +kernel : decode c_X7_behindTalk 47 = .ok (.ifCond .eq 8, 3)) (by decide) rfl rfl rfl, ?_⟩
  refine List.forall_mem_cons.mpr ⟨s_iload C (by decide +kernel : decode c_X7_behindTalk 50 = .ok (.iload 8, 2)) rfl rfl, ?_⟩
  refine List.forall_mem_cons.mpr ⟨s_goto C (by decide +kernel : decode c_X7_behindTalk 52 = .ok (.goto 5, 3)) (by decide) rfl, ?_⟩
  refine List.forall_mem_cons.mpr ⟨s_iload C (by decide +kernel : decode c_X7_behindTalk 55 = .ok (.iload 7, 2)) rfl rfl, ?_⟩
  refine List.forall_mem_cons.mpr ⟨s_callS C hFok hF (ct_J6_lowestOneBit_0f7a4 l D dA σ) ⟨rfl, rfl⟩ ew441 ew439 ew440 ew13 ⟨by decide, by decide, by decide +kernel⟩ ⟨by decide, by decide⟩ (by decide +kernel : decode c_X7_behindTalk 57 = .ok (.invokestatic 119, 3)) rfl rfl ⟨Nat.zero_le _, Nat.zero_le _⟩, ?_⟩
  refine List.forall_mem_cons.mpr ⟨s_istore C (by decide +kernel : decode c_X7_behindTalk 60 = .ok (.istore 9, 2)) rfl rfl (by decide), ?_⟩
  refine List.forall_mem_cons.mpr ⟨s_iload C (by decide +kernel : decode c_X7_behindTalk 62 = .ok (.iload 9, 2)) rfl rfl, ?_⟩
  refine List.forall_mem_cons.mpr ⟨s_ifne C (by decide +kernel : decode c_X7_behindTalk 64 = .ok (.ifCond .ne 5, 3)) (by decide) rfl rfl rfl, ?_⟩
  refine List.forall_mem_cons.mpr ⟨s_lload_n C (by decide +kernel : decode c_X7_behindTalk 67 = .ok (.lload_n 1, 1)) rfl rfl rfl, ?_⟩
  refine List.forall_mem_cons.mpr ⟨s_lret C (by decide +kernel : decode c_X7_behindTalk 68 = .ok (.lreturn, 1)) hret hlk ⟨Nat.le_refl 0, Nat.le_refl 0⟩, ?_⟩
  refine List.forall_mem_cons.mpr ⟨s_iload C (by decide +kernel : decode c_X7_behindTalk 69 = .ok (.iload 8, 2)) rfl rfl, ?_⟩
  refine List.forall_mem_cons.mpr ⟨s_ifne C (by decide +kernel : decode c_X7_behindTalk 71 = .ok (.ifCond .ne 7, 3)) (by decide) rfl rfl rfl, ?_⟩
  refine List.forall_mem_cons.mpr ⟨s_iconst C (by decide +kernel : decode c_X7_behindTalk 74 = .ok (.iconst 1, 1)) rfl rfl (by decide), ?_⟩
  refine List.forall_mem_cons.mpr ⟨s_goto C (by decide +kernel : decode c_X7_behindTalk 75 = .ok (.goto 4, 3)) (by decide) rfl, ?_⟩
  refine List.forall_mem_cons.mpr ⟨s_iconst C (by decide +kernel : decode c_X7_behindTalk 78 = .ok (.iconst 0, 1)) rfl rfl (by decide), ?_⟩
  refine List.forall_mem_cons.mpr ⟨s_istore C (by decide +kernel : decode c_X7_behindTalk 79 = .ok (.istore 10, 2)) rfl rfl (by decide), ?_⟩
  refine List.forall_mem_cons.mpr ⟨s_aload_n C (by decide +kernel : decode c_X7_behindTalk 81 = .ok (.aload_n 0, 1)) rfl rfl rfl, ?_⟩
  refine List.forall_mem_cons.mpr ⟨s_getf C (by decide +kernel : decode c_X7_behindTalk 82 = .ok (.getfield 9, 3)) rfl rfl em_cl_X7 (by decide) ew89 rfl, ?_⟩
  refine List.forall_mem_cons.mpr ⟨s_iload_n C (by decide +kernel : decode c_X7_behindTalk 85 = .ok (.iload_n 3, 1)) rfl rfl rfl, ?_⟩
  refine List.forall_mem_cons.mpr ⟨s_iald C (by decide +kernel : decode c_X7_behindTalk 86 = .ok (.iaload, 1)) rfl rfl, ?_⟩
  refine List.forall_mem_cons.mpr ⟨s_iload C (by decide +kernel : decode c_X7_behindTalk 87 = .ok (.iload 5, 2)) rfl rfl, ?_⟩
  refine List.forall_mem_cons.mpr ⟨s_iload C (by decide +kernel : decode c_X7_behindTalk 89 = .ok (.iload 6, 2)) rfl rfl, ?_⟩
  refine List.forall_mem_cons.mpr ⟨s_iload C (by decide +kernel : decode c_X7_behindTalk 91 = .ok (.iload 4, 2)) rfl rfl, ?_⟩
  refine List.forall_mem_cons.mpr ⟨s_iload_n C (by decide +kernel : decode c_X7_behindTalk 93 = .ok (.iload_n 3, 1)) rfl rfl rfl, ?_⟩
  refine List.forall_mem_cons.mpr ⟨s_icmpge C (by decide +kernel : decode c_X7_behindTalk 94 = .ok (.if_icmp .ge 7, 3)) (by decide) rfl rfl rfl, ?_⟩
  refine List.forall_mem_cons.mpr ⟨s_iconst C (by decide +kernel : decode c_X7_behindTalk 97 = .ok (.iconst 1, 1)) rfl rfl (by decide), ?_⟩
  refine List.forall_mem_cons.mpr ⟨s_goto C (by decide +kernel : decode c_X7_behindTalk 98 = .ok (.goto 4, 3)) (by decide) rfl, ?_⟩
  refine List.forall_mem_cons.mpr ⟨s_iconst C (by decide +kernel : decode c_X7_behindTalk 101 = .ok (.iconst 0, 1)) rfl rfl (by decide), ?_⟩
  refine List.forall_mem_cons.mpr ⟨s_iload C (by decide +kernel : decode c_X7_behindTalk 102 = .ok (.iload 9, 2)) rfl rfl, ?_⟩
  refine List.forall_mem_cons.mpr ⟨s_iload C (by decide +kernel : decode c_X7_behindTalk 104 = .ok (.iload 10, 2)) rfl rfl, ?_⟩
  refine List.forall_mem_cons.mpr ⟨s_callS C hFok hF (ct_X3_heard l D dA σ) ⟨rfl, rfl⟩ ew444 ew442 ew443 ew7 ⟨by decide, by decide, by decide +kernel⟩ ⟨by decide, by decide⟩ (by decide +kernel : decode c_X7_behindTalk 106 = .ok (.invokestatic 122, 3)) rfl rfl ⟨Nat.zero_le _, Nat.zero_le _⟩, ?_⟩
  refine List.forall_mem_cons.mpr ⟨s_istore C (by decide +kernel : decode c_X7_behindTalk 109 = .ok (.istore 11, 2)) rfl rfl (by decide), ?_⟩
  refine List.forall_mem_cons.mpr ⟨s_aload_n C (by decide +kernel : decode c_X7_behindTalk 111 = .ok (.aload_n 0, 1)) rfl rfl rfl, ?_⟩
  refine List.forall_mem_cons.mpr ⟨s_getf C (by decide +kernel : decode c_X7_behindTalk 112 = .ok (.getfield 9, 3)) rfl rfl em_cl_X7 (by decide) ew89 rfl, ?_⟩
  refine List.forall_mem_cons.mpr ⟨s_iload C (by decide +kernel : decode c_X7_behindTalk 115 = .ok (.iload 4, 2)) rfl rfl, ?_⟩
  refine List.forall_mem_cons.mpr ⟨s_iald C (by decide +kernel : decode c_X7_behindTalk 117 = .ok (.iaload, 1)) rfl rfl, ?_⟩
  refine List.forall_mem_cons.mpr ⟨s_iload C (by decide +kernel : decode c_X7_behindTalk 118 = .ok (.iload 6, 2)) rfl rfl, ?_⟩
  refine List.forall_mem_cons.mpr ⟨s_iload C (by decide +kernel : decode c_X7_behindTalk 120 = .ok (.iload 5, 2)) rfl rfl, ?_⟩
  refine List.forall_mem_cons.mpr ⟨s_iload_n C (by decide +kernel : decode c_X7_behindTalk 122 = .ok (.iload_n 3, 1)) rfl rfl rfl, ?_⟩
  refine List.forall_mem_cons.mpr ⟨s_iload C (by decide +kernel : decode c_X7_behindTalk 123 = .ok (.iload 4, 2)) rfl rfl, ?_⟩
  refine List.forall_mem_cons.mpr ⟨s_icmpge C (by decide +kernel : decode c_X7_behindTalk 125 = .ok (.if_icmp .ge 7, 3)) (by decide) rfl rfl rfl, ?_⟩
  refine List.forall_mem_cons.mpr ⟨s_iconst C (by decide +kernel : decode c_X7_behindTalk 128 = .ok (.iconst 1, 1)) rfl rfl (by decide), ?_⟩
  refine List.forall_mem_cons.mpr ⟨s_goto C (by decide +kernel : decode c_X7_behindTalk 129 = .ok (.goto 4, 3)) (by decide) rfl, ?_⟩
  refine List.forall_mem_cons.mpr ⟨s_iconst C (by decide +kernel : decode c_X7_behindTalk 132 = .ok (.iconst 0, 1)) rfl rfl (by decide), ?_⟩
  refine List.forall_mem_cons.mpr ⟨s_iload C (by decide +kernel : decode c_X7_behindTalk 133 = .ok (.iload 9, 2)) rfl rfl, ?_⟩
  refine List.forall_mem_cons.mpr ⟨s_iload C (by decide +kernel : decode c_X7_behindTalk 135 = .ok (.iload 10, 2)) rfl rfl, ?_⟩
  refine List.forall_mem_cons.mpr ⟨s_callS C hFok hF (ct_X3_heard l D dA σ) ⟨rfl, rfl⟩ ew444 ew442 ew443 ew7 ⟨by decide, by decide, by decide +kernel⟩ ⟨by decide, by decide⟩ (by decide +kernel : decode c_X7_behindTalk 137 = .ok (.invokestatic 122, 3)) rfl rfl ⟨Nat.zero_le _, Nat.zero_le _⟩, ?_⟩
  refine List.forall_mem_cons.mpr ⟨s_istore C (by decide +kernel : decode c_X7_behindTalk 140 = .ok (.istore 12, 2)) rfl rfl (by decide), ?_⟩
  refine List.forall_mem_cons.mpr ⟨s_lload_n C (by decide +kernel : decode c_X7_behindTalk 142 = .ok (.lload_n 1, 1)) rfl rfl rfl, ?_⟩
  refine List.forall_mem_cons.mpr ⟨s_iload_n C (by decide +kernel : decode c_X7_behindTalk 143 = .ok (.iload_n 3, 1)) rfl rfl rfl, ?_⟩
  refine List.forall_mem_cons.mpr ⟨s_iload C (by decide +kernel : decode c_X7_behindTalk 144 = .ok (.iload 11, 2)) rfl rfl, ?_⟩
  refine List.forall_mem_cons.mpr ⟨s_callS C hFok hF (ct_X5_with l D dA σ) ⟨rfl, rfl⟩ ew190 ew188 ew189 ew8 ⟨by decide, by decide, by decide +kernel⟩ ⟨by decide, by decide⟩ (by decide +kernel : decode c_X7_behindTalk 146 = .ok (.invokestatic 88, 3)) rfl rfl ⟨Nat.zero_le _, Nat.zero_le _⟩, ?_⟩
  refine List.forall_mem_cons.mpr ⟨s_iload C (by decide +kernel : decode c_X7_behindTalk 149 = .ok (.iload 4, 2)) rfl rfl, ?_⟩
  refine List.forall_mem_cons.mpr ⟨s_iload C (by decide +kernel : decode c_X7_behindTalk 151 = .ok (.iload 12, 2)) rfl rfl, ?_⟩
  refine List.forall_mem_cons.mpr ⟨s_callS C hFok hF (ct_X5_with l D dA σ) ⟨rfl, rfl⟩ ew190 ew188 ew189 ew8 ⟨by decide, by decide, by decide +kernel⟩ ⟨by decide, by decide⟩ (by decide +kernel : decode c_X7_behindTalk 153 = .ok (.invokestatic 88, 3)) rfl rfl ⟨Nat.zero_le _, Nat.zero_le _⟩, ?_⟩
  refine List.forall_mem_cons.mpr ⟨s_lret C (by decide +kernel : decode c_X7_behindTalk 156 = .ok (.lreturn, 1)) hret hlk ⟨Nat.le_refl 0, Nat.le_refl 0⟩, ?_⟩
  exact fun _ h => absurd h List.not_mem_nil
/-- a contract that asks no more and grants no less -/
theorem em_CT.weak {l : Launch} {D : va_G} {cl : List vw_C} {dA : Nat → ClassId} {σ : Nat → Nat} {F : em_FT} {y : MethodName} {bytes : ByteArray} {maxL : Nat} {ret : Option FieldType} {rm : Room} {sp sp2 : em_Sp} (h : em_CT l D cl dA σ F y bytes maxL ret rm sp) (hs : ∀ av hp Q, sp2 av hp Q → sp av hp Q) : em_CT l D cl dA σ F y bytes maxL ret rm sp2 := fun ρ hp sz av Q h2 => h ρ hp sz av Q (hs av hp Q h2)
def spF : em_Sp := fun _ _ _ => False
theorem em_CT_F {l : Launch} {D : va_G} {cl : List vw_C} {dA : Nat → ClassId} {σ : Nat → Nat} {F : em_FT} {y : MethodName} {bytes : ByteArray} {maxL : Nat} {ret : Option FieldType} {rm : Room} : em_CT l D cl dA σ F y bytes maxL ret rm spF := fun _ _ _ _ _ h => h.elim
def btN (n : Nat) (ki : Nat → Int32) (we : Int32) (m : Int64) (a b : Nat) : Int64 := if a < n ∧ b < n ∧ a ≠ b then btk ki we m a b else m
def sp_X7_behindTalk2 : em_Sp := fun av hp Q => ∃ pe ki mi se we lea mst pa fi sd ev un ma ea co ca clt m a b n, av = [.ref 0, .long m, .int (nI a), .int (nI b)] ∧ hp = (wT pe ki mi se we lea mst pa fi sd ev un ma ea co ca clt) ∧ pe = nI n ∧ n ≤ 6 ∧ a < 2 ^ 31 ∧ b < 2 ^ 31 ∧ Q (some (.long (btN n ki we m a b))) hp
theorem ct_X7_behindTalk2 (l : Launch) (D : va_G) (dA : Nat → ClassId) (σ : Nat → Nat) : em_CT l D em_cl dA σ (em_F σ) y_X7_behindTalk c_X7_behindTalk 13 (Option.some ClassFile.FieldType.long) rm_X7_behindTalk sp_X7_behindTalk2 := by
  refine (ct_X7_behindTalk l D dA σ).weak (fun av hp Q h => ?_)
  obtain ⟨pe, ki, mi, se, we, lea, mst, pa, fi, sd, ev, un, ma, ea, co, ca, clt, m, a, b, n, rfl, rfl, rfl, hn, ha, hb, hq⟩ := h
  refine ⟨_, _, _, _, _, _, _, _, _, _, _, _, _, _, _, _, _, _, _, _, n, rfl, rfl, rfl, hn, fun z => ?_, fun i j e1 e2 h1 h2 h3 => ?_⟩
  · rw [btN, if_neg] at hq
    · exact hq
    · rintro ⟨z1, z2, z3⟩
      exact z ⟨hs_nI z1 (by omega), hs_nI z2 (by omega), fun y => z3 ((nI_eq ha hb).mp y)⟩
  · have e1 := (nI_eq ha (by omega)).mp e1
    have e2 := (nI_eq hb (by omega)).mp e2
    subst e1
    subst e2
    rw [btN, if_pos ⟨h1, h2, h3⟩] at hq
    exact hq
def sp_X7_behindEvening : em_Sp := fun av hp Q => ∃ pe ki mi se we lea mst pa fi sd ev un ma ea co ca clt m e n np, av = [.ref 0, .long m, .int (nI e)] ∧ hp = (wT pe ki mi se we lea mst pa fi sd ev un ma ea co ca clt) ∧ pe = nI n ∧ n ≤ 6 ∧ pa = nI np ∧ np ≤ 8 ∧ e < 2 ^ 30 ∧ (np = 0 → Q (some (.long m)) hp) ∧ (0 < np → ∃ i j, fi (e % np) = nI i ∧ sd (e % np) = nI j ∧ i < n ∧ j < n ∧ i ≠ j ∧ Q (some (.long (btk ki we m i j))) hp)
def T_X7_behindEvening : List (Nat × em_Op) := [(0, o_aload 0 1), (1, o_getf 2 7 4), (4, o_iconst 1 5), (5, o_icmplt 12 8), (8, o_iload 3 9), (9, o_ifge 14 12), (12, o_lload 1 13), (13, o_lret), (14, o_iload 3 15), (15, o_aload 0 16), (16, o_getf 2 7 19), (19, o_irem 20), (20, o_istore 4 22), (22, o_aload 0 23), (23, o_lload 1 24), (24, o_aload 0 25), (25, o_getf 2 8 28), (28, o_iload 4 30), (30, o_aldI 0 31), (31, o_aload 0 32), (32, o_getf 2 9 35), (35, o_iload 4 37), (37, o_aldI 0 38), (38, o_call 4 (some 2) (sp_X7_behindTalk) 41), (41, o_lret)]
theorem me_X7_behindEvening : em_Me T_X7_behindEvening 5 sp_X7_behindEvening := by
  intro Q K hK hle av hp hs
  obtain ⟨pe, ki, mi, se, we, lea, mst, pa, fi, sd, ev, un, ma, ea, co, ca, clt, m, e, n, np, rfl, rfl, rfl, hn, rfl, hnp, he, hq0, hq1⟩ := hs
  refine ⟨Nat.le_of_ble_eq_true rfl, ?_⟩
  refine hK 0 99 0 _ _ _ ?_
  refine ⟨fun h => ?_, fun h => ?_⟩
  · have : np = 0 := by
      rcases Nat.lt_or_ge np 1 with z | z
      · omega
      · exact absurd h (nI_nlt (a := np) (b := 1) z (by omega))
    exact hq0 this
  · have h0 : 0 < np := by
      rcases Nat.lt_or_ge np 1 with z | z
      · exact absurd (nI_lt (a := np) (b := 1) z (by omega)) h
      · omega
    obtain ⟨i, j, hi, hj, hin, hjn, hij, hq⟩ := hq1 h0
    refine ⟨fun _ => ?_, fun h => absurd (nI_pos' (n := e) (by omega)) h⟩
    refine ⟨nI_ne0 h0 (by omega), ?_⟩
    have hlt := Nat.mod_lt e h0
    refine ⟨e % np, pk_rem (by omega) h0 (by omega), by omega, ?_⟩
    refine ⟨e % np, pk_rem (by omega) h0 (by omega), by omega, ?_⟩
    refine ⟨_, _, _, _, _, _, _, _, _, _, _, _, _, _, _, _, _, _, _, _, n, rfl, rfl, rfl, hn, fun z => ?_, fun i' j' h1 h2 h3 h4 h5 => ?_⟩
    · refine absurd ?_ z
      rw [hi, hj]
      exact ⟨hs_nI hin (by omega), hs_nI hjn (by omega), fun z => hij ((nI_eq (by omega) (by omega)).mp z)⟩
    · have e1 : i' = i := (nI_eq (by omega) (by omega)).mp (h1.symm.trans hi)
      have e2 : j' = j := (nI_eq (by omega) (by omega)).mp (h2.symm.trans hj)
      subst e1
      subst e2
      exact hq
abbrev rm_X7_behindEvening : Room := { frames := 3, cells := 0, slots := 0, locals := 81 }
set_option maxRecDepth 100000 in
set_option maxHeartbeats 4000000 in
theorem ct_X7_behindEvening (l : Launch) (D : va_G) (dA : Nat → ClassId) (σ : Nat → Nat) : em_CT l D em_cl dA σ (em_F σ) y_X7_behindEvening c_X7_behindEvening 5 (Option.some ClassFile.FieldType.long) rm_X7_behindEvening (sp_X7_behindEvening ) := by
  refine em_CT_of (T := T_X7_behindEvening ) (em_F_ok σ) (by decide) (fun p e s m args below meth c A ρ Q C hFok hF hret hlk hin => ?_) (me_X7_behindEvening )
  unfold T_X7_behindEvening
  refine List.forall_mem_cons.mpr ⟨s_aload_n C (by decide +kernel : decode c_X7_behindEvening 0 = .ok (.aload_n 0, 1)) rfl rfl rfl, ?_⟩
  refine List.forall_mem_cons.mpr ⟨s_getf C (by decide +kernel : decode c_X7_behindEvening 1 = .ok (.getfield 58, 3)) rfl rfl em_cl_X7 (by decide) ew100 rfl, ?_⟩
  refine List.forall_mem_cons.mpr ⟨s_iconst C (by decide +kernel : decode c_X7_behindEvening 4 = .ok (.iconst 1, 1)) rfl rfl (by decide), ?_⟩
  refine List.forall_mem_cons.mpr ⟨s_icmplt C (by decide +kernel : decode c_X7_behindEvening 5 = .ok (.if_icmp .lt 7, 3)) (by decide) rfl rfl rfl, ?_⟩
  refine List.forall_mem_cons.mpr ⟨s_iload_n C (by decide +kernel : decode c_X7_behindEvening 8 = .ok (.iload_n 3, 1)) rfl rfl rfl, ?_⟩
  refine List.forall_mem_cons.mpr ⟨s_ifge C (by decide +kernel : decode c_X7_behindEvening 9 = .ok (.ifCond .ge 5, 3)) (by decide) rfl rfl rfl, ?_⟩
  refine List.forall_mem_cons.mpr ⟨s_lload_n C (by decide +kernel : decode c_X7_behindEvening 12 = .ok (.lload_n 1, 1)) rfl rfl rfl, ?_⟩
  refine List.forall_mem_cons.mpr ⟨s_lret C (by decide +kernel : decode c_X7_behindEvening 13 = .ok (.lreturn, 1)) hret hlk ⟨Nat.le_refl 0, Nat.le_refl 0⟩, ?_⟩
  refine List.forall_mem_cons.mpr ⟨s_iload_n C (by decide +kernel : decode c_X7_behindEvening 14 = .ok (.iload_n 3, 1)) rfl rfl rfl, ?_⟩
  refine List.forall_mem_cons.mpr ⟨s_aload_n C (by decide +kernel : decode c_X7_behindEvening 15 = .ok (.aload_n 0, 1)) rfl rfl rfl, ?_⟩
  refine List.forall_mem_cons.mpr ⟨s_getf C (by decide +kernel : decode c_X7_behindEvening 16 = .ok (.getfield 58, 3)) rfl rfl em_cl_X7 (by decide) ew100 rfl, ?_⟩
  refine List.forall_mem_cons.mpr ⟨s_irem C (by decide +kernel : decode c_X7_behindEvening 19 = .ok (.irem, 1)) rfl rfl, ?_⟩
  refine List.forall_mem_cons.mpr ⟨s_istore C (by decide +kernel : decode c_X7_behindEvening 20 = .ok (.istore 4, 2)) rfl rfl (by decide), ?_⟩
  refine List.forall_mem_cons.mpr ⟨s_aload_n C (by decide +kernel : decode c_X7_behindEvening 22 = .ok (.aload_n 0, 1)) rfl rfl rfl, ?_⟩
  refine List.forall_mem_cons.mpr ⟨s_lload_n C (by decide +kernel : decode c_X7_behindEvening 23 = .ok (.lload_n 1, 1)) rfl rfl rfl, ?_⟩
  refine List.forall_mem_cons.mpr ⟨s_aload_n C (by decide +kernel : decode c_X7_behindEvening 24 = .ok (.aload_n 0, 1)) rfl rfl rfl, ?_⟩
  refine List.forall_mem_cons.mpr ⟨s_getf C (by decide +kernel : decode c_X7_behindEvening 25 = .ok (.getfield 15, 3)) rfl rfl em_cl_X7 (by decide) ew102 rfl, ?_⟩
  refine List.forall_mem_cons.mpr ⟨s_iload C (by decide +kernel : decode c_X7_behindEvening 28 = .ok (.iload 4, 2)) rfl rfl, ?_⟩
  refine List.forall_mem_cons.mpr ⟨s_iald C (by decide +kernel : decode c_X7_behindEvening 30 = .ok (.iaload, 1)) rfl rfl, ?_⟩
  refine List.forall_mem_cons.mpr ⟨s_aload_n C (by decide +kernel : decode c_X7_behindEvening 31 = .ok (.aload_n 0, 1)) rfl rfl rfl, ?_⟩
  refine List.forall_mem_cons.mpr ⟨s_getf C (by decide +kernel : decode c_X7_behindEvening 32 = .ok (.getfield 18, 3)) rfl rfl em_cl_X7 (by decide) ew103 rfl, ?_⟩
  refine List.forall_mem_cons.mpr ⟨s_iload C (by decide +kernel : decode c_X7_behindEvening 35 = .ok (.iload 4, 2)) rfl rfl, ?_⟩
  refine List.forall_mem_cons.mpr ⟨s_iald C (by decide +kernel : decode c_X7_behindEvening 37 = .ok (.iaload, 1)) rfl rfl, ?_⟩
  refine List.forall_mem_cons.mpr ⟨s_callV C hFok hF (ct_X7_behindTalk l D dA σ) ⟨rfl, rfl⟩ ew438 em_cl_X7 ew435 ew436 ew437 ew5 ⟨by decide, by decide, by decide +kernel⟩ ⟨by decide, by decide⟩ (by decide +kernel : decode c_X7_behindEvening 38 = .ok (.invokevirtual 126, 3)) rfl rfl ⟨Nat.zero_le _, Nat.zero_le _⟩, ?_⟩
  refine List.forall_mem_cons.mpr ⟨s_lret C (by decide +kernel : decode c_X7_behindEvening 41 = .ok (.lreturn, 1)) hret hlk ⟨Nat.le_refl 0, Nat.le_refl 0⟩, ?_⟩
  exact fun _ h => absurd h List.not_mem_nil
