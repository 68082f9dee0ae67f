/-! ===== WedApartModel: talks ===== -/
def sp_X10_asNow : em_Sp := fun av hp Q => ∃ bk im kp asd rf qt ab be tx ty at9 st9 tk vl wd it mn so sb my we be9 rw fr, av = [.ref 0] ∧ hp = (wM bk im kp asd rf qt ab be tx ty at9 st9 tk vl wd it mn so sb my we be9 rw fr) ∧ (∀ so', (∀ p, p < 6 → so' p = bk (14 + p)) → (∀ p, 6 ≤ p → so' p = so p) → Q none (wM bk im kp asd rf qt ab be tx ty at9 st9 tk vl wd it mn (so') sb my we be9 rw fr))
def T_X10_asNow : List (Nat × em_Op) := [(0, o_iconst 0 1), (1, o_istore 1 2), (2, o_iload 1 3), (3, o_iconst 6 5), (5, o_icmpge 29 8), (8, o_aload 0 9), (9, o_getf 5 17 12), (12, o_iload 1 13), (13, o_aload 0 14), (14, o_getf 5 0 17), (17, o_iconst 14 19), (19, o_iload 1 20), (20, o_iadd 21), (21, o_aldI 0 22), (22, o_iast 23), (23, o_iinc 1 1 26), (26, o_goto 2), (29, o_vret)]
theorem me_X10_asNow : em_Me T_X10_asNow 2 sp_X10_asNow := by
  intro Q K hK hle av hp hs
  obtain ⟨bk, im, kp, asd, rf, qt, ab, be, tx, ty, at9, st9, tk, vl, wd, it, mn, so, sb, my, we, be9, rw, fr, rfl, rfl, hq⟩ := hs
  refine ⟨Nat.le_of_ble_eq_true rfl, ?_⟩
  have loop : ∀ (r i : Nat) (so' : Nat → Int32), i + r = 6 → (∀ p, p < i → so' p = bk (14 + p)) → (∀ p, 6 ≤ p → so' p = so p) → K 2 [some (.ref 0), some (.int (nI i))] [] (wM bk im kp asd rf qt ab be tx ty at9 st9 tk vl wd it mn (so') sb my we be9 rw fr) := by
    intro r
    induction r with
    | zero =>
      intro i so' hi hs h6
      have hi : i = 6 := by omega
      subst hi
      refine hK 2 9999 2 _ _ _ ?_
      exact ⟨fun _ => hq so' hs h6, fun z => absurd (nI_le (a := 6) (b := 6) (by omega) (by omega)) z⟩
    | succ r ih =>
      intro i so' hi hs h6
      refine hK 2 9999 2 _ _ _ ?_
      refine ⟨fun z => absurd z (nI_ge (a := i) (b := 6) (by omega) (by omega)), fun _ => ?_⟩
      have := ih (i + 1) (upd so' i (bk (14 + i))) (by omega) (fun p hp => by
        by_cases hz : p = i
        · subst hz; rw [pk_us]
        · rw [pk_un hz]; exact hs p (by omega)) (fun p hp => by rw [pk_un (by omega)]; exact h6 p hp)
      rw [← nI_1 i] at this
      exact ⟨14 + i, nI_add 14 i, by omega, i, rfl, by omega, this⟩
  exact hK 0 2 0 _ _ _ (loop 6 0 so rfl (fun p h => by omega) (fun p h => rfl))
abbrev rm_X10_asNow : Room := { frames := 0, cells := 0, slots := 0, locals := 0 }
set_option maxRecDepth 100000 in
set_option maxHeartbeats 4000000 in
theorem ct_X10_asNow (l : Launch) (D : va_G) (dA : Nat → ClassId) (σ : Nat → Nat) : em_CT l D em_cl dA σ (em_F σ) y_X10_asNow c_X10_asNow 2 (Option.none : Option ClassFile.FieldType) rm_X10_asNow (sp_X10_asNow ) := by
  refine em_CT_of (T := T_X10_asNow ) (em_F_ok σ) (by decide) (fun p e s m args below meth c A ρ Q C hFok hF hret hlk hin => ?_) (me_X10_asNow )
  unfold T_X10_asNow
  refine List.forall_mem_cons.mpr ⟨s_iconst C (by decide +kernel : decode c_X10_asNow 0 = .ok (.iconst 0, 1)) rfl rfl (by decide), ?_⟩
  refine List.forall_mem_cons.mpr ⟨s_istore_n C (by decide +kernel : decode c_X10_asNow 1 = .ok (.istore_n 1, 1)) rfl rfl rfl (by decide), ?_⟩
  refine List.forall_mem_cons.mpr ⟨s_iload_n C (by decide +kernel : decode c_X10_asNow 2 = .ok (.iload_n 1, 1)) rfl rfl rfl, ?_⟩
  refine List.forall_mem_cons.mpr ⟨s_bipush C (by decide +kernel : decode c_X10_asNow 3 = .ok (.bipush 6, 2)) rfl rfl (by decide), ?_⟩
  refine List.forall_mem_cons.mpr ⟨s_icmpge C (by decide +kernel : decode c_X10_asNow 5 = .ok (.if_icmp .ge 24, 3)) (by decide) rfl rfl rfl, ?_⟩
  refine List.forall_mem_cons.mpr ⟨s_aload_n C (by decide +kernel : decode c_X10_asNow 8 = .ok (.aload_n 0, 1)) rfl rfl rfl, ?_⟩
  refine List.forall_mem_cons.mpr ⟨s_getf C (by decide +kernel : decode c_X10_asNow 9 = .ok (.getfield 32, 3)) rfl rfl em_cl_X10 (by decide) ew708 rfl, ?_⟩
  refine List.forall_mem_cons.mpr ⟨s_iload_n C (by decide +kernel : decode c_X10_asNow 12 = .ok (.iload_n 1, 1)) rfl rfl rfl, ?_⟩
  refine List.forall_mem_cons.mpr ⟨s_aload_n C (by decide +kernel : decode c_X10_asNow 13 = .ok (.aload_n 0, 1)) rfl rfl rfl, ?_⟩
  refine List.forall_mem_cons.mpr ⟨s_getf C (by decide +kernel : decode c_X10_asNow 14 = .ok (.getfield 7, 3)) rfl rfl em_cl_X10 (by decide) ew691 rfl, ?_⟩
  refine List.forall_mem_cons.mpr ⟨s_bipush C (by decide +kernel : decode c_X10_asNow 17 = .ok (.bipush 14, 2)) rfl rfl (by decide), ?_⟩
  refine List.forall_mem_cons.mpr ⟨s_iload_n C (by decide +kernel : decode c_X10_asNow 19 = .ok (.iload_n 1, 1)) rfl rfl rfl, ?_⟩
  refine List.forall_mem_cons.mpr ⟨s_iadd C (by decide +kernel : decode c_X10_asNow 20 = .ok (.iadd, 1)) rfl rfl, ?_⟩
  refine List.forall_mem_cons.mpr ⟨s_iald C (by decide +kernel : decode c_X10_asNow 21 = .ok (.iaload, 1)) rfl rfl, ?_⟩
  refine List.forall_mem_cons.mpr ⟨s_iast C (by decide +kernel : decode c_X10_asNow 22 = .ok (.iastore, 1)) rfl rfl, ?_⟩
  refine List.forall_mem_cons.mpr ⟨s_iinc C (by decide +kernel : decode c_X10_asNow 23 = .ok (.iinc 1 1, 3)) rfl rfl (by decide) (by decide), ?_⟩
  refine List.forall_mem_cons.mpr ⟨s_goto C (by decide +kernel : decode c_X10_asNow 26 = .ok (.goto (-24), 3)) (by decide) rfl, ?_⟩
  refine List.forall_mem_cons.mpr ⟨s_vret C (by decide +kernel : decode c_X10_asNow 29 = .ok (.return_, 1)) hret hlk ⟨Nat.le_refl 0, Nat.le_refl 0⟩, ?_⟩
  exact fun _ h => absurd h List.not_mem_nil
def sp_X10_bits : em_Sp := fun av hp Q => ∃ x, av = [.int x] ∧ Q (some (.int (btr x 10))) hp
def T_X10_bits : List (Nat × em_Op) := [(0, o_iconst 0 1), (1, o_istore 1 2), (2, o_iconst 0 3), (3, o_istore 2 4), (4, o_iload 2 5), (5, o_iconst 10 7), (7, o_icmpge 24 10), (10, o_iload 1 11), (11, o_iload 0 12), (12, o_iload 2 13), (13, o_ishr 14), (14, o_iconst 1 15), (15, o_iand 16), (16, o_iadd 17), (17, o_istore 1 18), (18, o_iinc 2 1 21), (21, o_goto 4), (24, o_iload 1 25), (25, o_iret)]
theorem me_X10_bits : em_Me T_X10_bits 3 sp_X10_bits := by
  intro Q K hK hle av hp hs
  obtain ⟨x, rfl, hq⟩ := hs
  refine ⟨Nat.le_of_ble_eq_true rfl, ?_⟩
  have loop : ∀ (r i : Nat), i + r = 10 → K 4 [some (.int x), some (.int (btr x i)), some (.int (nI i))] [] hp := by
    intro r
    induction r with
    | zero =>
      intro i hi
      have hi : i = 10 := by omega
      subst hi
      refine hK 4 9999 4 _ _ _ ?_
      exact ⟨fun _ => hq, fun z => absurd (nI_le (a := 10) (b := 10) (by omega) (by omega)) z⟩
    | succ r ih =>
      intro i hi
      refine hK 4 9999 4 _ _ _ ?_
      refine ⟨fun z => absurd z (nI_ge (a := i) (b := 10) (by omega) (by omega)), fun _ => ?_⟩
      have := ih (i + 1) (by omega)
      rw [← nI_1 i] at this
      exact this
  exact hK 0 4 0 _ _ _ (loop 10 0 rfl)
abbrev rm_X10_bits : Room := { frames := 0, cells := 0, slots := 0, locals := 0 }
set_option maxRecDepth 100000 in
set_option maxHeartbeats 4000000 in
theorem ct_X10_bits (l : Launch) (D : va_G) (dA : Nat → ClassId) (σ : Nat → Nat) : em_CT l D em_cl dA σ (em_F σ) y_X10_bits c_X10_bits 3 (Option.some ClassFile.FieldType.int) rm_X10_bits (sp_X10_bits ) := by
  refine em_CT_of (T := T_X10_bits ) (em_F_ok σ) (by decide) (fun p e s m args below meth c A ρ Q C hFok hF hret hlk hin => ?_) (me_X10_bits )
  unfold T_X10_bits
  refine List.forall_mem_cons.mpr ⟨s_iconst C (by decide +kernel : decode c_X10_bits 0 = .ok (.iconst 0, 1)) rfl rfl (by decide), ?_⟩
  refine List.forall_mem_cons.mpr ⟨s_istore_n C (by decide +kernel : decode c_X10_bits 1 = .ok (.istore_n 1, 1)) rfl rfl rfl (by decide), ?_⟩
  refine List.forall_mem_cons.mpr ⟨s_iconst C (by decide +kernel : decode c_X10_bits 2 = .ok (.iconst 0, 1)) rfl rfl (by decide), ?_⟩
  refine List.forall_mem_cons.mpr ⟨s_istore_n C (by decide +kernel : decode c_X10_bits 3 = .ok (.istore_n 2, 1)) rfl rfl rfl (by decide), ?_⟩
  refine List.forall_mem_cons.mpr ⟨s_iload_n C (by decide +kernel : decode c_X10_bits 4 = .ok (.iload_n 2, 1)) rfl rfl rfl, ?_⟩
  refine List.forall_mem_cons.mpr ⟨s_bipush C (by decide +kernel : decode c_X10_bits 5 = .ok (.bipush 10, 2)) rfl rfl (by decide), ?_⟩
  refine List.forall_mem_cons.mpr ⟨s_icmpge C (by decide +kernel : decode c_X10_bits 7 = .ok (.if_icmp .ge 17, 3)) (by decide) rfl rfl rfl, ?_⟩
  refine List.forall_mem_cons.mpr ⟨s_iload_n C (by decide +kernel : decode c_X10_bits 10 = .ok (.iload_n 1, 1)) rfl rfl rfl, ?_⟩
  refine List.forall_mem_cons.mpr ⟨s_iload_n C (by decide +kernel : decode c_X10_bits 11 = .ok (.iload_n 0, 1)) rfl rfl rfl, ?_⟩
  refine List.forall_mem_cons.mpr ⟨s_iload_n C (by decide +kernel : decode c_X10_bits 12 = .ok (.iload_n 2, 1)) rfl rfl rfl, ?_⟩
  refine List.forall_mem_cons.mpr ⟨s_ishr C (by decide +kernel : decode c_X10_bits 13 = .ok (.ishr, 1)) rfl rfl, ?_⟩
  refine List.forall_mem_cons.mpr ⟨s_iconst C (by decide +kernel : decode c_X10_bits 14 = .ok (.iconst 1, 1)) rfl rfl (by decide), ?_⟩
  refine List.forall_mem_cons.mpr ⟨s_iand C (by decide +kernel : decode c_X10_bits 15 = .ok (.iand, 1)) rfl rfl, ?_⟩
  refine List.forall_mem_cons.mpr ⟨s_iadd C (by decide +kernel : decode c_X10_bits 16 = .ok (.iadd, 1)) rfl rfl, ?_⟩
  refine List.forall_mem_cons.mpr ⟨s_istore_n C (by decide +kernel : decode c_X10_bits 17 = .ok (.istore_n 1, 1)) rfl rfl rfl (by decide), ?_⟩
  refine List.forall_mem_cons.mpr ⟨s_iinc C (by decide +kernel : decode c_X10_bits 18 = .ok (.iinc 2 1, 3)) rfl rfl (by decide) (by decide), ?_⟩
  refine List.forall_mem_cons.mpr ⟨s_goto C (by decide +kernel : decode c_X10_bits 21 = .ok (.goto (-17), 3)) (by decide) rfl, ?_⟩
  refine List.forall_mem_cons.mpr ⟨s_iload_n C (by decide +kernel : decode c_X10_bits 24 = .ok (.iload_n 1, 1)) rfl rfl rfl, ?_⟩
  refine List.forall_mem_cons.mpr ⟨s_iret C (by decide +kernel : decode c_X10_bits 25 = .ok (.ireturn, 1)) hret hlk ⟨Nat.le_refl 0, Nat.le_refl 0⟩, ?_⟩
  exact fun _ h => absurd h List.not_mem_nil
def cntd (w x : Int32) : Int32 := btr x 10 + btr (x &&& w) 10
def sp_X10_counted : em_Sp := fun av hp Q => ∃ bk im kp asd rf qt ab be tx ty at9 st9 tk vl wd it mn so sb my we be9 rw fr x, av = [.ref 0, .int x] ∧ hp = (wM bk im kp asd rf qt ab be tx ty at9 st9 tk vl wd it mn so sb my we be9 rw fr) ∧ Q (some (.int (cntd (bk 5) x))) hp
def T_X10_counted : List (Nat × em_Op) := [(0, o_iload 1 1), (1, o_call 1 none (sp_X10_bits) 4), (4, o_iload 1 5), (5, o_aload 0 6), (6, o_getf 5 0 9), (9, o_iconst 5 10), (10, o_aldI 0 11), (11, o_iand 12), (12, o_call 1 none (sp_X10_bits) 15), (15, o_iadd 16), (16, o_iret)]
theorem me_X10_counted : em_Me T_X10_counted 2 sp_X10_counted := by
  intro Q K hK hle av hp hs
  obtain ⟨bk, im, kp, asd, rf, qt, ab, be, tx, ty, at9, st9, tk, vl, wd, it, mn, so, sb, my, we, be9, rw, fr, x, rfl, rfl, hq⟩ := hs
  exact ⟨Nat.le_of_ble_eq_true rfl, hK 0 9999 0 _ _ _ ⟨_, rfl, 5, rfl, by decide, _, rfl, hq⟩⟩
abbrev rm_X10_counted : Room := { frames := 1, cells := 0, slots := 0, locals := 22 }
set_option maxRecDepth 100000 in
set_option maxHeartbeats 4000000 in
theorem ct_X10_counted (l : Launch) (D : va_G) (dA : Nat → ClassId) (σ : Nat → Nat) : em_CT l D em_cl dA σ (em_F σ) y_X10_counted c_X10_counted 2 (Option.some ClassFile.FieldType.int) rm_X10_counted (sp_X10_counted ) := by
  refine em_CT_of (T := T_X10_counted ) (em_F_ok σ) (by decide) (fun p e s m args below meth c A ρ Q C hFok hF hret hlk hin => ?_) (me_X10_counted )
  unfold T_X10_counted
  refine List.forall_mem_cons.mpr ⟨s_iload_n C (by decide +kernel : decode c_X10_counted 0 = .ok (.iload_n 1, 1)) rfl rfl rfl, ?_⟩
  refine List.forall_mem_cons.mpr ⟨s_callS C hFok hF (ct_X10_bits l D dA σ) ⟨rfl, rfl⟩ ew895 ew893 ew894 ew6 ⟨by decide, by decide, by decide +kernel⟩ ⟨by decide, by decide⟩ (by decide +kernel : decode c_X10_counted 1 = .ok (.invokestatic 176, 3)) rfl rfl ⟨Nat.zero_le _, Nat.zero_le _⟩, ?_⟩
  refine List.forall_mem_cons.mpr ⟨s_iload_n C (by decide +kernel : decode c_X10_counted 4 = .ok (.iload_n 1, 1)) rfl rfl rfl, ?_⟩
  refine List.forall_mem_cons.mpr ⟨s_aload_n C (by decide +kernel : decode c_X10_counted 5 = .ok (.aload_n 0, 1)) rfl rfl rfl, ?_⟩
  refine List.forall_mem_cons.mpr ⟨s_getf C (by decide +kernel : decode c_X10_counted 6 = .ok (.getfield 7, 3)) rfl rfl em_cl_X10 (by decide) ew691 rfl, ?_⟩
  refine List.forall_mem_cons.mpr ⟨s_iconst C (by decide +kernel : decode c_X10_counted 9 = .ok (.iconst 5, 1)) rfl rfl (by decide), ?_⟩
  refine List.forall_mem_cons.mpr ⟨s_iald C (by decide +kernel : decode c_X10_counted 10 = .ok (.iaload, 1)) rfl rfl, ?_⟩
  refine List.forall_mem_cons.mpr ⟨s_iand C (by decide +kernel : decode c_X10_counted 11 = .ok (.iand, 1)) rfl rfl, ?_⟩
  refine List.forall_mem_cons.mpr ⟨s_callS C hFok hF (ct_X10_bits l D dA σ) ⟨rfl, rfl⟩ ew895 ew893 ew894 ew6 ⟨by decide, by decide, by decide +kernel⟩ ⟨by decide, by decide⟩ (by decide +kernel : decode c_X10_counted 12 = .ok (.invokestatic 176, 3)) rfl rfl ⟨Nat.zero_le _, Nat.zero_le _⟩, ?_⟩
  refine List.forall_mem_cons.mpr ⟨s_iadd C (by decide +kernel : decode c_X10_counted 15 = .ok (.iadd, 1)) rfl rfl, ?_⟩
  refine List.forall_mem_cons.mpr ⟨s_iret C (by decide +kernel : decode c_X10_counted 16 = .ok (.ireturn, 1)) hret hlk ⟨Nat.le_refl 0, Nat.le_refl 0⟩, ?_⟩
  exact fun _ h => absurd h List.not_mem_nil
def lwM (bk : Nat → Int32) (x y : Int32) : Prop := inL (cntd (bk 5) (x ^^^ y)).toInt64 (bk 6).toInt64 (bk 7).toInt64
def sp_X10_isLawful : em_Sp := fun av hp Q => ∃ bk im kp asd rf qt ab be tx ty at9 st9 tk vl wd it mn so sb my we be9 rw fr a b, av = [.ref 0, .int (nI a), .int (nI b)] ∧ hp = (wM bk im kp asd rf qt ab be tx ty at9 st9 tk vl wd it mn so sb my we be9 rw fr) ∧ a < 6 ∧ b < 6 ∧ (lwM bk (so a) (so b) → Q (some (.int 1)) hp) ∧ (¬ lwM bk (so a) (so b) → Q (some (.int 0)) hp)
def T_X10_isLawful : List (Nat × em_Op) := [(0, o_aload 0 1), (1, o_aload 0 2), (2, o_getf 5 17 5), (5, o_iload 1 6), (6, o_aldI 0 7), (7, o_aload 0 8), (8, o_getf 5 17 11), (11, o_iload 2 12), (12, o_aldI 0 13), (13, o_ixor 14), (14, o_call 2 (some 5) (sp_X10_counted) 17), (17, o_i2l 18), (18, o_aload 0 19), (19, o_getf 5 0 22), (22, o_iconst 6 24), (24, o_aldI 0 25), (25, o_i2l 26), (26, o_aload 0 27), (27, o_getf 5 0 30), (30, o_iconst 7 32), (32, o_aldI 0 33), (33, o_i2l 34), (34, o_call 3 none (sp_X10_in) 37), (37, o_zret)]
theorem me_X10_isLawful : em_Me T_X10_isLawful 3 sp_X10_isLawful := by
  intro Q K hK hle av hp hs
  obtain ⟨bk, im, kp, asd, rf, qt, ab, be, tx, ty, at9, st9, tk, vl, wd, it, mn, so, sb, my, we, be9, rw, fr, a, b, rfl, rfl, ha, hb, h1, h0⟩ := hs
  refine ⟨Nat.le_of_ble_eq_true rfl, hK 0 9999 0 _ _ _ ?_⟩
  refine ⟨a, rfl, ha, b, rfl, hb, _, _, _, _, _, _, _, _, _, _, _, _, _, _, _, _, _, _, _, _, _, _, _, _, _, rfl, rfl, 6, rfl, by decide, 7, rfl, by decide, _, _, _, rfl, fun z => ⟨Or.inr rfl, h1 z⟩, fun z => ⟨Or.inl rfl, h0 z⟩⟩
abbrev rm_X10_isLawful : Room := { frames := 2, cells := 0, slots := 0, locals := 43 }
set_option maxRecDepth 100000 in
set_option maxHeartbeats 4000000 in
theorem ct_X10_isLawful (l : Launch) (D : va_G) (dA : Nat → ClassId) (σ : Nat → Nat) : em_CT l D em_cl dA σ (em_F σ) y_X10_isLawful c_X10_isLawful 3 (Option.some ClassFile.FieldType.boolean) rm_X10_isLawful (sp_X10_isLawful ) := by
  refine em_CT_of (T := T_X10_isLawful ) (em_F_ok σ) (by decide) (fun p e s m args below meth c A ρ Q C hFok hF hret hlk hin => ?_) (me_X10_isLawful )
  unfold T_X10_isLawful
  refine List.forall_mem_cons.mpr ⟨s_aload_n C (by decide +kernel : decode c_X10_isLawful 0 = .ok (.aload_n 0, 1)) rfl rfl rfl, ?_⟩
  refine List.forall_mem_cons.mpr ⟨s_aload_n C (by decide +kernel : decode c_X10_isLawful 1 = .ok (.aload_n 0, 1)) rfl rfl rfl, ?_⟩
  refine List.forall_mem_cons.mpr ⟨s_getf C (by decide +kernel : decode c_X10_isLawful 2 = .ok (.getfield 32, 3)) rfl rfl em_cl_X10 (by decide) ew708 rfl, ?_⟩
  refine List.forall_mem_cons.mpr ⟨s_iload_n C (by decide +kernel : decode c_X10_isLawful 5 = .ok (.iload_n 1, 1)) rfl rfl rfl, ?_⟩
  refine List.forall_mem_cons.mpr ⟨s_iald C (by decide +kernel : decode c_X10_isLawful 6 = .ok (.iaload, 1)) rfl rfl, ?_⟩
  refine List.forall_mem_cons.mpr ⟨s_aload_n C (by decide +kernel : decode c_X10_isLawful 7 = .ok (.aload_n 0, 1)) rfl rfl rfl, ?_⟩
  refine List.forall_mem_cons.mpr ⟨s_getf C (by decide +kernel : decode c_X10_isLawful 8 = .ok (.getfield 32, 3)) rfl rfl em_cl_X10 (by decide) ew708 rfl, ?_⟩
  refine List.forall_mem_cons.mpr ⟨s_iload_n C (by decide +kernel : decode c_X10_isLawful 11 = .ok (.iload_n 2, 1)) rfl rfl rfl, ?_⟩
  refine List.forall_mem_cons.mpr ⟨s_iald C (by decide +kernel : decode c_X10_isLawful 12 = .ok (.iaload, 1)) rfl rfl, ?_⟩
  refine List.forall_mem_cons.mpr ⟨s_ixor C (by decide +kernel : decode c_X10_isLawful 13 = .ok (.ixor, 1)) rfl rfl, ?_⟩
  refine List.forall_mem_cons.mpr ⟨s_callV C hFok hF (ct_X10_counted l D dA σ) ⟨rfl, rfl⟩ ew892 em_cl_X10 ew889 ew891 ewp25 ew6 ⟨by decide, by decide, by decide +kernel⟩ ⟨by decide, by decide⟩ (by decide +kernel : decode c_X10_isLawful 14 = .ok (.invokevirtual 179, 3)) rfl rfl ⟨Nat.zero_le _, Nat.zero_le _⟩, ?_⟩
  refine List.forall_mem_cons.mpr ⟨s_i2l C (by decide +kernel : decode c_X10_isLawful 17 = .ok (.i2l, 1)) rfl rfl, ?_⟩
  refine List.forall_mem_cons.mpr ⟨s_aload_n C (by decide +kernel : decode c_X10_isLawful 18 = .ok (.aload_n 0, 1)) rfl rfl rfl, ?_⟩
  refine List.forall_mem_cons.mpr ⟨s_getf C (by decide +kernel : decode c_X10_isLawful 19 = .ok (.getfield 7, 3)) rfl rfl em_cl_X10 (by decide) ew691 rfl, ?_⟩
  refine List.forall_mem_cons.mpr ⟨s_bipush C (by decide +kernel : decode c_X10_isLawful 22 = .ok (.bipush 6, 2)) rfl rfl (by decide), ?_⟩
  refine List.forall_mem_cons.mpr ⟨s_iald C (by decide +kernel : decode c_X10_isLawful 24 = .ok (.iaload, 1)) rfl rfl, ?_⟩
  refine List.forall_mem_cons.mpr ⟨s_i2l C (by decide +kernel : decode c_X10_isLawful 25 = .ok (.i2l, 1)) rfl rfl, ?_⟩
  refine List.forall_mem_cons.mpr ⟨s_aload_n C (by decide +kernel : decode c_X10_isLawful 26 = .ok (.aload_n 0, 1)) rfl rfl rfl, ?_⟩
  refine List.forall_mem_cons.mpr ⟨s_getf C (by decide +kernel : decode c_X10_isLawful 27 = .ok (.getfield 7, 3)) rfl rfl em_cl_X10 (by decide) ew691 rfl, ?_⟩
  refine List.forall_mem_cons.mpr ⟨s_bipush C (by decide +kernel : decode c_X10_isLawful 30 = .ok (.bipush 7, 2)) rfl rfl (by decide), ?_⟩
  refine List.forall_mem_cons.mpr ⟨s_iald C (by decide +kernel : decode c_X10_isLawful 32 = .ok (.iaload, 1)) rfl rfl, ?_⟩
  refine List.forall_mem_cons.mpr ⟨s_i2l C (by decide +kernel : decode c_X10_isLawful 33 = .ok (.i2l, 1)) rfl rfl, ?_⟩
  refine List.forall_mem_cons.mpr ⟨s_callS C hFok hF (ct_X10_in l D dA σ) ⟨rfl, rfl⟩ ew771 ew769 ew770 ew6 ⟨by decide, by decide, by decide +kernel⟩ ⟨by decide, by decide⟩ (by decide +kernel : decode c_X10_isLawful 34 = .ok (.invokestatic 69, 3)) rfl rfl ⟨Nat.zero_le _, Nat.zero_le _⟩, ?_⟩
  refine List.forall_mem_cons.mpr ⟨s_zret C (by decide +kernel : decode c_X10_isLawful 37 = .ok (.ireturn, 1)) hret hlk ⟨Nat.le_refl 0, Nat.le_refl 0⟩, ?_⟩
  exact fun _ h => absurd h List.not_mem_nil
def sp_X10_opinions : em_Sp := fun av hp Q => ∃ bk im kp asd rf qt ab be tx ty at9 st9 tk vl wd it mn so sb my we be9 rw fr p n, av = [.ref 0, .int p] ∧ hp = (wM bk im kp asd rf qt ab be tx ty at9 st9 tk vl wd it mn so sb my we be9 rw fr) ∧ bk 0 = nI n ∧ n ≤ 6 ∧ (¬ hs (nI n) p → Q (some (.int (-2))) (wM bk im kp asd (rfM qt rf 0) qt ab be tx ty at9 st9 tk vl wd it mn so sb my we be9 rw fr)) ∧ (∀ j, p = nI j → j < n → Q (some (.int (bk (14 + j)))) hp)
def T_X10_opinions : List (Nat × em_Op) := [(0, o_aload 0 1), (1, o_iload 1 2), (2, o_call 2 (some 5) (sp_X10_isPerson) 5), (5, o_ifeq 20 8), (8, o_aload 0 9), (9, o_getf 5 0 12), (12, o_iconst 14 14), (14, o_iload 1 15), (15, o_iadd 16), (16, o_aldI 0 17), (17, o_goto 24), (20, o_aload 0 21), (21, o_call 1 (some 5) (sp_X10_bad) 24), (24, o_iret)]
theorem me_X10_opinions : em_Me T_X10_opinions 2 sp_X10_opinions := by
  intro Q K hK hle av hp hs
  obtain ⟨bk, im, kp, asd, rf, qt, ab, be, tx, ty, at9, st9, tk, vl, wd, it, mn, so, sb, my, we, be9, rw, fr, p, n, rfl, rfl, hb, hn, hbad, hq⟩ := hs
  refine ⟨Nat.le_of_ble_eq_true rfl, hK 0 9999 0 _ _ _ ?_⟩
  refine ⟨_, _, _, _, _, _, _, _, _, _, _, _, _, _, _, _, _, _, _, _, _, _, _, _, _, n, rfl, rfl, hb, hn, fun z1 => ?_, fun z1 => ?_⟩
  · refine ⟨fun z => absurd z (by decide), fun _ => ?_⟩
    obtain ⟨j, hj, rfl⟩ := nI_at rfl z1
    exact ⟨14 + j, nI_add 14 j, by omega, hq j rfl hj⟩
  · exact ⟨fun _ => ⟨_, _, _, _, _, _, _, _, _, _, _, _, _, _, _, _, _, _, _, _, _, _, _, _, rfl, rfl, hbad z1⟩, fun z => absurd z (by decide)⟩
abbrev rm_X10_opinions : Room := { frames := 2, cells := 0, slots := 0, locals := 46 }
set_option maxRecDepth 100000 in
set_option maxHeartbeats 4000000 in
theorem ct_X10_opinions (l : Launch) (D : va_G) (dA : Nat → ClassId) (σ : Nat → Nat) : em_CT l D em_cl dA σ (em_F σ) y_X10_opinions c_X10_opinions 2 (Option.some ClassFile.FieldType.int) rm_X10_opinions (sp_X10_opinions ) := by
  refine em_CT_of (T := T_X10_opinions ) (em_F_ok σ) (by decide) (fun p e s m args below meth c A ρ Q C hFok hF hret hlk hin => ?_) (me_X10_opinions )
  unfold T_X10_opinions
  refine List.forall_mem_cons.mpr ⟨s_aload_n C (by decide +kernel : decode c_X10_opinions 0 = .ok (.aload_n 0, 1)) rfl rfl rfl, ?_⟩
  refine List.forall_mem_cons.mpr ⟨s_iload_n C (by decide +kernel : decode c_X10_opinions 1 = .ok (.iload_n 1, 1)) rfl rfl rfl, ?_⟩
  refine List.forall_mem_cons.mpr ⟨s_callV C hFok hF (ct_X10_isPerson l D dA σ) ⟨rfl, rfl⟩ ew795 em_cl_X10 ew792 ew794 ewp16 ew6 ⟨by decide, by decide, by decide +kernel⟩ ⟨by decide, by decide⟩ (by decide +kernel : decode c_X10_opinions 2 = .ok (.invokevirtual 73, 3)) rfl rfl ⟨Nat.zero_le _, Nat.zero_le _⟩, ?_⟩
  refine List.forall_mem_cons.mpr ⟨s_ifeq C (by decide +kernel : decode c_X10_opinions 5 = .ok (.ifCond .eq 15, 3)) (by decide) rfl rfl rfl, ?_⟩
  refine List.forall_mem_cons.mpr ⟨s_aload_n C (by decide +kernel : decode c_X10_opinions 8 = .ok (.aload_n 0, 1)) rfl rfl rfl, ?_⟩
  refine List.forall_mem_cons.mpr ⟨s_getf C (by decide +kernel : decode c_X10_opinions 9 = .ok (.getfield 7, 3)) rfl rfl em_cl_X10 (by decide) ew691 rfl, ?_⟩
  refine List.forall_mem_cons.mpr ⟨s_bipush C (by decide +kernel : decode c_X10_opinions 12 = .ok (.bipush 14, 2)) rfl rfl (by decide), ?_⟩
  refine List.forall_mem_cons.mpr ⟨s_iload_n C (by decide +kernel : decode c_X10_opinions 14 = .ok (.iload_n 1, 1)) rfl rfl rfl, ?_⟩
  refine List.forall_mem_cons.mpr ⟨s_iadd C (by decide +kernel : decode c_X10_opinions 15 = .ok (.iadd, 1)) rfl rfl, ?_⟩
  refine List.forall_mem_cons.mpr ⟨s_iald C (by decide +kernel : decode c_X10_opinions 16 = .ok (.iaload, 1)) rfl rfl, ?_⟩
  refine List.forall_mem_cons.mpr ⟨s_goto C (by decide +kernel : decode c_X10_opinions 17 = .ok (.goto 7, 3)) (by decide) rfl, ?_⟩
  refine List.forall_mem_cons.mpr ⟨s_aload_n C (by decide +kernel : decode c_X10_opinions 20 = .ok (.aload_n 0, 1)) rfl rfl rfl, ?_⟩
  refine List.forall_mem_cons.mpr ⟨s_callV C hFok hF (ct_X10_bad l D dA σ) ⟨rfl, rfl⟩ ew779 em_cl_X10 ew776 ew778 ewp13 ew6 ⟨by decide, by decide, by decide +kernel⟩ ⟨by decide, by decide⟩ (by decide +kernel : decode c_X10_opinions 21 = .ok (.invokevirtual 84, 3)) rfl rfl ⟨Nat.zero_le _, Nat.zero_le _⟩, ?_⟩
  refine List.forall_mem_cons.mpr ⟨s_iret C (by decide +kernel : decode c_X10_opinions 24 = .ok (.ireturn, 1)) hret hlk ⟨Nat.le_refl 0, Nat.le_refl 0⟩, ?_⟩
  exact fun _ h => absurd h List.not_mem_nil
def sp_X10_differ : em_Sp := fun av hp Q => ∃ bk im kp asd rf qt ab be tx ty at9 st9 tk vl wd it mn so sb my we be9 rw fr a b n, av = [.ref 0, .int a, .int b] ∧ hp = (wM bk im kp asd rf qt ab be tx ty at9 st9 tk vl wd it mn so sb my we be9 rw fr) ∧ bk 0 = nI n ∧ n ≤ 6 ∧ (¬ h2 (nI n) a b → Q (some (.int (-2))) (wM bk im kp asd (rfM qt rf 0) qt ab be tx ty at9 st9 tk vl wd it mn so sb my we be9 rw fr)) ∧ (∀ i j, a = nI i → b = nI j → i < n → j < n → i ≠ j → Q (some (.int (bk (14 + i) ^^^ bk (14 + j)))) hp)
def T_X10_differ : List (Nat × em_Op) := [(0, o_aload 0 1), (1, o_iload 1 2), (2, o_iload 2 3), (3, o_call 3 (some 5) (sp_X10_areTwo) 6), (6, o_ifeq 31 9), (9, o_aload 0 10), (10, o_getf 5 0 13), (13, o_iconst 14 15), (15, o_iload 1 16), (16, o_iadd 17), (17, o_aldI 0 18), (18, o_aload 0 19), (19, o_getf 5 0 22), (22, o_iconst 14 24), (24, o_iload 2 25), (25, o_iadd 26), (26, o_aldI 0 27), (27, o_ixor 28), (28, o_goto 35), (31, o_aload 0 32), (32, o_call 1 (some 5) (sp_X10_bad) 35), (35, o_iret)]
theorem me_X10_differ : em_Me T_X10_differ 3 sp_X10_differ := by
  intro Q K hK hle av hp hs
  obtain ⟨bk, im, kp, asd, rf, qt, ab, be, tx, ty, at9, st9, tk, vl, wd, it, mn, so, sb, my, we, be9, rw, fr, a, b, n, rfl, rfl, hb, hn, hbad, hq⟩ := hs
  refine ⟨Nat.le_of_ble_eq_true rfl, hK 0 9999 0 _ _ _ ?_⟩
  refine ⟨_, _, _, _, _, _, _, _, _, _, _, _, _, _, _, _, _, _, _, _, _, _, _, _, _, _, n, rfl, rfl, hb, hn, fun z => ?_, fun z1 => ?_⟩
  · refine ⟨fun y => absurd y (by decide), fun _ => ?_⟩
    obtain ⟨i, hi, rfl⟩ := nI_at rfl z.1
    obtain ⟨j, hj, rfl⟩ := nI_at rfl z.2.1
    have hij : i ≠ j := fun q => z.2.2 (by rw [q])
    exact ⟨14 + i, nI_add 14 i, by omega, 14 + j, nI_add 14 j, by omega, hq i j rfl rfl hi hj hij⟩
  · exact ⟨fun _ => ⟨_, _, _, _, _, _, _, _, _, _, _, _, _, _, _, _, _, _, _, _, _, _, _, _, rfl, rfl, hbad z1⟩, fun z => absurd z (by decide)⟩
abbrev rm_X10_differ : Room := { frames := 3, cells := 0, slots := 0, locals := 68 }
set_option maxRecDepth 100000 in
set_option maxHeartbeats 4000000 in
theorem ct_X10_differ (l : Launch) (D : va_G) (dA : Nat → ClassId) (σ : Nat → Nat) : em_CT l D em_cl dA σ (em_F σ) y_X10_differ c_X10_differ 3 (Option.some ClassFile.FieldType.int) rm_X10_differ (sp_X10_differ ) := by
  refine em_CT_of (T := T_X10_differ ) (em_F_ok σ) (by decide) (fun p e s m args below meth c A ρ Q C hFok hF hret hlk hin => ?_) (me_X10_differ )
  unfold T_X10_differ
  refine List.forall_mem_cons.mpr ⟨s_aload_n C (by decide +kernel : decode c_X10_differ 0 = .ok (.aload_n 0, 1)) rfl rfl rfl, ?_⟩
  refine List.forall_mem_cons.mpr ⟨s_iload_n C (by decide +kernel : decode c_X10_differ 1 = .ok (.iload_n 1, 1)) rfl rfl rfl, ?_⟩
  refine List.forall_mem_cons.mpr ⟨s_iload_n C (by decide +kernel : decode c_X10_differ 2 = .ok (.iload_n 2, 1)) rfl rfl rfl, ?_⟩
  refine List.forall_mem_cons.mpr ⟨s_callV C hFok hF (ct_X10_areTwo l D dA σ) ⟨rfl, rfl⟩ ew820 em_cl_X10 ew817 ew819 ewp18 ew6 ⟨by decide, by decide, by decide +kernel⟩ ⟨by decide, by decide⟩ (by decide +kernel : decode c_X10_differ 3 = .ok (.invokevirtual 96, 3)) rfl rfl ⟨Nat.zero_le _, Nat.zero_le _⟩, ?_⟩
  refine List.forall_mem_cons.mpr ⟨s_ifeq C (by decide +kernel : decode c_X10_differ 6 = .ok (.ifCond .eq 25, 3)) (by decide) rfl rfl rfl, ?_⟩
  refine List.forall_mem_cons.mpr ⟨s_aload_n C (by decide +kernel : decode c_X10_differ 9 = .ok (.aload_n 0, 1)) rfl rfl rfl, ?_⟩
  refine List.forall_mem_cons.mpr ⟨s_getf C (by decide +kernel : decode c_X10_differ 10 = .ok (.getfield 7, 3)) rfl rfl em_cl_X10 (by decide) ew691 rfl, ?_⟩
  refine List.forall_mem_cons.mpr ⟨s_bipush C (by decide +kernel : decode c_X10_differ 13 = .ok (.bipush 14, 2)) rfl rfl (by decide), ?_⟩
  refine List.forall_mem_cons.mpr ⟨s_iload_n C (by decide +kernel : decode c_X10_differ 15 = .ok (.iload_n 1, 1)) rfl rfl rfl, ?_⟩
  refine List.forall_mem_cons.mpr ⟨s_iadd C (by decide +kernel : decode c_X10_differ 16 = .ok (.iadd, 1)) rfl rfl, ?_⟩
  refine List.forall_mem_cons.mpr ⟨s_iald C (by decide +kernel : decode c_X10_differ 17 = .ok (.iaload, 1)) rfl rfl, ?_⟩
  refine List.forall_mem_cons.mpr ⟨s_aload_n C (by decide +kernel : decode c_X10_differ 18 = .ok (.aload_n 0, 1)) rfl rfl rfl, ?_⟩
  refine List.forall_mem_cons.mpr ⟨s_getf C (by decide +kernel : decode c_X10_differ 19 = .ok (.getfield 7, 3)) rfl rfl em_cl_X10 (by decide) ew691 rfl, ?_⟩
  refine List.forall_mem_cons.mpr ⟨s_bipush C (by decide +kernel : decode c_X10_differ 22 = .ok (.bipush 14, 2)) rfl rfl (by decide), ?_⟩
  refine List.forall_mem_cons.mpr ⟨s_iload_n C (by decide +kernel : decode c_X10_differ 24 = .ok (.iload_n 2, 1)) rfl rfl rfl, ?_⟩
  refine List.forall_mem_cons.mpr ⟨s_iadd C (by decide +kernel : decode c_X10_differ 25 = .ok (.iadd, 1)) rfl rfl, ?_⟩
  refine List.forall_mem_cons.mpr ⟨s_iald C (by decide +kernel : decode c_X10_differ 26 = .ok (.iaload, 1)) rfl rfl, ?_⟩
  refine List.forall_mem_cons.mpr ⟨s_ixor C (by decide +kernel : decode c_X10_differ 27 = .ok (.ixor, 1)) rfl rfl, ?_⟩
  refine List.forall_mem_cons.mpr ⟨s_goto C (by decide +kernel : decode c_X10_differ 28 = .ok (.goto 7, 3)) (by decide) rfl, ?_⟩
  refine List.forall_mem_cons.mpr ⟨s_aload_n C (by decide +kernel : decode c_X10_differ 31 = .ok (.aload_n 0, 1)) rfl rfl rfl, ?_⟩
  refine List.forall_mem_cons.mpr ⟨s_callV C hFok hF (ct_X10_bad l D dA σ) ⟨rfl, rfl⟩ ew779 em_cl_X10 ew776 ew778 ewp13 ew6 ⟨by decide, by decide, by decide +kernel⟩ ⟨by decide, by decide⟩ (by decide +kernel : decode c_X10_differ 32 = .ok (.invokevirtual 84, 3)) rfl rfl ⟨Nat.zero_le _, Nat.zero_le _⟩, ?_⟩
  refine List.forall_mem_cons.mpr ⟨s_iret C (by decide +kernel : decode c_X10_differ 35 = .ok (.ireturn, 1)) hret hlk ⟨Nat.le_refl 0, Nat.le_refl 0⟩, ?_⟩
  exact fun _ h => absurd h List.not_mem_nil
def sp_X10_apart : em_Sp := fun av hp Q => ∃ bk im kp asd rf qt ab be tx ty at9 st9 tk vl wd it mn so sb my we be9 rw fr a b n, av = [.ref 0, .int a, .int b] ∧ hp = (wM bk im kp asd rf qt ab be tx ty at9 st9 tk vl wd it mn so sb my we be9 rw fr) ∧ bk 0 = nI n ∧ n ≤ 6 ∧ (¬ h2 (nI n) a b → Q (some (.int (-2))) (wM bk im kp asd (rfM qt rf 0) qt ab be tx ty at9 st9 tk vl wd it mn so sb my we be9 rw fr)) ∧ (∀ i j, a = nI i → b = nI j → i < n → j < n → i ≠ j → Q (some (.int (cntd (bk 5) (bk (14 + i) ^^^ bk (14 + j))))) hp)
def T_X10_apart : List (Nat × em_Op) := [(0, o_aload 0 1), (1, o_iload 1 2), (2, o_iload 2 3), (3, o_call 3 (some 5) (sp_X10_areTwo) 6), (6, o_ifeq 35 9), (9, o_aload 0 10), (10, o_aload 0 11), (11, o_getf 5 0 14), (14, o_iconst 14 16), (16, o_iload 1 17), (17, o_iadd 18), (18, o_aldI 0 19), (19, o_aload 0 20), (20, o_getf 5 0 23), (23, o_iconst 14 25), (25, o_iload 2 26), (26, o_iadd 27), (27, o_aldI 0 28), (28, o_ixor 29), (29, o_call 2 (some 5) (sp_X10_counted) 32), (32, o_goto 39), (35, o_aload 0 36), (36, o_call 1 (some 5) (sp_X10_bad) 39), (39, o_iret)]
theorem me_X10_apart : em_Me T_X10_apart 3 sp_X10_apart := by
  intro Q K hK hle av hp hs
  obtain ⟨bk, im, kp, asd, rf, qt, ab, be, tx, ty, at9, st9, tk, vl, wd, it, mn, so, sb, my, we, be9, rw, fr, a, b, n, rfl, rfl, hb, hn, hbad, hq⟩ := hs
  refine ⟨Nat.le_of_ble_eq_true rfl, hK 0 9999 0 _ _ _ ?_⟩
  refine ⟨_, _, _, _, _, _, _, _, _, _, _, _, _, _, _, _, _, _, _, _, _, _, _, _, _, _, n, rfl, rfl, hb, hn, fun z => ?_, fun z1 => ?_⟩
  · refine ⟨fun y => absurd y (by decide), fun _ => ?_⟩
    obtain ⟨i, hi, rfl⟩ := nI_at rfl z.1
    obtain ⟨j, hj, rfl⟩ := nI_at rfl z.2.1
    have hij : i ≠ j := fun q => z.2.2 (by rw [q])
    exact ⟨14 + i, nI_add 14 i, by omega, 14 + j, nI_add 14 j, by omega, _, _, _, _, _, _, _, _, _, _, _, _, _, _, _, _, _, _, _, _, _, _, _, _, _, rfl, rfl, hq i j rfl rfl hi hj hij⟩
  · exact ⟨fun _ => ⟨_, _, _, _, _, _, _, _, _, _, _, _, _, _, _, _, _, _, _, _, _, _, _, _, rfl, rfl, hbad z1⟩, fun z => absurd z (by decide)⟩
abbrev rm_X10_apart : Room := { frames := 3, cells := 0, slots := 0, locals := 68 }
set_option maxRecDepth 100000 in
set_option maxHeartbeats 4000000 in
theorem ct_X10_apart (l : Launch) (D : va_G) (dA : Nat → ClassId) (σ : Nat → Nat) : em_CT l D em_cl dA σ (em_F σ) y_X10_apart c_X10_apart 3 (Option.some ClassFile.FieldType.int) rm_X10_apart (sp_X10_apart ) := by
  refine em_CT_of (T := T_X10_apart ) (em_F_ok σ) (by decide) (fun p e s m args below meth c A ρ Q C hFok hF hret hlk hin => ?_) (me_X10_apart )
  unfold T_X10_apart
  refine List.forall_mem_cons.mpr ⟨s_aload_n C (by decide +kernel : decode c_X10_apart 0 = .ok (.aload_n 0, 1)) rfl rfl rfl, ?_⟩
  refine List.forall_mem_cons.mpr ⟨s_iload_n C (by decide +kernel : decode c_X10_apart 1 = .ok (.iload_n 1, 1)) rfl rfl rfl, ?_⟩
  refine List.forall_mem_cons.mpr ⟨s_iload_n C (by decide +kernel : decode c_X10_apart 2 = .ok (.iload_n 2, 1)) rfl rfl rfl, ?_⟩
  refine List.forall_mem_cons.mpr ⟨s_callV C hFok hF (ct_X10_areTwo l D dA σ) ⟨rfl, rfl⟩ ew820 em_cl_X10 ew817 ew819 ewp18 ew6 ⟨by decide, by decide, by decide +kernel⟩ ⟨by decide, by decide⟩ (by decide +kernel : decode c_X10_apart 3 = .ok (.invokevirtual 96, 3)) rfl rfl ⟨Nat.zero_le _, Nat.zero_le _⟩, ?_⟩
  refine List.forall_mem_cons.mpr ⟨s_ifeq C (by decide +kernel : decode c_X10_apart 6 = .ok (.ifCond .eq 29, 3)) (by decide) rfl rfl rfl, ?_⟩
  refine List.forall_mem_cons.mpr ⟨s_aload_n C (by decide +kernel : decode c_X10_apart 9 = .ok (.aload_n 0, 1)) rfl rfl rfl, ?_⟩
  refine List.forall_mem_cons.mpr ⟨s_aload_n C (by decide +kernel : decode c_X10_apart 10 = .ok (.aload_n 0, 1)) rfl rfl rfl, ?_⟩
  refine List.forall_mem_cons.mpr ⟨s_getf C (by decide +kernel : decode c_X10_apart 11 = .ok (.getfield 7, 3)) rfl rfl em_cl_X10 (by decide) ew691 rfl, ?_⟩
  refine List.forall_mem_cons.mpr ⟨s_bipush C (by decide +kernel : decode c_X10_apart 14 = .ok (.bipush 14, 2)) rfl rfl (by decide), ?_⟩
  refine List.forall_mem_cons.mpr ⟨s_iload_n C (by decide +kernel : decode c_X10_apart 16 = .ok (.iload_n 1, 1)) rfl rfl rfl, ?_⟩
  refine List.forall_mem_cons.mpr ⟨s_iadd C (by decide +kernel : decode c_X10_apart 17 = .ok (.iadd, 1)) rfl rfl, ?_⟩
  refine List.forall_mem_cons.mpr ⟨s_iald C (by decide +kernel : decode c_X10_apart 18 = .ok (.iaload, 1)) rfl rfl, ?_⟩
  refine List.forall_mem_cons.mpr ⟨s_aload_n C (by decide +kernel : decode c_X10_apart 19 = .ok (.aload_n 0, 1)) rfl rfl rfl, ?_⟩
  refine List.forall_mem_cons.mpr ⟨s_getf C (by decide +kernel : decode c_X10_apart 20 = .ok (.getfield 7, 3)) rfl rfl em_cl_X10 (by decide) ew691 rfl, ?_⟩
  refine List.forall_mem_cons.mpr ⟨s_bipush C (by decide +kernel : decode c_X10_apart 23 = .ok (.bipush 14, 2)) rfl rfl (by decide), ?_⟩
  refine List.forall_mem_cons.mpr ⟨s_iload_n C (by decide +kernel : decode c_X10_apart 25 = .ok (.iload_n 2, 1)) rfl rfl rfl, ?_⟩
  refine List.forall_mem_cons.mpr ⟨s_iadd C (by decide +kernel : decode c_X10_apart 26 = .ok (.iadd, 1)) rfl rfl, ?_⟩
  refine List.forall_mem_cons.mpr ⟨s_iald C (by decide +kernel : decode c_X10_apart 27 = .ok (.iaload, 1)) rfl rfl, ?_⟩
  refine List.forall_mem_cons.mpr ⟨s_ixor C (by decide +kernel : decode c_X10_apart 28 = .ok (.ixor, 1)) rfl rfl, ?_⟩
  refine List.forall_mem_cons.mpr ⟨s_callV C hFok hF (ct_X10_counted l D dA σ) ⟨rfl, rfl⟩ ew892 em_cl_X10 ew889 ew891 ewp25 ew6 ⟨by decide, by decide, by decide +kernel⟩ ⟨by decide, by decide⟩ (by decide +kernel : decode c_X10_apart 29 = .ok (.invokevirtual 179, 3)) rfl rfl ⟨Nat.zero_le _, Nat.zero_le _⟩, ?_⟩
  refine List.forall_mem_cons.mpr ⟨s_goto C (by decide +kernel : decode c_X10_apart 32 = .ok (.goto 7, 3)) (by decide) rfl, ?_⟩
  refine List.forall_mem_cons.mpr ⟨s_aload_n C (by decide +kernel : decode c_X10_apart 35 = .ok (.aload_n 0, 1)) rfl rfl rfl, ?_⟩
  refine List.forall_mem_cons.mpr ⟨s_callV C hFok hF (ct_X10_bad l D dA σ) ⟨rfl, rfl⟩ ew779 em_cl_X10 ew776 ew778 ewp13 ew6 ⟨by decide, by decide, by decide +kernel⟩ ⟨by decide, by decide⟩ (by decide +kernel : decode c_X10_apart 36 = .ok (.invokevirtual 84, 3)) rfl rfl ⟨Nat.zero_le _, Nat.zero_le _⟩, ?_⟩
  refine List.forall_mem_cons.mpr ⟨s_iret C (by decide +kernel : decode c_X10_apart 39 = .ok (.ireturn, 1)) hret hlk ⟨Nat.le_refl 0, Nat.le_refl 0⟩, ?_⟩
  exact fun _ h => absurd h List.not_mem_nil
/-! what one thinks behind a talk -/
def swK (k pl pr ta co sn fk : Int32) : Int32 := if k = 0 then pl else if k = 1 then pr else if k = 2 then ta else if k = 3 then co else if k = 4 then sn else fk
def swM (k w : Int32) (i j : Nat) (x y b nx : Int32) : Int32 :=
  swK k (if j < i then tkn x y b else x) (if w &&& b = 0 then (if j < i then tkn x y b else x) else x) (tkn x y b)
    (((if w &&& b = 0 then (if j < i then tkn x y b else x) else x) &&& opn nx) ||| (opn x &&& nx)) x (tkn (tkn x y b) y nx)
def bitM (m : Nat) : Int32 := nI (2 ^ m)
def sp_X10_swayedBy : em_Sp := fun av hp Q => ∃ bk im kp asd rf qt ab be tx ty at9 st9 tk vl wd it mn so sb my we be9 rw fr i j m x y, av = [.ref 0, .int (nI i), .int (nI j), .int (nI m), .int x, .int y] ∧ hp = (wM bk im kp asd rf qt ab be tx ty at9 st9 tk vl wd it mn so sb my we be9 rw fr) ∧ i < 6 ∧ j < 6 ∧ m < 10 ∧ Q (some (.int (swM (bk (8 + i)) (bk 5) i j x y (bitM m) (bitM ((m + 1) % 10))))) hp
def T_X10_swayedBy : List (Nat × em_Op) := [(0, o_iconst 1 1), (1, o_iload 3 2), (2, o_ishl 3), (3, o_istore 6 5), (5, o_iconst 1 6), (6, o_iload 3 7), (7, o_iconst 1 8), (8, o_iadd 9), (9, o_iconst 10 11), (11, o_irem 12), (12, o_ishl 13), (13, o_istore 7 15), (15, o_aload 0 16), (16, o_getf 5 0 19), (19, o_iconst 8 21), (21, o_iload 1 22), (22, o_iadd 23), (23, o_aldI 0 24), (24, o_istore 8 26), (26, o_iload 4 28), (28, o_iload 6 30), (30, o_iconst (-1) 31), (31, o_ixor 32), (32, o_iand 33), (33, o_iload 5 35), (35, o_iload 6 37), (37, o_iand 38), (38, o_ior 39), (39, o_istore 9 41), (41, o_iload 2 42), (42, o_iload 1 43), (43, o_icmpge 51 46), (46, o_iload 9 48), (48, o_goto 53), (51, o_iload 4 53), (53, o_istore 10 55), (55, o_aload 0 56), (56, o_getf 5 0 59), (59, o_iconst 5 60), (60, o_aldI 0 61), (61, o_iload 6 63), (63, o_iand 64), (64, o_ifeq 72 67), (67, o_iload 4 69), (69, o_goto 74), (72, o_iload 10 74), (74, o_istore 11 76), (76, o_iload 11 78), (78, o_iload 7 80), (80, o_iconst (-1) 81), (81, o_ixor 82), (82, o_iand 83), (83, o_iload 4 85), (85, o_iconst (-1) 86), (86, o_ixor 87), (87, o_iload 7 89), (89, o_iand 90), (90, o_ior 91), (91, o_istore 12 93), (93, o_iload 9 95), (95, o_iload 7 97), (97, o_iconst (-1) 98), (98, o_ixor 99), (99, o_iand 100), (100, o_iload 5 102), (102, o_iload 7 104), (104, o_iand 105), (105, o_ior 106), (106, o_istore 13 108), (108, o_iload 8 110), (110, o_ifne 118 113), (113, o_iload 10 115), (115, o_goto 164), (118, o_iload 8 120), (120, o_iconst 1 121), (121, o_icmpne 129 124), (124, o_iload 11 126), (126, o_goto 164), (129, o_iload 8 131), (131, o_iconst 2 132), (132, o_icmpne 140 135), (135, o_iload 9 137), (137, o_goto 164), (140, o_iload 8 142), (142, o_iconst 3 143), (143, o_icmpne 151 146), (146, o_iload 12 148), (148, o_goto 164), (151, o_iload 8 153), (153, o_iconst 4 154), (154, o_icmpne 162 157), (157, o_iload 4 159), (159, o_goto 164), (162, o_iload 13 164), (164, o_iret)]
theorem me_X10_swayedBy : em_Me T_X10_swayedBy 14 sp_X10_swayedBy := by
  intro Q K hK hle av hp hs
  obtain ⟨bk, im, kp, asd, rf, qt, ab, be, tx, ty, at9, st9, tk, vl, wd, it, mn, so, sb, my, we, be9, rw, fr, i, j, m, x, y, rfl, rfl, hi, hj, hm, hq⟩ := hs
  refine ⟨Nat.le_of_ble_eq_true rfl, ?_⟩
  rw [swM] at hq
  generalize hb : bitM m = b at hq
  generalize hx : bitM ((m + 1) % 10) = nx at hq
  have eb : (1 : Int32) <<< (nI m &&& 31) = b := by rw [← hb]; exact shl_nI m (by omega)
  have hml := Nat.mod_lt (m + 1) (show 10 > 0 by omega)
  have em : nI m + 1 - (nI m + 1) / 10 * 10 = nI ((m + 1) % 10) := by rw [nI_1]; exact pk_rem (d := 10) (by omega) (by omega) (by omega)
  have en : (1 : Int32) <<< ((nI m + 1 - (nI m + 1) / 10 * 10) &&& 31) = nx := by rw [em, ← hx]; exact shl_nI _ (by omega)
  generalize hpl : (if j < i then tkn x y b else x) = pl at hq
  generalize hpr : (if bk 5 &&& b = 0 then pl else x) = pr at hq
  have fin : ∀ co fk, co = ((pr &&& opn nx) ||| (opn x &&& nx)) → fk = tkn (tkn x y b) y nx → K 108 [some (.ref 0), some (.int (nI i)), some (.int (nI j)), some (.int (nI m)), some (.int x), some (.int y), some (.int b), some (.int nx), some (.int (bk (8 + i))), some (.int (tkn x y b)), some (.int pl), some (.int pr), some (.int co), some (.int fk)] [] (wM bk im kp asd rf qt ab be tx ty at9 st9 tk vl wd it mn so sb my we be9 rw fr) := by
    intro co fk h1 h2
    rw [← h1, ← h2, swK] at hq
    refine hK 69 9999 108 _ _ _ ?_
    refine ⟨fun z0 => ⟨fun z1 => ⟨fun z2 => ⟨fun z3 => ⟨fun z4 => ?_, fun z4 => ?_⟩, fun z3 => ?_⟩, fun z2 => ?_⟩, fun z1 => ?_⟩, fun z0 => ?_⟩
    · rw [if_neg z0, if_neg z1, if_neg z2, if_neg z3, if_neg z4] at hq; exact hq
    · rw [if_neg z0, if_neg z1, if_neg z2, if_neg z3, if_pos z4] at hq; exact hq
    · rw [if_neg z0, if_neg z1, if_neg z2, if_pos z3] at hq; exact hq
    · rw [if_neg z0, if_neg z1, if_pos z2] at hq; exact hq
    · rw [if_neg z0, if_pos z1] at hq; exact hq
    · rw [if_pos z0] at hq; exact hq
  have mid : K 74 [some (.ref 0), some (.int (nI i)), some (.int (nI j)), some (.int (nI m)), some (.int x), some (.int y), some (.int b), some (.int nx), some (.int (bk (8 + i))), some (.int (tkn x y b)), some (.int pl), none, none, none] [.int pr] (wM bk im kp asd rf qt ab be tx ty at9 st9 tk vl wd it mn so sb my we be9 rw fr) := by
    exact hK 46 23 74 _ _ _ (fin _ _ rfl rfl)
  have fst : K 53 [some (.ref 0), some (.int (nI i)), some (.int (nI j)), some (.int (nI m)), some (.int x), some (.int y), some (.int b), some (.int nx), some (.int (bk (8 + i))), some (.int (tkn x y b)), none, none, none, none] [.int pl] (wM bk im kp asd rf qt ab be tx ty at9 st9 tk vl wd it mn so sb my we be9 rw fr) := by
    refine hK 35 11 53 _ _ _ ?_
    refine ⟨5, rfl, by decide, fun z => ?_, fun z => ?_⟩
    · rw [if_pos z] at hpr
      rw [← hpr] at mid
      exact mid
    · rw [if_neg z] at hpr
      rw [← hpr] at mid
      exact mid
  have ent : K 15 [some (.ref 0), some (.int (nI i)), some (.int (nI j)), some (.int (nI m)), some (.int x), some (.int y), some (.int b), some (.int nx), none, none, none, none, none, none] [] (wM bk im kp asd rf qt ab be tx ty at9 st9 tk vl wd it mn so sb my we be9 rw fr) := by
    refine hK 12 23 15 _ _ _ ?_
    refine ⟨8 + i, nI_add 8 i, by omega, fun z => ?_, fun z => ?_⟩
    · have z := (nI_leI (by omega) (by omega)).mp z
      rw [if_neg (by omega)] at hpl
      rw [← hpl] at fst
      exact fst
    · have z : j < i := by
        rcases Nat.lt_or_ge j i with q | q
        · exact q
        · exact absurd (nI_le q (by omega)) z
      rw [if_pos z] at hpl
      rw [← hpl] at fst
      exact fst
  refine hK 0 12 0 _ _ _ ?_
  refine ⟨by decide, ?_⟩
  rw [← eb, ← en] at ent
  exact hle _ _ _ _ _ (by repeat (first | exact trivial | refine ⟨rfl, ?_⟩)) ent
abbrev rm_X10_swayedBy : Room := { frames := 0, cells := 0, slots := 0, locals := 0 }
set_option maxRecDepth 100000 in
set_option maxHeartbeats 4000000 in
theorem ct_X10_swayedBy (l : Launch) (D : va_G) (dA : Nat → ClassId) (σ : Nat → Nat) : em_CT l D em_cl dA σ (em_F σ) y_X10_swayedBy c_X10_swayedBy 14 (Option.some ClassFile.FieldType.int) rm_X10_swayedBy (sp_X10_swayedBy ) := by
  refine em_CT_of (T := T_X10_swayedBy ) (em_F_ok σ) (by decide) (fun p e s m args below meth c A ρ Q C hFok hF hret hlk hin => ?_) (me_X10_swayedBy )
  unfold T_X10_swayedBy
  refine List.forall_mem_cons.mpr ⟨s_iconst C (by decide +kernel : decode c_X10_swayedBy 0 = .ok (.iconst 1, 1)) rfl rfl (by decide), ?_⟩
  refine List.forall_mem_cons.mpr ⟨s_iload_n C (by decide +kernel : decode c_X10_swayedBy 1 = .ok (.iload_n 3, 1)) rfl rfl rfl, ?_⟩
  refine List.forall_mem_cons.mpr ⟨s_ishl C (by decide +kernel : decode c_X10_swayedBy 2 = .ok (.ishl, 1)) rfl rfl, ?_⟩
  refine List.forall_mem_cons.mpr ⟨s_istore C (by decide +kernel : decode c_X10_swayedBy 3 = .ok (.istore 6, 2)) rfl rfl (by decide), ?_⟩
  refine List.forall_mem_cons.mpr ⟨s_iconst C (by decide +kernel : decode c_X10_swayedBy 5 = .ok (.iconst 1, 1)) rfl rfl (by decide), ?_⟩
  refine List.forall_mem_cons.mpr ⟨s_iload_n C (by decide +kernel : decode c_X10_swayedBy 6 = .ok (.iload_n 3, 1)) rfl rfl rfl, ?_⟩
  refine List.forall_mem_cons.mpr ⟨s_iconst C (by decide +kernel : decode c_X10_swayedBy 7 = .ok (.iconst 1, 1)) rfl rfl (by decide), ?_⟩
  refine List.forall_mem_cons.mpr ⟨s_iadd C (by decide +kernel : decode c_X10_swayedBy 8 = .ok (.iadd, 1)) rfl rfl, ?_⟩
  refine List.forall_mem_cons.mpr ⟨s_bipush C (by decide +kernel : decode c_X10_swayedBy 9 = .ok (.bipush 10, 2)) rfl rfl (by decide), ?_⟩
  refine List.forall_mem_cons.mpr ⟨s_irem C (by decide +kernel : decode c_X10_swayedBy 11 = .ok (.irem, 1)) rfl rfl, ?_⟩
  refine List.forall_mem_cons.mpr ⟨s_ishl C (by decide +kernel : decode c_X10_swayedBy 12 = .ok (.ishl, 1)) rfl rfl, ?_⟩
  refine List.forall_mem_cons.mpr ⟨s_istore C (by decide +kernel : decode c_X10_swayedBy 13 = .ok (.istore 7, 2)) rfl rfl (by decide), ?_⟩
  refine List.forall_mem_cons.mpr ⟨s_aload_n C (by decide +kernel : decode c_X10_swayedBy 15 = .ok (.aload_n 0, 1)) rfl rfl rfl, ?_⟩
  refine List.forall_mem_cons.mpr ⟨s_getf C (by decide +kernel : decode c_X10_swayedBy 16 = .ok (.getfield 7, 3)) rfl rfl em_cl_X10 (by decide) ew691 rfl, ?_⟩
  refine List.forall_mem_cons.mpr ⟨s_bipush C (by decide +kernel : decode c_X10_swayedBy 19 = .ok (.bipush 8, 2)) rfl rfl (by decide), ?_⟩
  refine List.forall_mem_cons.mpr ⟨s_iload_n C (by decide +kernel : decode c_X10_swayedBy 21 = .ok (.iload_n 1, 1)) rfl rfl rfl, ?_⟩
  refine List.forall_mem_cons.mpr ⟨s_iadd C (by decide +kernel : decode c_X10_swayedBy 22 = .ok (.iadd, 1)) rfl rfl, ?_⟩
  refine List.forall_mem_cons.mpr ⟨s_iald C (by decide +kernel : decode c_X10_swayedBy 23 = .ok (.iaload, 1)) rfl rfl, ?_⟩
  refine List.forall_mem_cons.mpr ⟨s_istore C (by decide +kernel : decode c_X10_swayedBy 24 = .ok (.istore 8, 2)) rfl rfl (by decide), ?_⟩
  refine List.forall_mem_cons.mpr ⟨s_iload C (by decide +kernel : decode c_X10_swayedBy 26 = .ok (.iload 4, 2)) rfl rfl, ?_⟩
  refine List.forall_mem_cons.mpr ⟨s_iload C (by decide +kernel : decode c_X10_swayedBy 28 = .ok (.iload 6, 2)) rfl rfl, ?_⟩
  refine List.forall_mem_cons.mpr ⟨s_iconst C (by decide +kernel : decode c_X10_swayedBy 30 = .ok (.iconst (-1), 1)) rfl rfl (by decide), ?_⟩
  refine List.forall_mem_cons.mpr ⟨s_ixor C (by decide +kernel : decode c_X10_swayedBy 31 = .ok (.ixor, 1)) rfl rfl, ?_⟩
  refine List.forall_mem_cons.mpr ⟨s_iand C (by decide +kernel : decode c_X10_swayedBy 32 = .ok (.iand, 1)) rfl rfl, ?_⟩
  refine List.forall_mem_cons.mpr ⟨s_iload C (by decide +kernel : decode c_X10_swayedBy 33 = .ok (.iload 5, 2)) rfl rfl, ?_⟩
  refine List.forall_mem_cons.mpr ⟨s_iload C (by decide +kernel : decode c_X10_swayedBy 35 = .ok (.iload 6, 2)) rfl rfl, ?_⟩
  refine List.forall_mem_cons.mpr ⟨s_iand C (by decide +kernel : decode c_X10_swayedBy 37 = .ok (.iand, 1)) rfl rfl, ?_⟩
  refine List.forall_mem_cons.mpr ⟨s_ior C (by decide +kernel : decode c_X10_swayedBy 38 = .ok (.ior, 1)) rfl rfl, ?_⟩
  refine List.forall_mem_cons.mpr ⟨s_istore C (by decide +kernel : decode c_X10_swayedBy 39 = .ok (.istore 9, 2)) rfl rfl (by decide), ?_⟩
  refine List.forall_mem_cons.mpr ⟨s_iload_n C (by decide +kernel : decode c_X10_swayedBy 41 = .ok (.iload_n 2, 1)) rfl rfl rfl, ?_⟩
  refine List.forall_mem_cons.mpr ⟨s_iload_n C (by decide +kernel : decode c_X10_swayedBy 42 = .ok (.iload_n 1, 1)) rfl rfl rfl, ?_⟩
  refine List.forall_mem_cons.mpr ⟨s_icmpge C (by decide +kernel : decode c_X10_swayedBy 43 = .ok (.if_icmp .ge 8, 3)) (by decide) rfl rfl rfl, ?_⟩
  refine List.forall_mem_cons.mpr ⟨s_iload C (by decide +kernel : decode c_X10_swayedBy 46 = .ok (.iload 9, 2)) rfl rfl, ?_⟩
  refine List.forall_mem_cons.mpr ⟨s_goto C (by decide +kernel : decode c_X10_swayedBy 48 = .ok (.goto 5, 3)) (by decide) rfl, ?_⟩
  refine List.forall_mem_cons.mpr ⟨s_iload C (by decide +kernel : decode c_X10_swayedBy 51 = .ok (.iload 4, 2)) rfl rfl, ?_⟩
  refine List.forall_mem_cons.mpr ⟨s_istore C (by decide +kernel : decode c_X10_swayedBy 53 = .ok (.istore 10, 2)) rfl rfl (by decide), ?_⟩
  refine List.forall_mem_cons.mpr ⟨s_aload_n C (by decide +kernel : decode c_X10_swayedBy 55 = .ok (.aload_n 0, 1)) rfl rfl rfl, ?_⟩
  refine List.forall_mem_cons.mpr ⟨s_getf C (by decide +kernel : decode c_X10_swayedBy 56 = .ok (.getfield 7, 3)) rfl rfl em_cl_X10 (by decide) ew691 rfl, ?_⟩
  refine List.forall_mem_cons.mpr ⟨s_iconst C (by decide +kernel : decode c_X10_swayedBy 59 = .ok (.iconst 5, 1)) rfl rfl (by decide), ?_⟩
  refine List.forall_mem_cons.mpr ⟨s_iald C (by decide +kernel : decode c_X10_swayedBy 60 = .ok (.iaload, 1)) rfl rfl, ?_⟩
  refine List.forall_mem_cons.mpr ⟨s_iload C (by decide +kernel : decode c_X10_swayedBy 61 = .ok (.iload 6, 2)) rfl rfl, ?_⟩
  refine List.forall_mem_cons.mpr ⟨s_iand C (by decide +kernel : decode c_X10_swayedBy 63 = .ok (.iand, 1)) rfl rfl, ?_⟩
  refine List.forall_mem_cons.mpr ⟨s_ifeq C (by decide +kernel : decode c_X10_swayedBy 64 = .ok (.ifCond .eq 8, 3)) (by decide) rfl rfl rfl, ?_⟩
  refine List.forall_mem_cons.mpr ⟨s_iload C (by decide +kernel : decode c_X10_swayedBy 67 = .ok (.iload 4, 2)) rfl rfl, ?_⟩
  refine List.forall_mem_cons.mpr ⟨s_goto C (by decide +kernel : decode c_X10_swayedBy 69 = .ok (.goto 5, 3)) (by decide) rfl, ?_⟩
  refine List.forall_mem_cons.mpr ⟨s_iload C (by decide +kernel : decode c_X10_swayedBy 72 = .ok (.iload 10, 2)) rfl rfl, ?_⟩
  refine List.forall_mem_cons.mpr ⟨s_istore C (by decide +kernel : decode c_X10_swayedBy 74 = .ok (.istore 11, 2)) rfl rfl (by decide), ?_⟩
  refine List.forall_mem_cons.mpr ⟨s_iload C (by decide +kernel : decode c_X10_swayedBy 76 = .ok (.iload 11, 2)) rfl rfl, ?_⟩
  refine List.forall_mem_cons.mpr ⟨s_iload C (by decide +kernel : decode c_X10_swayedBy 78 = .ok (.iload 7, 2)) rfl rfl, ?_⟩
  refine List.forall_mem_cons.mpr ⟨s_iconst C (by decide +kernel : decode c_X10_swayedBy 80 = .ok (.iconst (-1), 1)) rfl rfl (by decide), ?_⟩
  refine List.forall_mem_cons.mpr ⟨s_ixor C (by decide +kernel : decode c_X10_swayedBy 81 = .ok (.ixor, 1)) rfl rfl, ?_⟩
  refine List.forall_mem_cons.mpr ⟨s_iand C (by decide +kernel : decode c_X10_swayedBy 82 = .ok (.iand, 1)) rfl rfl, ?_⟩
  refine List.forall_mem_cons.mpr ⟨s_iload C (by decide +kernel : decode c_X10_swayedBy 83 = .ok (.iload 4, 2)) rfl rfl, ?_⟩
  refine List.forall_mem_cons.mpr ⟨s_iconst C (by decide +kernel : decode c_X10_swayedBy 85 = .ok (.iconst (-1), 1)) rfl rfl (by decide), ?_⟩
  refine List.forall_mem_cons.mpr ⟨s_ixor C (by decide +kernel : decode c_X10_swayedBy 86 = .ok (.ixor, 1)) rfl rfl, ?_⟩
  refine List.forall_mem_cons.mpr ⟨s_iload C (by decide +kernel : decode c_X10_swayedBy 87 = .ok (.iload 7, 2)) rfl rfl, ?_⟩
  refine List.forall_mem_cons.mpr ⟨s_iand C (by decide +kernel : decode c_X10_swayedBy 89 = .ok (.iand, 1)) rfl rfl, ?_⟩
  refine List.forall_mem_cons.mpr ⟨s_ior C (by decide +kernel : decode c_X10_swayedBy 90 = .ok (.ior, 1)) rfl rfl, ?_⟩
  refine List.forall_mem_cons.mpr ⟨s_istore C (by decide +kernel : decode c_X10_swayedBy 91 = .ok (.istore 12, 2)) rfl rfl (by decide), ?_⟩
  refine List.forall_mem_cons.mpr ⟨s_iload C (by decide +kernel : decode c_X10_swayedBy 93 = .ok (.iload 9, 2)) rfl rfl, ?_⟩
  refine List.forall_mem_cons.mpr ⟨s_iload C (by decide +kernel : decode c_X10_swayedBy 95 = .ok (.iload 7, 2)) rfl rfl, ?_⟩
  refine List.forall_mem_cons.mpr ⟨s_iconst C (by decide +kernel : decode c_X10_swayedBy 97 = .ok (.iconst (-1), 1)) rfl rfl (by decide), ?_⟩
  refine List.forall_mem_cons.mpr ⟨s_ixor C (by decide +kernel : decode c_X10_swayedBy 98 = .ok (.ixor, 1)) rfl rfl, ?_⟩
  refine List.forall_mem_cons.mpr ⟨s_iand C (by decide +kernel : decode c_X10_swayedBy 99 = .ok (.iand, 1)) rfl rfl, ?_⟩
  refine List.forall_mem_cons.mpr ⟨s_iload C (by decide +kernel : decode c_X10_swayedBy 100 = .ok (.iload 5, 2)) rfl rfl, ?_⟩
  refine List.forall_mem_cons.mpr ⟨s_iload C (by decide +kernel : decode c_X10_swayedBy 102 = .ok (.iload 7, 2)) rfl rfl, ?_⟩
  refine List.forall_mem_cons.mpr ⟨s_iand C (by decide +kernel : decode c_X10_swayedBy 104 = .ok (.iand, 1)) rfl rfl, ?_⟩
  refine List.forall_mem_cons.mpr ⟨s_ior C (by decide +kernel : decode c_X10_swayedBy 105 = .ok (.ior, 1)) rfl rfl, ?_⟩
  refine List.forall_mem_cons.mpr ⟨s_istore C (by decide +kernel : decode c_X10_swayedBy 106 = .ok (.istore 13, 2)) rfl rfl (by decide), ?_⟩
  refine List.forall_mem_cons.mpr ⟨s_iload C (by decide +kernel : decode c_X10_swayedBy 108 = .ok (.iload 8, 2)) rfl rfl, ?_⟩
  refine List.forall_mem_cons.mpr ⟨s_ifne C (by decide +kernel : decode c_X10_swayedBy 110 = .ok (.ifCond .ne 8, 3)) (by decide) rfl rfl rfl, ?_⟩
  refine List.forall_mem_cons.mpr ⟨s_iload C (by decide +kernel : decode c_X10_swayedBy 113 = .ok (.iload 10, 2)) rfl rfl, ?_⟩
  refine List.forall_mem_cons.mpr ⟨s_goto C (by decide +kernel : decode c_X10_swayedBy 115 = .ok (.goto 49, 3)) (by decide) rfl, ?_⟩
  refine List.forall_mem_cons.mpr ⟨s_iload C (by decide +kernel : decode c_X10_swayedBy 118 = .ok (.iload 8, 2)) rfl rfl, ?_⟩
  refine List.forall_mem_cons.mpr ⟨s_iconst C (by decide +kernel : decode c_X10_swayedBy 120 = .ok (.iconst 1, 1)) rfl rfl (by decide), ?_⟩
  refine List.forall_mem_cons.mpr ⟨s_icmpne C (by decide +kernel : decode c_X10_swayedBy 121 = .ok (.if_icmp .ne 8, 3)) (by decide) rfl rfl rfl, ?_⟩
  refine List.forall_mem_cons.mpr ⟨s_iload C (by decide +kernel : decode c_X10_swayedBy 124 = .ok (.iload 11, 2)) rfl rfl, ?_⟩
  refine List.forall_mem_cons.mpr ⟨s_goto C (by decide +kernel : decode c_X10_swayedBy 126 = .ok (.goto 38, 3)) (by decide) rfl, ?_⟩
  refine List.forall_mem_cons.mpr ⟨s_iload C (by decide +kernel : decode c_X10_swayedBy 129 = .ok (.iload 8, 2)) rfl rfl, ?_⟩
  refine List.forall_mem_cons.mpr ⟨s_iconst C (by decide +kernel : decode c_X10_swayedBy 131 = .ok (.iconst 2, 1)) rfl rfl (by decide), ?_⟩
  refine List.forall_mem_cons.mpr ⟨s_icmpne C (by decide +kernel : decode c_X10_swayedBy 132 = .ok (.if_icmp .ne 8, 3)) (by decide) rfl rfl rfl, ?_⟩
  refine List.forall_mem_cons.mpr ⟨s_iload C (by decide +kernel : decode c_X10_swayedBy 135 = .ok (.iload 9, 2)) rfl rfl, ?_⟩
  refine List.forall_mem_cons.mpr ⟨s_goto C (by decide +kernel : decode c_X10_swayedBy 137 = .ok (.goto 27, 3)) (by decide) rfl, ?_⟩
  refine List.forall_mem_cons.mpr ⟨s_iload C (by decide +kernel : decode c_X10_swayedBy 140 = .ok (.iload 8, 2)) rfl rfl, ?_⟩
  refine List.forall_mem_cons.mpr ⟨s_iconst C (by decide +kernel : decode c_X10_swayedBy 142 = .ok (.iconst 3, 1)) rfl rfl (by decide), ?_⟩
  refine List.forall_mem_cons.mpr ⟨s_icmpne C (by decide +kernel : decode c_X10_swayedBy 143 = .ok (.if_icmp .ne 8, 3)) (by decide) rfl rfl rfl, ?_⟩
  refine List.forall_mem_cons.mpr ⟨s_iload C (by decide +kernel : decode c_X10_swayedBy 146 = .ok (.iload 12, 2)) rfl rfl, ?_⟩
  refine List.forall_mem_cons.mpr ⟨s_goto C (by decide +kernel : decode c_X10_swayedBy 148 = .ok (.goto 16, 3)) (by decide) rfl, ?_⟩
  refine List.forall_mem_cons.mpr ⟨s_iload C (by decide +kernel : decode c_X10_swayedBy 151 = .ok (.iload 8, 2)) rfl rfl, ?_⟩
  refine List.forall_mem_cons.mpr ⟨s_iconst C (by decide +kernel : decode c_X10_swayedBy 153 = .ok (.iconst 4, 1)) rfl rfl (by decide), ?_⟩
  refine List.forall_mem_cons.mpr ⟨s_icmpne C (by decide +kernel : decode c_X10_swayedBy 154 = .ok (.if_icmp .ne 8, 3)) (by decide) rfl rfl rfl, ?_⟩
  refine List.forall_mem_cons.mpr ⟨s_iload C (by decide +kernel : decode c_X10_swayedBy 157 = .ok (.iload 4, 2)) rfl rfl, ?_⟩
  refine List.forall_mem_cons.mpr ⟨s_goto C (by decide +kernel : decode c_X10_swayedBy 159 = .ok (.goto 5, 3)) (by decide) rfl, ?_⟩
  refine List.forall_mem_cons.mpr ⟨s_iload C (by decide +kernel : decode c_X10_swayedBy 162 = .ok (.iload 13, 2)) rfl rfl, ?_⟩
  refine List.forall_mem_cons.mpr ⟨s_iret C (by decide +kernel : decode c_X10_swayedBy 164 = .ok (.ireturn, 1)) hret hlk ⟨Nat.le_refl 0, Nat.le_refl 0⟩, ?_⟩
  exact fun _ h => absurd h List.not_mem_nil
/-- on which matters, of small numbers; the light ones ahead -/
def lgN (w x y : Nat) : Nat := (x ^^^ y) &&& c10 w
def ofN (w x y : Nat) : Nat := if lgN w x y = 0 then x ^^^ y else lgN w x y
theorem lgN_lt {w x y : Nat} (hx : x < 1024) (hy : y < 1024) : lgN w x y < 1024 := and_lt (xor_lt hx hy)
theorem ofN_lt {w x y : Nat} (hx : x < 1024) (hy : y < 1024) : ofN w x y < 1024 := by
  rw [ofN]; split
  · exact xor_lt hx hy
  · exact lgN_lt hx hy
/-- behind a talk of i and j -/
def tlk (bk so : Nat → Int32) (w x y i j : Nat) : Nat → Int32 := if ofN w x y = 0 then so else
  upd (upd so i (swM (bk (8 + i)) (bk 5) i j (so i) (so j) (bitM (lsb (ofN w x y))) (bitM ((lsb (ofN w x y) + 1) % 10)))) j (swM (bk (8 + j)) (bk 5) j i (so j) (so i) (bitM (lsb (ofN w x y))) (bitM ((lsb (ofN w x y) + 1) % 10)))
def sp_X10_talks : em_Sp := fun av hp Q => ∃ bk im kp asd rf qt ab be tx ty at9 st9 tk vl wd it mn so sb my we be9 rw fr i j w x y, av = [.ref 0, .int (nI i), .int (nI j)] ∧ hp = (wM bk im kp asd rf qt ab be tx ty at9 st9 tk vl wd it mn so sb my we be9 rw fr) ∧ i < 6 ∧ j < 6 ∧ bk 5 = nI w ∧ so i = nI x ∧ so j = nI y ∧ x < 1024 ∧ y < 1024 ∧ Q none (wM bk im kp asd rf qt ab be tx ty at9 st9 tk vl wd it mn (tlk bk so w x y i j) sb my we be9 rw fr)
def T_X10_talks : List (Nat × em_Op) := [(0, o_aload 0 1), (1, o_getf 5 17 4), (4, o_iload 1 5), (5, o_aldI 0 6), (6, o_aload 0 7), (7, o_getf 5 17 10), (10, o_iload 2 11), (11, o_aldI 0 12), (12, o_ixor 13), (13, o_istore 3 14), (14, o_iload 3 15), (15, o_aload 0 16), (16, o_getf 5 0 19), (19, o_iconst 5 20), (20, o_aldI 0 21), (21, o_iconst (-1) 22), (22, o_ixor 23), (23, o_iand 24), (24, o_istore 4 26), (26, o_iload 4 28), (28, o_ifeq 36 31), (31, o_iload 4 33), (33, o_goto 37), (36, o_iload 3 37), (37, o_istore 5 39), (39, o_iload 5 41), (41, o_ifne 45 44), (44, o_vret), (45, o_iconst 0 46), (46, o_istore 6 48), (48, o_iload 5 50), (50, o_iload 6 52), (52, o_ishr 53), (53, o_iconst 1 54), (54, o_iand 55), (55, o_ifne 64 58), (58, o_iinc 6 1 61), (61, o_goto 48), (64, o_aload 0 65), (65, o_iload 1 66), (66, o_iload 2 67), (67, o_iload 6 69), (69, o_aload 0 70), (70, o_getf 5 17 73), (73, o_iload 1 74), (74, o_aldI 0 75), (75, o_aload 0 76), (76, o_getf 5 17 79), (79, o_iload 2 80), (80, o_aldI 0 81), (81, o_call 6 (some 5) (sp_X10_swayedBy) 84), (84, o_istore 7 86), (86, o_aload 0 87), (87, o_iload 2 88), (88, o_iload 1 89), (89, o_iload 6 91), (91, o_aload 0 92), (92, o_getf 5 17 95), (95, o_iload 2 96), (96, o_aldI 0 97), (97, o_aload 0 98), (98, o_getf 5 17 101), (101, o_iload 1 102), (102, o_aldI 0 103), (103, o_call 6 (some 5) (sp_X10_swayedBy) 106), (106, o_istore 8 108), (108, o_aload 0 109), (109, o_getf 5 17 112), (112, o_iload 1 113), (113, o_iload 7 115), (115, o_iast 116), (116, o_aload 0 117), (117, o_getf 5 17 120), (120, o_iload 2 121), (121, o_iload 8 123), (123, o_iast 124), (124, o_vret)]
theorem me_X10_talks : em_Me T_X10_talks 9 sp_X10_talks := by
  intro Q K hK hle av hp hs
  obtain ⟨bk, im, kp, asd, rf, qt, ab, be, tx, ty, at9, st9, tk, vl, wd, it, mn, so, sb, my, we, be9, rw, fr, i, j, w, x, y, rfl, rfl, hi, hj, hw, hx, hy, hx9, hy9, hq⟩ := hs
  refine ⟨Nat.le_of_ble_eq_true rfl, ?_⟩
  have hol := ofN_lt (w := w) hx9 hy9
  have fin : ∀ o, o = ofN w x y → K 37 [some (.ref 0), some (.int (nI i)), some (.int (nI j)), some (.int (nI (x ^^^ y))), some (.int (nI (lgN w x y))), none, none, none, none] [.int (nI o)] (wM bk im kp asd rf qt ab be tx ty at9 st9 tk vl wd it mn so sb my we be9 rw fr) := by
    intro o ho
    rw [tlk, ← ho] at hq
    rw [← ho] at hol
    refine hK 24 6 37 _ _ _ ?_
    refine ⟨fun z => ?_, fun z => ?_⟩
    · have ho0 : ¬ o = 0 := fun q => z (by rw [q]; rfl)
      rw [if_neg ho0] at hq
      obtain ⟨hl1, hl2⟩ := lsb_lt o hol (by omega)
      have loop : ∀ (r : Nat), r ≤ 10 → lsb o = lsR o r → K 48 [some (.ref 0), some (.int (nI i)), some (.int (nI j)), some (.int (nI (x ^^^ y))), some (.int (nI (lgN w x y))), some (.int (nI o)), some (.int (nI (10 - r))), none, none] [] (wM bk im kp asd rf qt ab be tx ty at9 st9 tk vl wd it mn so sb my we be9 rw fr) := by
        intro r
        induction r with
        | zero =>
          intro hr he
          rw [lsR] at he
          omega
        | succ r ih =>
          intro hr he
          rw [lsR] at he
          rw [show 10 - (r + 1) = 9 - r by omega]
          have hbit := bit0 (o := o) (m := 9 - r) (by omega) (by omega)
          refine hK 30 9999 48 _ _ _ ?_
          refine ⟨fun z2 => ?_, fun z2 => ?_⟩
          · have ht : o.testBit (9 - r) = true := by
              cases hb : o.testBit (9 - r) with
              | true => rfl
              | false => exact absurd (hbit.mpr hb) z2
            rw [if_pos ht] at he
            rw [he] at hq hl1
            refine ⟨i, rfl, hi, j, rfl, hj, ?_⟩
            refine ⟨_, _, _, _, _, _, _, _, _, _, _, _, _, _, _, _, _, _, _, _, _, _, _, _, i, j, 9 - r, _, _, rfl, rfl, hi, hj, hl1, ?_⟩
            refine ⟨j, rfl, hj, i, rfl, hi, ?_⟩
            exact ⟨_, _, _, _, _, _, _, _, _, _, _, _, _, _, _, _, _, _, _, _, _, _, _, _, j, i, 9 - r, _, _, rfl, rfl, hj, hi, hl1, i, rfl, hi, j, rfl, hj, hq⟩
          · have ht : ¬ o.testBit (9 - r) = true := by rw [hbit.mp z2]; exact Bool.false_ne_true
            rw [if_neg ht] at he
            have := ih (by omega) he
            rw [show 10 - r = (9 - r) + 1 by omega, ← nI_1 (9 - r)] at this
            exact this
      have := loop 10 (Nat.le_refl _) rfl
      exact this
    · have ho0 : o = 0 := (nI_eq (b := 0) (by omega) (by omega)).mp z
      rw [if_pos ho0] at hq
      exact hq
  have e1 : so i ^^^ so j = nI (x ^^^ y) := by rw [hx, hy, nI_xor]
  have e2 : nI (x ^^^ y) &&& (bk 5 ^^^ (-1)) = nI (lgN w x y) := by rw [hw]; exact and_c10 (xor_lt hx9 hy9) w
  have hll := lgN_lt (w := w) hx9 hy9
  have ent : K 26 [some (.ref 0), some (.int (nI i)), some (.int (nI j)), some (.int (nI (x ^^^ y))), some (.int (nI (lgN w x y))), none, none, none, none] [] (wM bk im kp asd rf qt ab be tx ty at9 st9 tk vl wd it mn so sb my we be9 rw fr) := by
    refine hK 19 5 26 _ _ _ ?_
    refine ⟨fun z => ?_, fun z => ?_⟩
    · exact hle _ _ _ _ _ (by repeat (first | exact trivial | refine ⟨rfl, ?_⟩)) (fin _ (by rw [ofN, if_pos ((nI_eq (b := 0) (by omega) (by omega)).mp z)]))
    · exact hle _ _ _ _ _ (by repeat (first | exact trivial | refine ⟨rfl, ?_⟩)) (fin _ (by rw [ofN, if_neg (fun q => z (by rw [q]; rfl))]))
  rw [← e2, ← e1] at ent
  have hll := lgN_lt (w := w) hx9 hy9
  refine hK 0 19 0 _ _ _ ?_
  exact ⟨i, rfl, hi, j, rfl, hj, 5, rfl, by decide, hle _ _ _ _ _ (by repeat (first | exact trivial | refine ⟨rfl, ?_⟩)) ent⟩
abbrev rm_X10_talks : Room := { frames := 1, cells := 0, slots := 0, locals := 33 }
set_option maxRecDepth 100000 in
set_option maxHeartbeats 4000000 in
theorem ct_X10_talks (l : Launch) (D : va_G) (dA : Nat → ClassId) (σ : Nat → Nat) : em_CT l D em_cl dA σ (em_F σ) y_X10_talks c_X10_talks 9 (Option.none : Option ClassFile.FieldType) rm_X10_talks (sp_X10_talks ) := by
  refine em_CT_of (T := T_X10_talks ) (em_F_ok σ) (by decide) (fun p e s m args below meth c A ρ Q C hFok hF hret hlk hin => ?_) (me_X10_talks )
  unfold T_X10_talks
  refine List.forall_mem_cons.mpr ⟨s_aload_n C (by decide +kernel : decode c_X10_talks 0 = .ok (.aload_n 0, 1)) rfl rfl rfl, ?_⟩
  refine List.forall_mem_cons.mpr ⟨s_getf C (by decide +kernel : decode c_X10_talks 1 = .ok (.getfield 32, 3)) rfl rfl em_cl_X10 (by decide) ew708 rfl, ?_⟩
  refine List.forall_mem_cons.mpr ⟨s_iload_n C (by decide +kernel : decode c_X10_talks 4 = .ok (.iload_n 1, 1)) rfl rfl rfl, ?_⟩
  refine List.forall_mem_cons.mpr ⟨s_iald C (by decide +kernel : decode c_X10_talks 5 = .ok (.iaload, 1)) rfl rfl, ?_⟩
  refine List.forall_mem_cons.mpr ⟨s_aload_n C (by decide +kernel : decode c_X10_talks 6 = .ok (.aload_n 0, 1)) rfl rfl rfl, ?_⟩
  refine List.forall_mem_cons.mpr ⟨s_getf C (by decide +kernel : decode c_X10_talks 7 = .ok (.getfield 32, 3)) rfl rfl em_cl_X10 (by decide) ew708 rfl, ?_⟩
  refine List.forall_mem_cons.mpr ⟨s_iload_n C (by decide +kernel : decode c_X10_talks 10 = .ok (.iload_n 2, 1)) rfl rfl rfl, ?_⟩
  refine List.forall_mem_cons.mpr ⟨s_iald C (by decide +kernel : decode c_X10_talks 11 = .ok (.iaload, 1)) rfl rfl, ?_⟩
  refine List.forall_mem_cons.mpr ⟨s_ixor C (by decide +kernel : decode c_X10_talks 12 = .ok (.ixor, 1)) rfl rfl, ?_⟩
  refine List.forall_mem_cons.mpr ⟨s_istore_n C (by decide +kernel : decode c_X10_talks 13 = .ok (.istore_n 3, 1)) rfl rfl rfl (by decide), ?_⟩
  refine List.forall_mem_cons.mpr ⟨s_iload_n C (by decide +kernel : decode c_X10_talks 14 = .ok (.iload_n 3, 1)) rfl rfl rfl, ?_⟩
  refine List.forall_mem_cons.mpr ⟨s_aload_n C (by decide +kernel : decode c_X10_talks 15 = .ok (.aload_n 0, 1)) rfl rfl rfl, ?_⟩
  refine List.forall_mem_cons.mpr ⟨s_getf C (by decide +kernel : decode c_X10_talks 16 = .ok (.getfield 7, 3)) rfl rfl em_cl_X10 (by decide) ew691 rfl, ?_⟩
  refine List.forall_mem_cons.mpr ⟨s_iconst C (by decide +kernel : decode c_X10_talks 19 = .ok (.iconst 5, 1)) rfl rfl (by decide), ?_⟩
  refine List.forall_mem_cons.mpr ⟨s_iald C (by decide +kernel : decode c_X10_talks 20 = .ok (.iaload, 1)) rfl rfl, ?_⟩
  refine List.forall_mem_cons.mpr ⟨s_iconst C (by decide +kernel : decode c_X10_talks 21 = .ok (.iconst (-1), 1)) rfl rfl (by decide), ?_⟩
  refine List.forall_mem_cons.mpr ⟨s_ixor C (by decide +kernel : decode c_X10_talks 22 = .ok (.ixor, 1)) rfl rfl, ?_⟩
  refine List.forall_mem_cons.mpr ⟨s_iand C (by decide +kernel : decode c_X10_talks 23 = .ok (.iand, 1)) rfl rfl, ?_⟩
  refine List.forall_mem_cons.mpr ⟨s_istore C (by decide +kernel : decode c_X10_talks 24 = .ok (.istore 4, 2)) rfl rfl (by decide), ?_⟩
  refine List.forall_mem_cons.mpr ⟨s_iload C (by decide +kernel : decode c_X10_talks 26 = .ok (.iload 4, 2)) rfl rfl, ?_⟩
  refine List.forall_mem_cons.mpr ⟨s_ifeq C (by decide +kernel : decode c_X10_talks 28 = .ok (.ifCond .eq 8, 3)) (by decide) rfl rfl rfl, ?_⟩
  refine List.forall_mem_cons.mpr ⟨s_iload C (by decide +kernel : decode c_X10_talks 31 = .ok (.iload 4, 2)) rfl rfl, ?_⟩
  refine List.forall_mem_cons.mpr ⟨s_goto C (by decide +kernel : decode c_X10_talks 33 = .ok (.goto 4, 3)) (by decide) rfl, ?_⟩
  refine List.forall_mem_cons.mpr ⟨s_iload_n C (by decide +kernel : decode c_X10_talks 36 = .ok (.iload_n 3, 1)) rfl rfl rfl, ?_⟩
  refine List.forall_mem_cons.mpr ⟨s_istore C (by decide +kernel : decode c_X10_talks 37 = .ok (.istore 5, 2)) rfl rfl (by decide), ?_⟩
  refine List.forall_mem_cons.mpr ⟨s_iload C (by decide +kernel : decode c_X10_talks 39 = .ok (.iload 5, 2)) rfl rfl, ?_⟩
  refine List.forall_mem_cons.mpr ⟨s_ifne C (by decide +kernel : decode c_X10_talks 41 = .ok (.ifCond .ne 4, 3)) (by decide) rfl rfl rfl, ?_⟩
  refine List.forall_mem_cons.mpr ⟨s_vret C (by decide +kernel : decode c_X10_talks 44 = .ok (.return_, 1)) hret hlk ⟨Nat.le_refl 0, Nat.le_refl 0⟩, ?_⟩
  refine List.forall_mem_cons.mpr ⟨s_iconst C (by decide +kernel : decode c_X10_talks 45 = .ok (.iconst 0, 1)) rfl rfl (by decide), ?_⟩
  refine List.forall_mem_cons.mpr ⟨s_istore C (by decide +kernel : decode c_X10_talks 46 = .ok (.istore 6, 2)) rfl rfl (by decide), ?_⟩
  refine List.forall_mem_cons.mpr ⟨s_iload C (by decide +kernel : decode c_X10_talks 48 = .ok (.iload 5, 2)) rfl rfl, ?_⟩
  refine List.forall_mem_cons.mpr ⟨s_iload C (by decide +kernel : decode c_X10_talks 50 = .ok (.iload 6, 2)) rfl rfl, ?_⟩
  refine List.forall_mem_cons.mpr ⟨s_ishr C (by decide +kernel : decode c_X10_talks 52 = .ok (.ishr, 1)) rfl rfl, ?_⟩
  refine List.forall_mem_cons.mpr ⟨s_iconst C (by decide +kernel : decode c_X10_talks 53 = .ok (.iconst 1, 1)) rfl rfl (by decide), ?_⟩
  refine List.forall_mem_cons.mpr ⟨s_iand C (by decide +kernel : decode c_X10_talks 54 = .ok (.iand, 1)) rfl rfl, ?_⟩
  refine List.forall_mem_cons.mpr ⟨s_ifne C (by decide +kernel : decode c_X10_talks 55 = .ok (.ifCond .ne 9, 3)) (by decide) rfl rfl rfl, ?_⟩
  refine List.forall_mem_cons.mpr ⟨s_iinc C (by decide +kernel : decode c_X10_talks 58 = .ok (.iinc 6 1, 3)) rfl rfl (by decide) (by decide), ?_⟩
  refine List.forall_mem_cons.mpr ⟨s_goto C (by decide +kernel : decode c_X10_talks 61 = .ok (.goto (-13), 3)) (by decide) rfl, ?_⟩
  refine List.forall_mem_cons.mpr ⟨s_aload_n C (by decide +kernel : decode c_X10_talks 64 = .ok (.aload_n 0, 1)) rfl rfl rfl, ?_⟩
  refine List.forall_mem_cons.mpr ⟨s_iload_n C (by decide +kernel : decode c_X10_talks 65 = .ok (.iload_n 1, 1)) rfl rfl rfl, ?_⟩
  refine List.forall_mem_cons.mpr ⟨s_iload_n C (by decide +kernel : decode c_X10_talks 66 = .ok (.iload_n 2, 1)) rfl rfl rfl, ?_⟩
  refine List.forall_mem_cons.mpr ⟨s_iload C (by decide +kernel : decode c_X10_talks 67 = .ok (.iload 6, 2)) rfl rfl, ?_⟩
  refine List.forall_mem_cons.mpr ⟨s_aload_n C (by decide +kernel : decode c_X10_talks 69 = .ok (.aload_n 0, 1)) rfl rfl rfl, ?_⟩
  refine List.forall_mem_cons.mpr ⟨s_getf C (by decide +kernel : decode c_X10_talks 70 = .ok (.getfield 32, 3)) rfl rfl em_cl_X10 (by decide) ew708 rfl, ?_⟩
  refine List.forall_mem_cons.mpr ⟨s_iload_n C (by decide +kernel : decode c_X10_talks 73 = .ok (.iload_n 1, 1)) rfl rfl rfl, ?_⟩
  refine List.forall_mem_cons.mpr ⟨s_iald C (by decide +kernel : decode c_X10_talks 74 = .ok (.iaload, 1)) rfl rfl, ?_⟩
  refine List.forall_mem_cons.mpr ⟨s_aload_n C (by decide +kernel : decode c_X10_talks 75 = .ok (.aload_n 0, 1)) rfl rfl rfl, ?_⟩
  refine List.forall_mem_cons.mpr ⟨s_getf C (by decide +kernel : decode c_X10_talks 76 = .ok (.getfield 32, 3)) rfl rfl em_cl_X10 (by decide) ew708 rfl, ?_⟩
  refine List.forall_mem_cons.mpr ⟨s_iload_n C (by decide +kernel : decode c_X10_talks 79 = .ok (.iload_n 2, 1)) rfl rfl rfl, ?_⟩
  refine List.forall_mem_cons.mpr ⟨s_iald C (by decide +kernel : decode c_X10_talks 80 = .ok (.iaload, 1)) rfl rfl, ?_⟩
  refine List.forall_mem_cons.mpr ⟨s_callV C hFok hF (ct_X10_swayedBy l D dA σ) ⟨rfl, rfl⟩ ew931 em_cl_X10 ew928 ew930 ewp31 ew6 ⟨by decide, by decide, by decide +kernel⟩ ⟨by decide, by decide⟩ (by decide +kernel : decode c_X10_talks 81 = .ok (.invokevirtual 188, 3)) rfl rfl ⟨Nat.zero_le _, Nat.zero_le _⟩, ?_⟩
  refine List.forall_mem_cons.mpr ⟨s_istore C (by decide +kernel : decode c_X10_talks 84 = .ok (.istore 7, 2)) rfl rfl (by decide), ?_⟩
  refine List.forall_mem_cons.mpr ⟨s_aload_n C (by decide +kernel : decode c_X10_talks 86 = .ok (.aload_n 0, 1)) rfl rfl rfl, ?_⟩
  refine List.forall_mem_cons.mpr ⟨s_iload_n C (by decide +kernel : decode c_X10_talks 87 = .ok (.iload_n 2, 1)) rfl rfl rfl, ?_⟩
  refine List.forall_mem_cons.mpr ⟨s_iload_n C (by decide +kernel : decode c_X10_talks 88 = .ok (.iload_n 1, 1)) rfl rfl rfl, ?_⟩
  refine List.forall_mem_cons.mpr ⟨s_iload C (by decide +kernel : decode c_X10_talks 89 = .ok (.iload 6, 2)) rfl rfl, ?_⟩
  refine List.forall_mem_cons.mpr ⟨s_aload_n C (by decide +kernel : decode c_X10_talks 91 = .ok (.aload_n 0, 1)) rfl rfl rfl, ?_⟩
  refine List.forall_mem_cons.mpr ⟨s_getf C (by decide +kernel : decode c_X10_talks 92 = .ok (.getfield 32, 3)) rfl rfl em_cl_X10 (by decide) ew708 rfl, ?_⟩
  refine List.forall_mem_cons.mpr ⟨s_iload_n C (by decide +kernel : decode c_X10_talks 95 = .ok (.iload_n 2, 1)) rfl rfl rfl, ?_⟩
  refine List.forall_mem_cons.mpr ⟨s_iald C (by decide +kernel : decode c_X10_talks 96 = .ok (.iaload, 1)) rfl rfl, ?_⟩
  refine List.forall_mem_cons.mpr ⟨s_aload_n C (by decide +kernel : decode c_X10_talks 97 = .ok (.aload_n 0, 1)) rfl rfl rfl, ?_⟩
  refine List.forall_mem_cons.mpr ⟨s_getf C (by decide +kernel : decode c_X10_talks 98 = .ok (.getfield 32, 3)) rfl rfl em_cl_X10 (by decide) ew708 rfl, ?_⟩
  refine List.forall_mem_cons.mpr ⟨s_iload_n C (by decide +kernel : decode c_X10_talks 101 = .ok (.iload_n 1, 1)) rfl rfl rfl, ?_⟩
  refine List.forall_mem_cons.mpr ⟨s_iald C (by decide +kernel : decode c_X10_talks 102 = .ok (.iaload, 1)) rfl rfl, ?_⟩
  refine List.forall_mem_cons.mpr ⟨s_callV C hFok hF (ct_X10_swayedBy l D dA σ) ⟨rfl, rfl⟩ ew931 em_cl_X10 ew928 ew930 ewp31 ew6 ⟨by decide, by decide, by decide +kernel⟩ ⟨by decide, by decide⟩ (by decide +kernel : decode c_X10_talks 103 = .ok (.invokevirtual 188, 3)) rfl rfl ⟨Nat.zero_le _, Nat.zero_le _⟩, ?_⟩
  refine List.forall_mem_cons.mpr ⟨s_istore C (by decide +kernel : decode c_X10_talks 106 = .ok (.istore 8, 2)) rfl rfl (by decide), ?_⟩
  refine List.forall_mem_cons.mpr ⟨s_aload_n C (by decide +kernel : decode c_X10_talks 108 = .ok (.aload_n 0, 1)) rfl rfl rfl, ?_⟩
  refine List.forall_mem_cons.mpr ⟨s_getf C (by decide +kernel : decode c_X10_talks 109 = .ok (.getfield 32, 3)) rfl rfl em_cl_X10 (by decide) ew708 rfl, ?_⟩
  refine List.forall_mem_cons.mpr ⟨s_iload_n C (by decide +kernel : decode c_X10_talks 112 = .ok (.iload_n 1, 1)) rfl rfl rfl, ?_⟩
  refine List.forall_mem_cons.mpr ⟨s_iload C (by decide +kernel : decode c_X10_talks 113 = .ok (.iload 7, 2)) rfl rfl, ?_⟩
  refine List.forall_mem_cons.mpr ⟨s_iast C (by decide +kernel : decode c_X10_talks 115 = .ok (.iastore, 1)) rfl rfl, ?_⟩
  refine List.forall_mem_cons.mpr ⟨s_aload_n C (by decide +kernel : decode c_X10_talks 116 = .ok (.aload_n 0, 1)) rfl rfl rfl, ?_⟩
  refine List.forall_mem_cons.mpr ⟨s_getf C (by decide +kernel : decode c_X10_talks 117 = .ok (.getfield 32, 3)) rfl rfl em_cl_X10 (by decide) ew708 rfl, ?_⟩
  refine List.forall_mem_cons.mpr ⟨s_iload_n C (by decide +kernel : decode c_X10_talks 120 = .ok (.iload_n 2, 1)) rfl rfl rfl, ?_⟩
  refine List.forall_mem_cons.mpr ⟨s_iload C (by decide +kernel : decode c_X10_talks 121 = .ok (.iload 8, 2)) rfl rfl, ?_⟩
  refine List.forall_mem_cons.mpr ⟨s_iast C (by decide +kernel : decode c_X10_talks 123 = .ok (.iastore, 1)) rfl rfl, ?_⟩
  refine List.forall_mem_cons.mpr ⟨s_vret C (by decide +kernel : decode c_X10_talks 124 = .ok (.return_, 1)) hret hlk ⟨Nat.le_refl 0, Nat.le_refl 0⟩, ?_⟩
  exact fun _ h => absurd h List.not_mem_nil
