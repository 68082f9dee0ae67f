/-! ===== Minds ===== -/
def mo (m : Int64) (p : Int32) : Int32 := (m >>> ((10 * p).toInt64 &&& 63)).toInt32 &&& 1023
def mw (m : Int64) (p x : Int32) : Int64 := (m &&& ((Int64.ofInt 1023 <<< ((10 * p).toInt64 &&& 63)) ^^^ (-1))) ||| (x.toInt64 <<< ((10 * p).toInt64 &&& 63))
def sp_X5_of : em_Sp := fun av hp Q => ∃ m p, av = [.long m, .int p] ∧ Q (some (.int (mo m p))) hp
def T_X5_of : List (Nat × em_Op) := [(0, o_lload 0 1), (1, o_iconst 10 3), (3, o_iload 2 4), (4, o_imul 5), (5, o_lshr 6), (6, o_l2i 7), (7, o_iconst 1023 10), (10, o_iand 11), (11, o_iret)]
theorem me_X5_of : em_Me T_X5_of 3 sp_X5_of := by
  intro Q K hK hle av hp hs
  obtain ⟨m, p, rfl, hq⟩ := hs
  exact ⟨Nat.le_of_ble_eq_true rfl, hK 0 99 0 _ _ _ hq⟩
abbrev rm_X5_of : Room := { frames := 0, cells := 0, slots := 0, locals := 0 }
set_option maxRecDepth 100000 in
set_option maxHeartbeats 4000000 in
theorem ct_X5_of (l : Launch) (D : va_G) (dA : Nat → ClassId) (σ : Nat → Nat) : em_CT l D em_cl dA σ (em_F σ) y_X5_of c_X5_of 3 (Option.some ClassFile.FieldType.int) rm_X5_of (sp_X5_of ) := by
  refine em_CT_of (T := T_X5_of ) (em_F_ok σ) (by decide) (fun p e s m args below meth c A ρ Q C hFok hF hret hlk hin => ?_) (me_X5_of )
  unfold T_X5_of
  refine List.forall_mem_cons.mpr ⟨s_lload_n C (by decide +kernel : decode c_X5_of 0 = .ok (.lload_n 0, 1)) rfl rfl rfl, ?_⟩
  refine List.forall_mem_cons.mpr ⟨s_bipush C (by decide +kernel : decode c_X5_of 1 = .ok (.bipush 10, 2)) rfl rfl (by decide), ?_⟩
  refine List.forall_mem_cons.mpr ⟨s_iload_n C (by decide +kernel : decode c_X5_of 3 = .ok (.iload_n 2, 1)) rfl rfl rfl, ?_⟩
  refine List.forall_mem_cons.mpr ⟨s_imul C (by decide +kernel : decode c_X5_of 4 = .ok (.imul, 1)) rfl rfl, ?_⟩
  refine List.forall_mem_cons.mpr ⟨s_lshr C (by decide +kernel : decode c_X5_of 5 = .ok (.lshr, 1)) rfl rfl, ?_⟩
  refine List.forall_mem_cons.mpr ⟨s_l2i C (by decide +kernel : decode c_X5_of 6 = .ok (.l2i, 1)) rfl rfl, ?_⟩
  refine List.forall_mem_cons.mpr ⟨s_sipush C (by decide +kernel : decode c_X5_of 7 = .ok (.sipush 1023, 3)) rfl rfl (by decide), ?_⟩
  refine List.forall_mem_cons.mpr ⟨s_iand C (by decide +kernel : decode c_X5_of 10 = .ok (.iand, 1)) rfl rfl, ?_⟩
  refine List.forall_mem_cons.mpr ⟨s_iret C (by decide +kernel : decode c_X5_of 11 = .ok (.ireturn, 1)) hret hlk ⟨Nat.le_refl 0, Nat.le_refl 0⟩, ?_⟩
  exact fun _ h => absurd h List.not_mem_nil
def sp_X5_with : em_Sp := fun av hp Q => ∃ m p x, av = [.long m, .int p, .int x] ∧ Q (some (.long (mw m p x))) hp
def T_X5_with : List (Nat × em_Op) := [(0, o_iconst 10 2), (2, o_iload 2 3), (3, o_imul 4), (4, o_istore 4 6), (6, o_lload 0 7), (7, o_lconst 1023 10), (10, o_iload 4 12), (12, o_lshl 13), (13, o_lconst (-1) 16), (16, o_lxor 17), (17, o_land 18), (18, o_iload 3 19), (19, o_i2l 20), (20, o_iload 4 22), (22, o_lshl 23), (23, o_lor 24), (24, o_lret)]
theorem me_X5_with : em_Me T_X5_with 5 sp_X5_with := by
  intro Q K hK hle av hp hs
  obtain ⟨m, p, x, rfl, hq⟩ := hs
  exact ⟨Nat.le_of_ble_eq_true rfl, hK 0 99 0 _ _ _ hq⟩
abbrev rm_X5_with : Room := { frames := 0, cells := 0, slots := 0, locals := 0 }
set_option maxRecDepth 100000 in
set_option maxHeartbeats 4000000 in
theorem ct_X5_with (l : Launch) (D : va_G) (dA : Nat → ClassId) (σ : Nat → Nat) : em_CT l D em_cl dA σ (em_F σ) y_X5_with c_X5_with 5 (Option.some ClassFile.FieldType.long) rm_X5_with (sp_X5_with ) := by
  refine em_CT_of (T := T_X5_with ) (em_F_ok σ) (by decide) (fun p e s m args below meth c A ρ Q C hFok hF hret hlk hin => ?_) (me_X5_with )
  unfold T_X5_with
  refine List.forall_mem_cons.mpr ⟨s_bipush C (by decide +kernel : decode c_X5_with 0 = .ok (.bipush 10, 2)) rfl rfl (by decide), ?_⟩
  refine List.forall_mem_cons.mpr ⟨s_iload_n C (by decide +kernel : decode c_X5_with 2 = .ok (.iload_n 2, 1)) rfl rfl rfl, ?_⟩
  refine List.forall_mem_cons.mpr ⟨s_imul C (by decide +kernel : decode c_X5_with 3 = .ok (.imul, 1)) rfl rfl, ?_⟩
  refine List.forall_mem_cons.mpr ⟨s_istore C (by decide +kernel : decode c_X5_with 4 = .ok (.istore 4, 2)) rfl rfl (by decide), ?_⟩
  refine List.forall_mem_cons.mpr ⟨s_lload_n C (by decide +kernel : decode c_X5_with 6 = .ok (.lload_n 0, 1)) rfl rfl rfl, ?_⟩
  refine List.forall_mem_cons.mpr ⟨s_ldc2 C (by decide +kernel : decode c_X5_with 7 = .ok (.ldc2_w 9, 3)) rfl rfl ew191, ?_⟩
  refine List.forall_mem_cons.mpr ⟨s_iload C (by decide +kernel : decode c_X5_with 10 = .ok (.iload 4, 2)) rfl rfl, ?_⟩
  refine List.forall_mem_cons.mpr ⟨s_lshl C (by decide +kernel : decode c_X5_with 12 = .ok (.lshl, 1)) rfl rfl, ?_⟩
  refine List.forall_mem_cons.mpr ⟨s_ldc2 C (by decide +kernel : decode c_X5_with 13 = .ok (.ldc2_w 11, 3)) rfl rfl ew192, ?_⟩
  refine List.forall_mem_cons.mpr ⟨s_lxor C (by decide +kernel : decode c_X5_with 16 = .ok (.lxor, 1)) rfl rfl, ?_⟩
  refine List.forall_mem_cons.mpr ⟨s_land C (by decide +kernel : decode c_X5_with 17 = .ok (.land, 1)) rfl rfl, ?_⟩
  refine List.forall_mem_cons.mpr ⟨s_iload_n C (by decide +kernel : decode c_X5_with 18 = .ok (.iload_n 3, 1)) rfl rfl rfl, ?_⟩
  refine List.forall_mem_cons.mpr ⟨s_i2l C (by decide +kernel : decode c_X5_with 19 = .ok (.i2l, 1)) rfl rfl, ?_⟩
  refine List.forall_mem_cons.mpr ⟨s_iload C (by decide +kernel : decode c_X5_with 20 = .ok (.iload 4, 2)) rfl rfl, ?_⟩
  refine List.forall_mem_cons.mpr ⟨s_lshl C (by decide +kernel : decode c_X5_with 22 = .ok (.lshl, 1)) rfl rfl, ?_⟩
  refine List.forall_mem_cons.mpr ⟨s_lor C (by decide +kernel : decode c_X5_with 23 = .ok (.lor, 1)) rfl rfl, ?_⟩
  refine List.forall_mem_cons.mpr ⟨s_lret C (by decide +kernel : decode c_X5_with 24 = .ok (.lreturn, 1)) hret hlk ⟨Nat.le_refl 0, Nat.le_refl 0⟩, ?_⟩
  exact fun _ h => absurd h List.not_mem_nil
/-- of how many of the first n places two differ -/
def mu (m o : Int64) : Nat → Nat
  | 0 => 0
  | n + 1 => mu m o n + (if mo m (nI n) = mo o (nI n) then 0 else 1)
def sp_X5_unlike : em_Sp := fun av hp Q => ∃ m o, av = [.long m, .long o] ∧ Q (some (.int (nI (mu m o 6)))) hp
def T_X5_unlike : List (Nat × em_Op) := [(0, o_iconst 0 1), (1, o_istore 4 3), (3, o_iconst 0 4), (4, o_istore 5 6), (6, o_iload 5 8), (8, o_iconst 6 10), (10, o_icmpge 37 13), (13, o_lload 0 14), (14, o_iload 5 16), (16, o_call 2 none (sp_X5_of) 19), (19, o_lload 2 20), (20, o_iload 5 22), (22, o_call 2 none (sp_X5_of) 25), (25, o_icmpeq 31 28), (28, o_iinc 4 1 31), (31, o_iinc 5 1 34), (34, o_goto 6), (37, o_iload 4 39), (39, o_iret)]
theorem me_X5_unlike : em_Me T_X5_unlike 6 sp_X5_unlike := by
  intro Q K hK hle av hp hs
  obtain ⟨m, o, rfl, hq⟩ := hs
  refine ⟨Nat.le_of_ble_eq_true rfl, ?_⟩
  have loop : ∀ (n i : Nat), i + n = 6 → K 6 [some (.long m), none, some (.long o), none, some (.int (nI (mu m o i))), some (.int (nI i))] [] hp := by
    intro n
    induction n with
    | zero =>
      intro i hi
      have hi : i = 6 := by omega
      subst hi
      refine hK 4 99 6 _ _ _ ?_
      exact ⟨fun h => hq, fun h => absurd (by decide) h⟩
    | succ n ih =>
      intro i hi
      refine hK 4 99 6 _ _ _ ?_
      refine ⟨fun h => absurd h (by exact nI_ge (b := 6) (by omega) (by omega)), fun h => ?_⟩
      refine ⟨_, _, rfl, _, _, rfl, ?_⟩
      refine ⟨fun h2 => ?_, fun h2 => ?_⟩
      · have := ih (i + 1) (by omega)
        rw [mu, if_pos h2, Nat.add_zero, ← nI_1] at this
        exact this
      · have := ih (i + 1) (by omega)
        rw [mu, if_neg h2, ← nI_1, ← nI_1] at this
        exact this
  exact hK 0 4 0 _ _ _ (loop 6 0 rfl)
abbrev rm_X5_unlike : Room := { frames := 1, cells := 0, slots := 0, locals := 22 }
set_option maxRecDepth 100000 in
set_option maxHeartbeats 4000000 in
theorem ct_X5_unlike (l : Launch) (D : va_G) (dA : Nat → ClassId) (σ : Nat → Nat) : em_CT l D em_cl dA σ (em_F σ) y_X5_unlike c_X5_unlike 6 (Option.some ClassFile.FieldType.int) rm_X5_unlike (sp_X5_unlike ) := by
  refine em_CT_of (T := T_X5_unlike ) (em_F_ok σ) (by decide) (fun p e s m args below meth c A ρ Q C hFok hF hret hlk hin => ?_) (me_X5_unlike )
  unfold T_X5_unlike
  refine List.forall_mem_cons.mpr ⟨s_iconst C (by decide +kernel : decode c_X5_unlike 0 = .ok (.iconst 0, 1)) rfl rfl (by decide), ?_⟩
  refine List.forall_mem_cons.mpr ⟨s_istore C (by decide +kernel : decode c_X5_unlike 1 = .ok (.istore 4, 2)) rfl rfl (by decide), ?_⟩
  refine List.forall_mem_cons.mpr ⟨s_iconst C (by decide +kernel : decode c_X5_unlike 3 = .ok (.iconst 0, 1)) rfl rfl (by decide), ?_⟩
  refine List.forall_mem_cons.mpr ⟨s_istore C (by decide +kernel : decode c_X5_unlike 4 = .ok (.istore 5, 2)) rfl rfl (by decide), ?_⟩
  refine List.forall_mem_cons.mpr ⟨s_iload C (by decide +kernel : decode c_X5_unlike 6 = .ok (.iload 5, 2)) rfl rfl, ?_⟩
  refine List.forall_mem_cons.mpr ⟨s_bipush C (by decide +kernel : decode c_X5_unlike 8 = .ok (.bipush 6, 2)) rfl rfl (by decide), ?_⟩
  refine List.forall_mem_cons.mpr ⟨s_icmpge C (by decide +kernel : decode c_X5_unlike 10 = .ok (.if_icmp .ge 27, 3)) (by decide) rfl rfl rfl, ?_⟩
  refine List.forall_mem_cons.mpr ⟨s_lload_n C (by decide +kernel : decode c_X5_unlike 13 = .ok (.lload_n 0, 1)) rfl rfl rfl, ?_⟩
  refine List.forall_mem_cons.mpr ⟨s_iload C (by decide +kernel : decode c_X5_unlike 14 = .ok (.iload 5, 2)) rfl rfl, ?_⟩
  refine List.forall_mem_cons.mpr ⟨s_callS C hFok hF (ct_X5_of l D dA σ) ⟨rfl, rfl⟩ ew216 ew454 ew215 ew8 ⟨by decide, by decide, by decide +kernel⟩ ⟨by decide, by decide⟩ (by decide +kernel : decode c_X5_unlike 16 = .ok (.invokestatic 13, 3)) rfl rfl ⟨Nat.zero_le _, Nat.zero_le _⟩, ?_⟩
  refine List.forall_mem_cons.mpr ⟨s_lload_n C (by decide +kernel : decode c_X5_unlike 19 = .ok (.lload_n 2, 1)) rfl rfl rfl, ?_⟩
  refine List.forall_mem_cons.mpr ⟨s_iload C (by decide +kernel : decode c_X5_unlike 20 = .ok (.iload 5, 2)) rfl rfl, ?_⟩
  refine List.forall_mem_cons.mpr ⟨s_callS C hFok hF (ct_X5_of l D dA σ) ⟨rfl, rfl⟩ ew216 ew454 ew215 ew8 ⟨by decide, by decide, by decide +kernel⟩ ⟨by decide, by decide⟩ (by decide +kernel : decode c_X5_unlike 22 = .ok (.invokestatic 13, 3)) rfl rfl ⟨Nat.zero_le _, Nat.zero_le _⟩, ?_⟩
  refine List.forall_mem_cons.mpr ⟨s_icmpeq C (by decide +kernel : decode c_X5_unlike 25 = .ok (.if_icmp .eq 6, 3)) (by decide) rfl rfl rfl, ?_⟩
  refine List.forall_mem_cons.mpr ⟨s_iinc C (by decide +kernel : decode c_X5_unlike 28 = .ok (.iinc 4 1, 3)) rfl rfl (by decide) (by decide), ?_⟩
  refine List.forall_mem_cons.mpr ⟨s_iinc C (by decide +kernel : decode c_X5_unlike 31 = .ok (.iinc 5 1, 3)) rfl rfl (by decide) (by decide), ?_⟩
  refine List.forall_mem_cons.mpr ⟨s_goto C (by decide +kernel : decode c_X5_unlike 34 = .ok (.goto (-28), 3)) (by decide) rfl, ?_⟩
  refine List.forall_mem_cons.mpr ⟨s_iload C (by decide +kernel : decode c_X5_unlike 37 = .ok (.iload 4, 2)) rfl rfl, ?_⟩
  refine List.forall_mem_cons.mpr ⟨s_iret C (by decide +kernel : decode c_X5_unlike 39 = .ok (.ireturn, 1)) hret hlk ⟨Nat.le_refl 0, Nat.le_refl 0⟩, ?_⟩
  exact fun _ h => absurd h List.not_mem_nil
def sp_X5_alike : em_Sp := fun av hp Q => ∃ m n, av = [.long m, .int (nI n)] ∧ n < 2 ^ 30 ∧ ((∀ j, 1 ≤ j → j < n → mo m (nI j) = mo m 0) → Q (some (.int 1)) hp) ∧ ((∃ j, 1 ≤ j ∧ j < n ∧ mo m (nI j) ≠ mo m 0) → Q (some (.int 0)) hp)
def T_X5_alike : List (Nat × em_Op) := [(0, o_iconst 1 1), (1, o_istore 3 2), (2, o_iload 3 3), (3, o_iload 2 4), (4, o_icmpge 28 7), (7, o_lload 0 8), (8, o_iload 3 9), (9, o_call 2 none (sp_X5_of) 12), (12, o_lload 0 13), (13, o_iconst 0 14), (14, o_call 2 none (sp_X5_of) 17), (17, o_icmpeq 22 20), (20, o_iconst 0 21), (21, o_zret), (22, o_iinc 3 1 25), (25, o_goto 2), (28, o_iconst 1 29), (29, o_zret)]
theorem me_X5_alike : em_Me T_X5_alike 4 sp_X5_alike := by
  intro Q K hK hle av hp hs
  obtain ⟨m, n, rfl, hn, hq1, hq0⟩ := hs
  refine ⟨Nat.le_of_ble_eq_true rfl, ?_⟩
  have loop : ∀ (d i : Nat), 1 ≤ i → i < 2 ^ 30 + 1 → (n ≤ i ∨ i + d = n) → (∀ j, 1 ≤ j → j < i → mo m (nI j) = mo m 0) → K 2 [some (.long m), none, some (.int (nI n)), some (.int (nI i))] [] hp := by
    intro d
    induction d with
    | zero =>
      intro i h1 h30 hi hj
      refine hK 2 99 2 _ _ _ ?_
      refine ⟨fun h => ?_, fun h => absurd (nI_le (by omega) (by omega)) h⟩
      exact ⟨Or.inr rfl, hq1 (fun j a b => hj j a (by omega))⟩
    | succ d ih =>
      intro i h1 h30 hi hj
      refine hK 2 99 2 _ _ _ ?_
      refine ⟨fun h => ?_, fun h => ?_⟩
      · have h := (nI_leI (by omega) (by omega)).mp h
        exact ⟨Or.inr rfl, hq1 (fun j a b => hj j a (by omega))⟩
      · have h : ¬ n ≤ i := fun z => h (nI_le z (by omega))
        refine ⟨_, _, rfl, _, _, rfl, ?_⟩
        refine ⟨fun h2 => ?_, fun h2 => ?_⟩
        · have := ih (i + 1) (by omega) (by omega) (by omega) (fun j a b => by
            rcases (by omega : j < i ∨ j = i) with z | z
            · exact hj j a z
            · rw [z]; exact h2)
          rw [← nI_1] at this
          exact this
        · exact ⟨Or.inl rfl, hq0 ⟨i, h1, by omega, h2⟩⟩
  exact hK 0 2 0 _ _ _ (loop (n - 1) 1 (Nat.le_refl 1) (by omega) (by omega) (fun j a b => by omega))
abbrev rm_X5_alike : Room := { frames := 1, cells := 0, slots := 0, locals := 22 }
set_option maxRecDepth 100000 in
set_option maxHeartbeats 4000000 in
theorem ct_X5_alike (l : Launch) (D : va_G) (dA : Nat → ClassId) (σ : Nat → Nat) : em_CT l D em_cl dA σ (em_F σ) y_X5_alike c_X5_alike 4 (Option.some ClassFile.FieldType.boolean) rm_X5_alike (sp_X5_alike ) := by
  refine em_CT_of (T := T_X5_alike ) (em_F_ok σ) (by decide) (fun p e s m args below meth c A ρ Q C hFok hF hret hlk hin => ?_) (me_X5_alike )
  unfold T_X5_alike
  refine List.forall_mem_cons.mpr ⟨s_iconst C (by decide +kernel : decode c_X5_alike 0 = .ok (.iconst 1, 1)) rfl rfl (by decide), ?_⟩
  refine List.forall_mem_cons.mpr ⟨s_istore_n C (by decide +kernel : decode c_X5_alike 1 = .ok (.istore_n 3, 1)) rfl rfl rfl (by decide), ?_⟩
  refine List.forall_mem_cons.mpr ⟨s_iload_n C (by decide +kernel : decode c_X5_alike 2 = .ok (.iload_n 3, 1)) rfl rfl rfl, ?_⟩
  refine List.forall_mem_cons.mpr ⟨s_iload_n C (by decide +kernel : decode c_X5_alike 3 = .ok (.iload_n 2, 1)) rfl rfl rfl, ?_⟩
  refine List.forall_mem_cons.mpr ⟨s_icmpge C (by decide +kernel : decode c_X5_alike 4 = .ok (.if_icmp .ge 24, 3)) (by decide) rfl rfl rfl, ?_⟩
  refine List.forall_mem_cons.mpr ⟨s_lload_n C (by decide +kernel : decode c_X5_alike 7 = .ok (.lload_n 0, 1)) rfl rfl rfl, ?_⟩
  refine List.forall_mem_cons.mpr ⟨s_iload_n C (by decide +kernel : decode c_X5_alike 8 = .ok (.iload_n 3, 1)) rfl rfl rfl, ?_⟩
  refine List.forall_mem_cons.mpr ⟨s_callS C hFok hF (ct_X5_of l D dA σ) ⟨rfl, rfl⟩ ew216 ew454 ew215 ew8 ⟨by decide, by decide, by decide +kernel⟩ ⟨by decide, by decide⟩ (by decide +kernel : decode c_X5_alike 9 = .ok (.invokestatic 13, 3)) rfl rfl ⟨Nat.zero_le _, Nat.zero_le _⟩, ?_⟩
  refine List.forall_mem_cons.mpr ⟨s_lload_n C (by decide +kernel : decode c_X5_alike 12 = .ok (.lload_n 0, 1)) rfl rfl rfl, ?_⟩
  refine List.forall_mem_cons.mpr ⟨s_iconst C (by decide +kernel : decode c_X5_alike 13 = .ok (.iconst 0, 1)) rfl rfl (by decide), ?_⟩
  refine List.forall_mem_cons.mpr ⟨s_callS C hFok hF (ct_X5_of l D dA σ) ⟨rfl, rfl⟩ ew216 ew454 ew215 ew8 ⟨by decide, by decide, by decide +kernel⟩ ⟨by decide, by decide⟩ (by decide +kernel : decode c_X5_alike 14 = .ok (.invokestatic 13, 3)) rfl rfl ⟨Nat.zero_le _, Nat.zero_le _⟩, ?_⟩
  refine List.forall_mem_cons.mpr ⟨s_icmpeq C (by decide +kernel : decode c_X5_alike 17 = .ok (.if_icmp .eq 5, 3)) (by decide) rfl rfl rfl, ?_⟩
  refine List.forall_mem_cons.mpr ⟨s_iconst C (by decide +kernel : decode c_X5_alike 20 = .ok (.iconst 0, 1)) rfl rfl (by decide), ?_⟩
  refine List.forall_mem_cons.mpr ⟨s_zret C (by decide +kernel : decode c_X5_alike 21 = .ok (.ireturn, 1)) hret hlk ⟨Nat.le_refl 0, Nat.le_refl 0⟩, ?_⟩
  refine List.forall_mem_cons.mpr ⟨s_iinc C (by decide +kernel : decode c_X5_alike 22 = .ok (.iinc 3 1, 3)) rfl rfl (by decide) (by decide), ?_⟩
  refine List.forall_mem_cons.mpr ⟨s_goto C (by decide +kernel : decode c_X5_alike 25 = .ok (.goto (-23), 3)) (by decide) rfl, ?_⟩
  refine List.forall_mem_cons.mpr ⟨s_iconst C (by decide +kernel : decode c_X5_alike 28 = .ok (.iconst 1, 1)) rfl rfl (by decide), ?_⟩
  refine List.forall_mem_cons.mpr ⟨s_zret C (by decide +kernel : decode c_X5_alike 29 = .ok (.ireturn, 1)) hret hlk ⟨Nat.le_refl 0, Nat.le_refl 0⟩, ?_⟩
  exact fun _ h => absurd h List.not_mem_nil
/-! ===== Kinds, isSet, the library's three ===== -/
def sp_bool (c : Prop) (hp : em_H) (Q : em_Q) : Prop := (c → Q (some (.int 1)) hp) ∧ (¬ c → Q (some (.int 0)) hp)
def isk (k : Int32) : Prop := ¬ k < 0 ∧ ¬ 5 < k
def sp_X3_isKind : em_Sp := fun av hp Q => ∃ k, av = [.int k] ∧ (isk k → Q (some (.int 1)) hp) ∧ (¬ isk k → Q (some (.int 0)) hp)
def T_X3_isKind : List (Nat × em_Op) := [(0, o_iload 0 1), (1, o_iflt 13 4), (4, o_iload 0 5), (5, o_iconst 5 6), (6, o_icmpgt 13 9), (9, o_iconst 1 10), (10, o_goto 14), (13, o_iconst 0 14), (14, o_zret)]
theorem me_X3_isKind : em_Me T_X3_isKind 1 sp_X3_isKind := by
  intro Q K hK hle av hp hs
  obtain ⟨k, rfl, h1, h0⟩ := hs
  refine ⟨Nat.le_of_ble_eq_true rfl, hK 0 99 0 _ _ _ ?_⟩
  refine ⟨fun h => ⟨Or.inl rfl, h0 (fun z => z.1 h)⟩, fun h => ⟨fun h2 => ⟨Or.inl rfl, h0 (fun z => z.2 h2)⟩, fun h2 => ⟨Or.inr rfl, h1 ⟨h, h2⟩⟩⟩⟩
abbrev rm_X3_isKind : Room := { frames := 0, cells := 0, slots := 0, locals := 0 }
set_option maxRecDepth 100000 in
set_option maxHeartbeats 4000000 in
theorem ct_X3_isKind (l : Launch) (D : va_G) (dA : Nat → ClassId) (σ : Nat → Nat) : em_CT l D em_cl dA σ (em_F σ) y_X3_isKind c_X3_isKind 1 (Option.some ClassFile.FieldType.boolean) rm_X3_isKind (sp_X3_isKind ) := by
  refine em_CT_of (T := T_X3_isKind ) (em_F_ok σ) (by decide) (fun p e s m args below meth c A ρ Q C hFok hF hret hlk hin => ?_) (me_X3_isKind )
  unfold T_X3_isKind
  refine List.forall_mem_cons.mpr ⟨s_iload_n C (by decide +kernel : decode c_X3_isKind 0 = .ok (.iload_n 0, 1)) rfl rfl rfl, ?_⟩
  refine List.forall_mem_cons.mpr ⟨s_iflt C (by decide +kernel : decode c_X3_isKind 1 = .ok (.ifCond .lt 12, 3)) (by decide) rfl rfl rfl, ?_⟩
  refine List.forall_mem_cons.mpr ⟨s_iload_n C (by decide +kernel : decode c_X3_isKind 4 = .ok (.iload_n 0, 1)) rfl rfl rfl, ?_⟩
  refine List.forall_mem_cons.mpr ⟨s_iconst C (by decide +kernel : decode c_X3_isKind 5 = .ok (.iconst 5, 1)) rfl rfl (by decide), ?_⟩
  refine List.forall_mem_cons.mpr ⟨s_icmpgt C (by decide +kernel : decode c_X3_isKind 6 = .ok (.if_icmp .gt 7, 3)) (by decide) rfl rfl rfl, ?_⟩
  refine List.forall_mem_cons.mpr ⟨s_iconst C (by decide +kernel : decode c_X3_isKind 9 = .ok (.iconst 1, 1)) rfl rfl (by decide), ?_⟩
  refine List.forall_mem_cons.mpr ⟨s_goto C (by decide +kernel : decode c_X3_isKind 10 = .ok (.goto 4, 3)) (by decide) rfl, ?_⟩
  refine List.forall_mem_cons.mpr ⟨s_iconst C (by decide +kernel : decode c_X3_isKind 13 = .ok (.iconst 0, 1)) rfl rfl (by decide), ?_⟩
  refine List.forall_mem_cons.mpr ⟨s_zret C (by decide +kernel : decode c_X3_isKind 14 = .ok (.ireturn, 1)) hret hlk ⟨Nat.le_refl 0, Nat.le_refl 0⟩, ?_⟩
  exact fun _ h => absurd h List.not_mem_nil
def iss (k : Int32) : Prop := ¬ k < 0 ∧ ¬ 1023 < k
def sp_X9_isSet : em_Sp := fun av hp Q => ∃ k, av = [.int k] ∧ (iss k → Q (some (.int 1)) hp) ∧ (¬ iss k → Q (some (.int 0)) hp)
def T_X9_isSet : List (Nat × em_Op) := [(0, o_iload 0 1), (1, o_iflt 15 4), (4, o_iload 0 5), (5, o_iconst 1023 8), (8, o_icmpgt 15 11), (11, o_iconst 1 12), (12, o_goto 16), (15, o_iconst 0 16), (16, o_zret)]
theorem me_X9_isSet : em_Me T_X9_isSet 1 sp_X9_isSet := by
  intro Q K hK hle av hp hs
  obtain ⟨k, rfl, h1, h0⟩ := hs
  refine ⟨Nat.le_of_ble_eq_true rfl, hK 0 99 0 _ _ _ ?_⟩
  refine ⟨fun h => ⟨Or.inl rfl, h0 (fun z => z.1 h)⟩, fun h => ⟨fun h2 => ⟨Or.inl rfl, h0 (fun z => z.2 h2)⟩, fun h2 => ⟨Or.inr rfl, h1 ⟨h, h2⟩⟩⟩⟩
abbrev rm_X9_isSet : Room := { frames := 0, cells := 0, slots := 0, locals := 0 }
set_option maxRecDepth 100000 in
set_option maxHeartbeats 4000000 in
theorem ct_X9_isSet (l : Launch) (D : va_G) (dA : Nat → ClassId) (σ : Nat → Nat) : em_CT l D em_cl dA σ (em_F σ) y_X9_isSet c_X9_isSet 1 (Option.some ClassFile.FieldType.boolean) rm_X9_isSet (sp_X9_isSet ) := by
  refine em_CT_of (T := T_X9_isSet ) (em_F_ok σ) (by decide) (fun p e s m args below meth c A ρ Q C hFok hF hret hlk hin => ?_) (me_X9_isSet )
  unfold T_X9_isSet
  refine List.forall_mem_cons.mpr ⟨s_iload_n C (by decide +kernel : decode c_X9_isSet 0 = .ok (.iload_n 0, 1)) rfl rfl rfl, ?_⟩
  refine List.forall_mem_cons.mpr ⟨s_iflt C (by decide +kernel : decode c_X9_isSet 1 = .ok (.ifCond .lt 14, 3)) (by decide) rfl rfl rfl, ?_⟩
  refine List.forall_mem_cons.mpr ⟨s_iload_n C (by decide +kernel : decode c_X9_isSet 4 = .ok (.iload_n 0, 1)) rfl rfl rfl, ?_⟩
  refine List.forall_mem_cons.mpr ⟨s_sipush C (by decide +kernel : decode c_X9_isSet 5 = .ok (.sipush 1023, 3)) rfl rfl (by decide), ?_⟩
  refine List.forall_mem_cons.mpr ⟨s_icmpgt C (by decide +kernel : decode c_X9_isSet 8 = .ok (.if_icmp .gt 7, 3)) (by decide) rfl rfl rfl, ?_⟩
  refine List.forall_mem_cons.mpr ⟨s_iconst C (by decide +kernel : decode c_X9_isSet 11 = .ok (.iconst 1, 1)) rfl rfl (by decide), ?_⟩
  refine List.forall_mem_cons.mpr ⟨s_goto C (by decide +kernel : decode c_X9_isSet 12 = .ok (.goto 4, 3)) (by decide) rfl, ?_⟩
  refine List.forall_mem_cons.mpr ⟨s_iconst C (by decide +kernel : decode c_X9_isSet 15 = .ok (.iconst 0, 1)) rfl rfl (by decide), ?_⟩
  refine List.forall_mem_cons.mpr ⟨s_zret C (by decide +kernel : decode c_X9_isSet 16 = .ok (.ireturn, 1)) hret hlk ⟨Nat.le_refl 0, Nat.le_refl 0⟩, ?_⟩
  exact fun _ h => absurd h List.not_mem_nil
def tkn (x y m : Int32) : Int32 := (x &&& (m ^^^ (-1))) ||| (y &&& m)
def sp_X3_taken : em_Sp := fun av hp Q => ∃ x y m, av = [.int x, .int y, .int m] ∧ Q (some (.int (tkn x y m))) hp
def T_X3_taken : List (Nat × em_Op) := [(0, o_iload 0 1), (1, o_iload 2 2), (2, o_iconst (-1) 3), (3, o_ixor 4), (4, o_iand 5), (5, o_iload 1 6), (6, o_iload 2 7), (7, o_iand 8), (8, o_ior 9), (9, o_iret)]
theorem me_X3_taken : em_Me T_X3_taken 3 sp_X3_taken := by
  intro Q K hK hle av hp hs
  obtain ⟨x, y, m, rfl, hq⟩ := hs
  exact ⟨Nat.le_of_ble_eq_true rfl, hK 0 99 0 _ _ _ hq⟩
abbrev rm_X3_taken : Room := { frames := 0, cells := 0, slots := 0, locals := 0 }
set_option maxRecDepth 100000 in
set_option maxHeartbeats 4000000 in
theorem ct_X3_taken (l : Launch) (D : va_G) (dA : Nat → ClassId) (σ : Nat → Nat) : em_CT l D em_cl dA σ (em_F σ) y_X3_taken c_X3_taken 3 (Option.some ClassFile.FieldType.int) rm_X3_taken (sp_X3_taken ) := by
  refine em_CT_of (T := T_X3_taken ) (em_F_ok σ) (by decide) (fun p e s m args below meth c A ρ Q C hFok hF hret hlk hin => ?_) (me_X3_taken )
  unfold T_X3_taken
  refine List.forall_mem_cons.mpr ⟨s_iload_n C (by decide +kernel : decode c_X3_taken 0 = .ok (.iload_n 0, 1)) rfl rfl rfl, ?_⟩
  refine List.forall_mem_cons.mpr ⟨s_iload_n C (by decide +kernel : decode c_X3_taken 1 = .ok (.iload_n 2, 1)) rfl rfl rfl, ?_⟩
  refine List.forall_mem_cons.mpr ⟨s_iconst C (by decide +kernel : decode c_X3_taken 2 = .ok (.iconst (-1), 1)) rfl rfl (by decide), ?_⟩
  refine List.forall_mem_cons.mpr ⟨s_ixor C (by decide +kernel : decode c_X3_taken 3 = .ok (.ixor, 1)) rfl rfl, ?_⟩
  refine List.forall_mem_cons.mpr ⟨s_iand C (by decide +kernel : decode c_X3_taken 4 = .ok (.iand, 1)) rfl rfl, ?_⟩
  refine List.forall_mem_cons.mpr ⟨s_iload_n C (by decide +kernel : decode c_X3_taken 5 = .ok (.iload_n 1, 1)) rfl rfl rfl, ?_⟩
  refine List.forall_mem_cons.mpr ⟨s_iload_n C (by decide +kernel : decode c_X3_taken 6 = .ok (.iload_n 2, 1)) rfl rfl rfl, ?_⟩
  refine List.forall_mem_cons.mpr ⟨s_iand C (by decide +kernel : decode c_X3_taken 7 = .ok (.iand, 1)) rfl rfl, ?_⟩
  refine List.forall_mem_cons.mpr ⟨s_ior C (by decide +kernel : decode c_X3_taken 8 = .ok (.ior, 1)) rfl rfl, ?_⟩
  refine List.forall_mem_cons.mpr ⟨s_iret C (by decide +kernel : decode c_X3_taken 9 = .ok (.ireturn, 1)) hret hlk ⟨Nat.le_refl 0, Nat.le_refl 0⟩, ?_⟩
  exact fun _ h => absurd h List.not_mem_nil
def mbh (m : Int32) : Int32 := if m <<< ((1 : Int32) &&& 31) ≤ 1023 then m <<< ((1 : Int32) &&& 31) else 1
def sp_X3_matterBehind : em_Sp := fun av hp Q => ∃ m, av = [.int m] ∧ Q (some (.int (mbh m))) hp
def T_X3_matterBehind : List (Nat × em_Op) := [(0, o_iload 0 1), (1, o_iconst 1 2), (2, o_ishl 3), (3, o_istore 1 4), (4, o_iload 1 5), (5, o_iconst 1023 8), (8, o_icmple 15 11), (11, o_iconst 1 12), (12, o_goto 16), (15, o_iload 1 16), (16, o_iret)]
theorem me_X3_matterBehind : em_Me T_X3_matterBehind 2 sp_X3_matterBehind := by
  intro Q K hK hle av hp hs
  obtain ⟨m, rfl, hq⟩ := hs
  refine ⟨Nat.le_of_ble_eq_true rfl, hK 0 99 0 _ _ _ ?_⟩
  refine ⟨fun h => ?_, fun h => ?_⟩
  · rw [mbh, if_pos h] at hq; exact hq
  · rw [mbh, if_neg h] at hq; exact hq
abbrev rm_X3_matterBehind : Room := { frames := 0, cells := 0, slots := 0, locals := 0 }
set_option maxRecDepth 100000 in
set_option maxHeartbeats 4000000 in
theorem ct_X3_matterBehind (l : Launch) (D : va_G) (dA : Nat → ClassId) (σ : Nat → Nat) : em_CT l D em_cl dA σ (em_F σ) y_X3_matterBehind c_X3_matterBehind 2 (Option.some ClassFile.FieldType.int) rm_X3_matterBehind (sp_X3_matterBehind ) := by
  refine em_CT_of (T := T_X3_matterBehind ) (em_F_ok σ) (by decide) (fun p e s m args below meth c A ρ Q C hFok hF hret hlk hin => ?_) (me_X3_matterBehind )
  unfold T_X3_matterBehind
  refine List.forall_mem_cons.mpr ⟨s_iload_n C (by decide +kernel : decode c_X3_matterBehind 0 = .ok (.iload_n 0, 1)) rfl rfl rfl, ?_⟩
  refine List.forall_mem_cons.mpr ⟨s_iconst C (by decide +kernel : decode c_X3_matterBehind 1 = .ok (.iconst 1, 1)) rfl rfl (by decide), ?_⟩
  refine List.forall_mem_cons.mpr ⟨s_ishl C (by decide +kernel : decode c_X3_matterBehind 2 = .ok (.ishl, 1)) rfl rfl, ?_⟩
  refine List.forall_mem_cons.mpr ⟨s_istore_n C (by decide +kernel : decode c_X3_matterBehind 3 = .ok (.istore_n 1, 1)) rfl rfl rfl (by decide), ?_⟩
  refine List.forall_mem_cons.mpr ⟨s_iload_n C (by decide +kernel : decode c_X3_matterBehind 4 = .ok (.iload_n 1, 1)) rfl rfl rfl, ?_⟩
  refine List.forall_mem_cons.mpr ⟨s_sipush C (by decide +kernel : decode c_X3_matterBehind 5 = .ok (.sipush 1023, 3)) rfl rfl (by decide), ?_⟩
  refine List.forall_mem_cons.mpr ⟨s_icmple C (by decide +kernel : decode c_X3_matterBehind 8 = .ok (.if_icmp .le 7, 3)) (by decide) rfl rfl rfl, ?_⟩
  refine List.forall_mem_cons.mpr ⟨s_iconst C (by decide +kernel : decode c_X3_matterBehind 11 = .ok (.iconst 1, 1)) rfl rfl (by decide), ?_⟩
  refine List.forall_mem_cons.mpr ⟨s_goto C (by decide +kernel : decode c_X3_matterBehind 12 = .ok (.goto 4, 3)) (by decide) rfl, ?_⟩
  refine List.forall_mem_cons.mpr ⟨s_iload_n C (by decide +kernel : decode c_X3_matterBehind 15 = .ok (.iload_n 1, 1)) rfl rfl rfl, ?_⟩
  refine List.forall_mem_cons.mpr ⟨s_iret C (by decide +kernel : decode c_X3_matterBehind 16 = .ok (.ireturn, 1)) hret hlk ⟨Nat.le_refl 0, Nat.le_refl 0⟩, ?_⟩
  exact fun _ h => absurd h List.not_mem_nil
def pln (x y o m : Int32) : Int32 := if o = 0 then x else tkn x y m
def prd (x y o m w : Int32) : Int32 := if w = 0 then pln x y o m else x
def hrd (k x y o m w : Int32) : Int32 := if k = 0 then pln x y o m else if k = 1 then prd x y o m w else if k = 2 then tkn x y m else if k = 3 then prd x y o m w ^^^ mbh m else if k = 4 then x else if k = 5 then tkn x y (m ||| mbh m) else x
def sp_X3_heard : em_Sp := fun av hp Q => ∃ k x y o m w, av = [.int k, .int x, .int y, .int o, .int m, .int w] ∧ Q (some (.int (hrd k x y o m w))) hp
def T_X3_heard : List (Nat × em_Op) := [(0, o_iload 3 1), (1, o_ifeq 14 4), (4, o_iload 1 5), (5, o_iload 2 6), (6, o_iload 4 8), (8, o_call 3 none (sp_X3_taken) 11), (11, o_goto 15), (14, o_iload 1 15), (15, o_istore 6 17), (17, o_iload 5 19), (19, o_ifeq 26 22), (22, o_iload 1 23), (23, o_goto 28), (26, o_iload 6 28), (28, o_istore 7 30), (30, o_iload 0 31), (31, o_sw [(0, 68), (1, 71), (2, 74), (3, 82), (4, 105), (5, 91)] 105), (68, o_iload 6 70), (70, o_iret), (71, o_iload 7 73), (73, o_iret), (74, o_iload 1 75), (75, o_iload 2 76), (76, o_iload 4 78), (78, o_call 3 none (sp_X3_taken) 81), (81, o_iret), (82, o_iload 7 84), (84, o_iload 4 86), (86, o_call 1 none (sp_X3_matterBehind) 89), (89, o_ixor 90), (90, o_iret), (91, o_iload 1 92), (92, o_iload 2 93), (93, o_iload 4 95), (95, o_iload 4 97), (97, o_call 1 none (sp_X3_matterBehind) 100), (100, o_ior 101), (101, o_call 3 none (sp_X3_taken) 104), (104, o_iret), (105, o_iload 1 106), (106, o_iret)]
theorem me_X3_heard : em_Me T_X3_heard 8 sp_X3_heard := by
  intro Q K hK hle av hp hs
  obtain ⟨k, x, y, o, m, w, rfl, hq⟩ := hs
  refine ⟨Nat.le_of_ble_eq_true rfl, ?_⟩
  have sw : K 30 [some (.int k), some (.int x), some (.int y), some (.int o), some (.int m), some (.int w), some (.int (pln x y o m)), some (.int (prd x y o m w))] [] hp := by
    unfold hrd at hq
    refine hK 15 9999 30 _ _ _ ?_
    refine ⟨fun h => ?_, fun h0 => ⟨fun h => ?_, fun h1 => ⟨fun h => ?_, fun h2 => ⟨fun h => ?_, fun h3 => ⟨fun h => ?_, fun h4 => ⟨fun h => ?_, fun h5 => ?_⟩⟩⟩⟩⟩⟩
    · rw [if_pos h] at hq; exact hq
    · rw [if_neg h0, if_pos h] at hq; exact hq
    · rw [if_neg h0, if_neg h1, if_pos h] at hq; exact ⟨_, _, _, rfl, hq⟩
    · rw [if_neg h0, if_neg h1, if_neg h2, if_pos h] at hq; exact ⟨_, rfl, hq⟩
    · rw [if_neg h0, if_neg h1, if_neg h2, if_neg h3, if_pos h] at hq; exact hq
    · rw [if_neg h0, if_neg h1, if_neg h2, if_neg h3, if_neg h4, if_pos h] at hq; exact ⟨_, rfl, _, _, _, rfl, hq⟩
    · rw [if_neg h0, if_neg h1, if_neg h2, if_neg h3, if_neg h4, if_neg h5] at hq; exact hq
  have pr : K 15 [some (.int k), some (.int x), some (.int y), some (.int o), some (.int m), some (.int w), none, none] [.int (pln x y o m)] hp := by
    refine hK 8 7 15 _ _ _ ?_
    refine ⟨fun h => ?_, fun h => ?_⟩
    · rw [prd, if_pos h] at sw; exact sw
    · rw [prd, if_neg h] at sw; exact sw
  refine hK 0 8 0 _ _ _ ?_
  refine ⟨fun h => ?_, fun h => ⟨_, _, _, rfl, ?_⟩⟩
  · rw [pln, if_pos h] at pr; exact pr
  · rw [pln, if_neg h] at pr; exact pr
abbrev rm_X3_heard : Room := { frames := 1, cells := 0, slots := 0, locals := 22 }
set_option maxRecDepth 100000 in
set_option maxHeartbeats 4000000 in
theorem ct_X3_heard (l : Launch) (D : va_G) (dA : Nat → ClassId) (σ : Nat → Nat) : em_CT l D em_cl dA σ (em_F σ) y_X3_heard c_X3_heard 8 (Option.some ClassFile.FieldType.int) rm_X3_heard (sp_X3_heard ) := by
  refine em_CT_of (T := T_X3_heard ) (em_F_ok σ) (by decide) (fun p e s m args below meth c A ρ Q C hFok hF hret hlk hin => ?_) (me_X3_heard )
  unfold T_X3_heard
  refine List.forall_mem_cons.mpr ⟨s_iload_n C (by decide +kernel : decode c_X3_heard 0 = .ok (.iload_n 3, 1)) rfl rfl rfl, ?_⟩
  refine List.forall_mem_cons.mpr ⟨s_ifeq C (by decide +kernel : decode c_X3_heard 1 = .ok (.ifCond .eq 13, 3)) (by decide) rfl rfl rfl, ?_⟩
  refine List.forall_mem_cons.mpr ⟨s_iload_n C (by decide +kernel : decode c_X3_heard 4 = .ok (.iload_n 1, 1)) rfl rfl rfl, ?_⟩
  refine List.forall_mem_cons.mpr ⟨s_iload_n C (by decide +kernel : decode c_X3_heard 5 = .ok (.iload_n 2, 1)) rfl rfl rfl, ?_⟩
  refine List.forall_mem_cons.mpr ⟨s_iload C (by decide +kernel : decode c_X3_heard 6 = .ok (.iload 4, 2)) rfl rfl, ?_⟩
  refine List.forall_mem_cons.mpr ⟨s_callS C hFok hF (ct_X3_taken l D dA σ) ⟨rfl, rfl⟩ ew447 ew445 ew446 ew7 ⟨by decide, by decide, by decide +kernel⟩ ⟨by decide, by decide⟩ (by decide +kernel : decode c_X3_heard 8 = .ok (.invokestatic 11, 3)) rfl rfl ⟨Nat.zero_le _, Nat.zero_le _⟩, ?_⟩
  refine List.forall_mem_cons.mpr ⟨s_goto C (by decide +kernel : decode c_X3_heard 11 = .ok (.goto 4, 3)) (by decide) rfl, ?_⟩
  refine List.forall_mem_cons.mpr ⟨s_iload_n C (by decide +kernel : decode c_X3_heard 14 = .ok (.iload_n 1, 1)) rfl rfl rfl, ?_⟩
  refine List.forall_mem_cons.mpr ⟨s_istore C (by decide +kernel : decode c_X3_heard 15 = .ok (.istore 6, 2)) rfl rfl (by decide), ?_⟩
  refine List.forall_mem_cons.mpr ⟨s_iload C (by decide +kernel : decode c_X3_heard 17 = .ok (.iload 5, 2)) rfl rfl, ?_⟩
  refine List.forall_mem_cons.mpr ⟨s_ifeq C (by decide +kernel : decode c_X3_heard 19 = .ok (.ifCond .eq 7, 3)) (by decide) rfl rfl rfl, ?_⟩
  refine List.forall_mem_cons.mpr ⟨s_iload_n C (by decide +kernel : decode c_X3_heard 22 = .ok (.iload_n 1, 1)) rfl rfl rfl, ?_⟩
  refine List.forall_mem_cons.mpr ⟨s_goto C (by decide +kernel : decode c_X3_heard 23 = .ok (.goto 5, 3)) (by decide) rfl, ?_⟩
  refine List.forall_mem_cons.mpr ⟨s_iload C (by decide +kernel : decode c_X3_heard 26 = .ok (.iload 6, 2)) rfl rfl, ?_⟩
  refine List.forall_mem_cons.mpr ⟨s_istore C (by decide +kernel : decode c_X3_heard 28 = .ok (.istore 7, 2)) rfl rfl (by decide), ?_⟩
  refine List.forall_mem_cons.mpr ⟨s_iload_n C (by decide +kernel : decode c_X3_heard 30 = .ok (.iload_n 0, 1)) rfl rfl rfl, ?_⟩
  refine List.forall_mem_cons.mpr ⟨s_sw C (by decide +kernel : decode c_X3_heard 31 = .ok (.tableswitch 74 0 5 #[37, 40, 43, 51, 74, 60], 37)) (by decide) (by decide) (by decide) (fun _ => rfl), ?_⟩
  refine List.forall_mem_cons.mpr ⟨s_iload C (by decide +kernel : decode c_X3_heard 68 = .ok (.iload 6, 2)) rfl rfl, ?_⟩
  refine List.forall_mem_cons.mpr ⟨s_iret C (by decide +kernel : decode c_X3_heard 70 = .ok (.ireturn, 1)) hret hlk ⟨Nat.le_refl 0, Nat.le_refl 0⟩, ?_⟩
  refine List.forall_mem_cons.mpr ⟨s_iload C (by decide +kernel : decode c_X3_heard 71 = .ok (.iload 7, 2)) rfl rfl, ?_⟩
  refine List.forall_mem_cons.mpr ⟨s_iret C (by decide +kernel : decode c_X3_heard 73 = .ok (.ireturn, 1)) hret hlk ⟨Nat.le_refl 0, Nat.le_refl 0⟩, ?_⟩
  refine List.forall_mem_cons.mpr ⟨s_iload_n C (by decide +kernel : decode c_X3_heard 74 = .ok (.iload_n 1, 1)) rfl rfl rfl, ?_⟩
  refine List.forall_mem_cons.mpr ⟨s_iload_n C (by decide +kernel : decode c_X3_heard 75 = .ok (.iload_n 2, 1)) rfl rfl rfl, ?_⟩
  refine List.forall_mem_cons.mpr ⟨s_iload C (by decide +kernel : decode c_X3_heard 76 = .ok (.iload 4, 2)) rfl rfl, ?_⟩
  refine List.forall_mem_cons.mpr ⟨s_callS C hFok hF (ct_X3_taken l D dA σ) ⟨rfl, rfl⟩ ew447 ew445 ew446 ew7 ⟨by decide, by decide, by decide +kernel⟩ ⟨by decide, by decide⟩ (by decide +kernel : decode c_X3_heard 78 = .ok (.invokestatic 11, 3)) rfl rfl ⟨Nat.zero_le _, Nat.zero_le _⟩, ?_⟩
  refine List.forall_mem_cons.mpr ⟨s_iret C (by decide +kernel : decode c_X3_heard 81 = .ok (.ireturn, 1)) hret hlk ⟨Nat.le_refl 0, Nat.le_refl 0⟩, ?_⟩
  refine List.forall_mem_cons.mpr ⟨s_iload C (by decide +kernel : decode c_X3_heard 82 = .ok (.iload 7, 2)) rfl rfl, ?_⟩
  refine List.forall_mem_cons.mpr ⟨s_iload C (by decide +kernel : decode c_X3_heard 84 = .ok (.iload 4, 2)) rfl rfl, ?_⟩
  refine List.forall_mem_cons.mpr ⟨s_callS C hFok hF (ct_X3_matterBehind l D dA σ) ⟨rfl, rfl⟩ ew450 ew448 ew449 ew7 ⟨by decide, by decide, by decide +kernel⟩ ⟨by decide, by decide⟩ (by decide +kernel : decode c_X3_heard 86 = .ok (.invokestatic 15, 3)) rfl rfl ⟨Nat.zero_le _, Nat.zero_le _⟩, ?_⟩
  refine List.forall_mem_cons.mpr ⟨s_ixor C (by decide +kernel : decode c_X3_heard 89 = .ok (.ixor, 1)) rfl rfl, ?_⟩
  refine List.forall_mem_cons.mpr ⟨s_iret C (by decide +kernel : decode c_X3_heard 90 = .ok (.ireturn, 1)) hret hlk ⟨Nat.le_refl 0, Nat.le_refl 0⟩, ?_⟩
  refine List.forall_mem_cons.mpr ⟨s_iload_n C (by decide +kernel : decode c_X3_heard 91 = .ok (.iload_n 1, 1)) rfl rfl rfl, ?_⟩
  refine List.forall_mem_cons.mpr ⟨s_iload_n C (by decide +kernel : decode c_X3_heard 92 = .ok (.iload_n 2, 1)) rfl rfl rfl, ?_⟩
  refine List.forall_mem_cons.mpr ⟨s_iload C (by decide +kernel : decode c_X3_heard 93 = .ok (.iload 4, 2)) rfl rfl, ?_⟩
  refine List.forall_mem_cons.mpr ⟨s_iload C (by decide +kernel : decode c_X3_heard 95 = .ok (.iload 4, 2)) rfl rfl, ?_⟩
  refine List.forall_mem_cons.mpr ⟨s_callS C hFok hF (ct_X3_matterBehind l D dA σ) ⟨rfl, rfl⟩ ew450 ew448 ew449 ew7 ⟨by decide, by decide, by decide +kernel⟩ ⟨by decide, by decide⟩ (by decide +kernel : decode c_X3_heard 97 = .ok (.invokestatic 15, 3)) rfl rfl ⟨Nat.zero_le _, Nat.zero_le _⟩, ?_⟩
  refine List.forall_mem_cons.mpr ⟨s_ior C (by decide +kernel : decode c_X3_heard 100 = .ok (.ior, 1)) rfl rfl, ?_⟩
  refine List.forall_mem_cons.mpr ⟨s_callS C hFok hF (ct_X3_taken l D dA σ) ⟨rfl, rfl⟩ ew447 ew445 ew446 ew7 ⟨by decide, by decide, by decide +kernel⟩ ⟨by decide, by decide⟩ (by decide +kernel : decode c_X3_heard 101 = .ok (.invokestatic 11, 3)) rfl rfl ⟨Nat.zero_le _, Nat.zero_le _⟩, ?_⟩
  refine List.forall_mem_cons.mpr ⟨s_iret C (by decide +kernel : decode c_X3_heard 104 = .ok (.ireturn, 1)) hret hlk ⟨Nat.le_refl 0, Nat.le_refl 0⟩, ?_⟩
  refine List.forall_mem_cons.mpr ⟨s_iload_n C (by decide +kernel : decode c_X3_heard 105 = .ok (.iload_n 1, 1)) rfl rfl rfl, ?_⟩
  refine List.forall_mem_cons.mpr ⟨s_iret C (by decide +kernel : decode c_X3_heard 106 = .ok (.ireturn, 1)) hret hlk ⟨Nat.le_refl 0, Nat.le_refl 0⟩, ?_⟩
  exact fun _ h => absurd h List.not_mem_nil
def ush (x y : Int32) : Int32 := (x.toUInt32 >>> (y.toUInt32 &&& Int32.toUInt32 31)).toInt32
def bc1 (x : Int32) : Int32 := x - (ush x 1 &&& 1431655765)
def bc2 (x : Int32) : Int32 := (x &&& 858993459) + (ush x 2 &&& 858993459)
def bc3 (x : Int32) : Int32 := (x + ush x 4) &&& 252645135
def bc4 (x : Int32) : Int32 := x + ush x 8
def bc5 (x : Int32) : Int32 := x + ush x 16
def bcI (x : Int32) : Int32 := bc5 (bc4 (bc3 (bc2 (bc1 x)))) &&& 63
def sp_J6_bitCount_0f7a4 : em_Sp := fun av hp Q => ∃ x, av = [.int x] ∧ Q (some (.int (bcI x))) hp
def T_J6_bitCount_0f7a4 : List (Nat × em_Op) := [(0, o_iload 0 1), (1, o_iload 0 2), (2, o_iconst 1 3), (3, o_iushr 4), (4, o_iconst 1431655765 7), (7, o_iand 8), (8, o_isub 9), (9, o_istore 0 10), (10, o_iload 0 11), (11, o_iconst 858993459 14), (14, o_iand 15), (15, o_iload 0 16), (16, o_iconst 2 17), (17, o_iushr 18), (18, o_iconst 858993459 21), (21, o_iand 22), (22, o_iadd 23), (23, o_istore 0 24), (24, o_iload 0 25), (25, o_iload 0 26), (26, o_iconst 4 27), (27, o_iushr 28), (28, o_iadd 29), (29, o_iconst 252645135 32), (32, o_iand 33), (33, o_istore 0 34), (34, o_iload 0 35), (35, o_iload 0 36), (36, o_iconst 8 38), (38, o_iushr 39), (39, o_iadd 40), (40, o_istore 0 41), (41, o_iload 0 42), (42, o_iload 0 43), (43, o_iconst 16 45), (45, o_iushr 46), (46, o_iadd 47), (47, o_istore 0 48), (48, o_iload 0 49), (49, o_iconst 63 51), (51, o_iand 52), (52, o_iret)]
theorem me_J6_bitCount_0f7a4 : em_Me T_J6_bitCount_0f7a4 1 sp_J6_bitCount_0f7a4 := by
  intro Q K hK hle av hp hs
  obtain ⟨x, rfl, hq⟩ := hs
  exact ⟨Nat.le_of_ble_eq_true rfl, hK 0 99 0 _ _ _ hq⟩
abbrev rm_J6_bitCount_0f7a4 : Room := { frames := 0, cells := 0, slots := 0, locals := 0 }
set_option maxRecDepth 100000 in
set_option maxHeartbeats 4000000 in
theorem ct_J6_bitCount_0f7a4 (l : Launch) (D : va_G) (dA : Nat → ClassId) (σ : Nat → Nat) : em_CT l D em_cl dA σ (em_F σ) y_J6_bitCount_0f7a4 c_J6_bitCount_0f7a4 1 (Option.some ClassFile.FieldType.int) rm_J6_bitCount_0f7a4 (sp_J6_bitCount_0f7a4 ) := by
  refine em_CT_of (T := T_J6_bitCount_0f7a4 ) (em_F_ok σ) (by decide) (fun p e s m args below meth c A ρ Q C hFok hF hret hlk hin => ?_) (me_J6_bitCount_0f7a4 )
  unfold T_J6_bitCount_0f7a4
  refine List.forall_mem_cons.mpr ⟨s_iload_n C (by decide +kernel : decode c_J6_bitCount_0f7a4 0 = .ok (.iload_n 0, 1)) rfl rfl rfl, ?_⟩
  refine List.forall_mem_cons.mpr ⟨s_iload_n C (by decide +kernel : decode c_J6_bitCount_0f7a4 1 = .ok (.iload_n 0, 1)) rfl rfl rfl, ?_⟩
  refine List.forall_mem_cons.mpr ⟨s_iconst C (by decide +kernel : decode c_J6_bitCount_0f7a4 2 = .ok (.iconst 1, 1)) rfl rfl (by decide), ?_⟩
  refine List.forall_mem_cons.mpr ⟨s_iushr C (by decide +kernel : decode c_J6_bitCount_0f7a4 3 = .ok (.iushr, 1)) rfl rfl, ?_⟩
  refine List.forall_mem_cons.mpr ⟨s_ldcw C (by decide +kernel : decode c_J6_bitCount_0f7a4 4 = .ok (.ldc_w 265, 3)) rfl rfl ew394, ?_⟩
  refine List.forall_mem_cons.mpr ⟨s_iand C (by decide +kernel : decode c_J6_bitCount_0f7a4 7 = .ok (.iand, 1)) rfl rfl, ?_⟩
  refine List.forall_mem_cons.mpr ⟨s_isub C (by decide +kernel : decode c_J6_bitCount_0f7a4 8 = .ok (.isub, 1)) rfl rfl, ?_⟩
  refine List.forall_mem_cons.mpr ⟨s_istore_n C (by decide +kernel : decode c_J6_bitCount_0f7a4 9 = .ok (.istore_n 0, 1)) rfl rfl rfl (by decide), ?_⟩
  refine List.forall_mem_cons.mpr ⟨s_iload_n C (by decide +kernel : decode c_J6_bitCount_0f7a4 10 = .ok (.iload_n 0, 1)) rfl rfl rfl, ?_⟩
  refine List.forall_mem_cons.mpr ⟨s_ldcw C (by decide +kernel : decode c_J6_bitCount_0f7a4 11 = .ok (.ldc_w 266, 3)) rfl rfl ew395, ?_⟩
  refine List.forall_mem_cons.mpr ⟨s_iand C (by decide +kernel : decode c_J6_bitCount_0f7a4 14 = .ok (.iand, 1)) rfl rfl, ?_⟩
  refine List.forall_mem_cons.mpr ⟨s_iload_n C (by decide +kernel : decode c_J6_bitCount_0f7a4 15 = .ok (.iload_n 0, 1)) rfl rfl rfl, ?_⟩
  refine List.forall_mem_cons.mpr ⟨s_iconst C (by decide +kernel : decode c_J6_bitCount_0f7a4 16 = .ok (.iconst 2, 1)) rfl rfl (by decide), ?_⟩
  refine List.forall_mem_cons.mpr ⟨s_iushr C (by decide +kernel : decode c_J6_bitCount_0f7a4 17 = .ok (.iushr, 1)) rfl rfl, ?_⟩
  refine List.forall_mem_cons.mpr ⟨s_ldcw C (by decide +kernel : decode c_J6_bitCount_0f7a4 18 = .ok (.ldc_w 266, 3)) rfl rfl ew395, ?_⟩
  refine List.forall_mem_cons.mpr ⟨s_iand C (by decide +kernel : decode c_J6_bitCount_0f7a4 21 = .ok (.iand, 1)) rfl rfl, ?_⟩
  refine List.forall_mem_cons.mpr ⟨s_iadd C (by decide +kernel : decode c_J6_bitCount_0f7a4 22 = .ok (.iadd, 1)) rfl rfl, ?_⟩
  refine List.forall_mem_cons.mpr ⟨s_istore_n C (by decide +kernel : decode c_J6_bitCount_0f7a4 23 = .ok (.istore_n 0, 1)) rfl rfl rfl (by decide), ?_⟩
  refine List.forall_mem_cons.mpr ⟨s_iload_n C (by decide +kernel : decode c_J6_bitCount_0f7a4 24 = .ok (.iload_n 0, 1)) rfl rfl rfl, ?_⟩
  refine List.forall_mem_cons.mpr ⟨s_iload_n C (by decide +kernel : decode c_J6_bitCount_0f7a4 25 = .ok (.iload_n 0, 1)) rfl rfl rfl, ?_⟩
  refine List.forall_mem_cons.mpr ⟨s_iconst C (by decide +kernel : decode c_J6_bitCount_0f7a4 26 = .ok (.iconst 4, 1)) rfl rfl (by decide), ?_⟩
  refine List.forall_mem_cons.mpr ⟨s_iushr C (by decide +kernel : decode c_J6_bitCount_0f7a4 27 = .ok (.iushr, 1)) rfl rfl, ?_⟩
  refine List.forall_mem_cons.mpr ⟨s_iadd C (by decide +kernel : decode c_J6_bitCount_0f7a4 28 = .ok (.iadd, 1)) rfl rfl, ?_⟩
  refine List.forall_mem_cons.mpr ⟨s_ldcw C (by decide +kernel : decode c_J6_bitCount_0f7a4 29 = .ok (.ldc_w 267, 3)) rfl rfl ew396, ?_⟩
  refine List.forall_mem_cons.mpr ⟨s_iand C (by decide +kernel : decode c_J6_bitCount_0f7a4 32 = .ok (.iand, 1)) rfl rfl, ?_⟩
  refine List.forall_mem_cons.mpr ⟨s_istore_n C (by decide +kernel : decode c_J6_bitCount_0f7a4 33 = .ok (.istore_n 0, 1)) rfl rfl rfl (by decide), ?_⟩
  refine List.forall_mem_cons.mpr ⟨s_iload_n C (by decide +kernel : decode c_J6_bitCount_0f7a4 34 = .ok (.iload_n 0, 1)) rfl rfl rfl, ?_⟩
  refine List.forall_mem_cons.mpr ⟨s_iload_n C (by decide +kernel : decode c_J6_bitCount_0f7a4 35 = .ok (.iload_n 0, 1)) rfl rfl rfl, ?_⟩
  refine List.forall_mem_cons.mpr ⟨s_bipush C (by decide +kernel : decode c_J6_bitCount_0f7a4 36 = .ok (.bipush 8, 2)) rfl rfl (by decide), ?_⟩
  refine List.forall_mem_cons.mpr ⟨s_iushr C (by decide +kernel : decode c_J6_bitCount_0f7a4 38 = .ok (.iushr, 1)) rfl rfl, ?_⟩
  refine List.forall_mem_cons.mpr ⟨s_iadd C (by decide +kernel : decode c_J6_bitCount_0f7a4 39 = .ok (.iadd, 1)) rfl rfl, ?_⟩
  refine List.forall_mem_cons.mpr ⟨s_istore_n C (by decide +kernel : decode c_J6_bitCount_0f7a4 40 = .ok (.istore_n 0, 1)) rfl rfl rfl (by decide), ?_⟩
  refine List.forall_mem_cons.mpr ⟨s_iload_n C (by decide +kernel : decode c_J6_bitCount_0f7a4 41 = .ok (.iload_n 0, 1)) rfl rfl rfl, ?_⟩
  refine List.forall_mem_cons.mpr ⟨s_iload_n C (by decide +kernel : decode c_J6_bitCount_0f7a4 42 = .ok (.iload_n 0, 1)) rfl rfl rfl, ?_⟩
  refine List.forall_mem_cons.mpr ⟨s_bipush C (by decide +kernel : decode c_J6_bitCount_0f7a4 43 = .ok (.bipush 16, 2)) rfl rfl (by decide), ?_⟩
  refine List.forall_mem_cons.mpr ⟨s_iushr C (by decide +kernel : decode c_J6_bitCount_0f7a4 45 = .ok (.iushr, 1)) rfl rfl, ?_⟩
  refine List.forall_mem_cons.mpr ⟨s_iadd C (by decide +kernel : decode c_J6_bitCount_0f7a4 46 = .ok (.iadd, 1)) rfl rfl, ?_⟩
  refine List.forall_mem_cons.mpr ⟨s_istore_n C (by decide +kernel : decode c_J6_bitCount_0f7a4 47 = .ok (.istore_n 0, 1)) rfl rfl rfl (by decide), ?_⟩
  refine List.forall_mem_cons.mpr ⟨s_iload_n C (by decide +kernel : decode c_J6_bitCount_0f7a4 48 = .ok (.iload_n 0, 1)) rfl rfl rfl, ?_⟩
  refine List.forall_mem_cons.mpr ⟨s_bipush C (by decide +kernel : decode c_J6_bitCount_0f7a4 49 = .ok (.bipush 63, 2)) rfl rfl (by decide), ?_⟩
  refine List.forall_mem_cons.mpr ⟨s_iand C (by decide +kernel : decode c_J6_bitCount_0f7a4 51 = .ok (.iand, 1)) rfl rfl, ?_⟩
  refine List.forall_mem_cons.mpr ⟨s_iret C (by decide +kernel : decode c_J6_bitCount_0f7a4 52 = .ok (.ireturn, 1)) hret hlk ⟨Nat.le_refl 0, Nat.le_refl 0⟩, ?_⟩
  exact fun _ h => absurd h List.not_mem_nil
def lob (x : Int32) : Int32 := x &&& -x
def sp_J6_lowestOneBit_0f7a4 : em_Sp := fun av hp Q => ∃ x, av = [.int x] ∧ Q (some (.int (lob x))) hp
def T_J6_lowestOneBit_0f7a4 : List (Nat × em_Op) := [(0, o_iload 0 1), (1, o_iload 0 2), (2, o_ineg 3), (3, o_iand 4), (4, o_iret)]
theorem me_J6_lowestOneBit_0f7a4 : em_Me T_J6_lowestOneBit_0f7a4 1 sp_J6_lowestOneBit_0f7a4 := by
  intro Q K hK hle av hp hs
  obtain ⟨x, rfl, hq⟩ := hs
  exact ⟨Nat.le_of_ble_eq_true rfl, hK 0 99 0 _ _ _ hq⟩
abbrev rm_J6_lowestOneBit_0f7a4 : Room := { frames := 0, cells := 0, slots := 0, locals := 0 }
set_option maxRecDepth 100000 in
set_option maxHeartbeats 4000000 in
theorem ct_J6_lowestOneBit_0f7a4 (l : Launch) (D : va_G) (dA : Nat → ClassId) (σ : Nat → Nat) : em_CT l D em_cl dA σ (em_F σ) y_J6_lowestOneBit_0f7a4 c_J6_lowestOneBit_0f7a4 1 (Option.some ClassFile.FieldType.int) rm_J6_lowestOneBit_0f7a4 (sp_J6_lowestOneBit_0f7a4 ) := by
  refine em_CT_of (T := T_J6_lowestOneBit_0f7a4 ) (em_F_ok σ) (by decide) (fun p e s m args below meth c A ρ Q C hFok hF hret hlk hin => ?_) (me_J6_lowestOneBit_0f7a4 )
  unfold T_J6_lowestOneBit_0f7a4
  refine List.forall_mem_cons.mpr ⟨s_iload_n C (by decide +kernel : decode c_J6_lowestOneBit_0f7a4 0 = .ok (.iload_n 0, 1)) rfl rfl rfl, ?_⟩
  refine List.forall_mem_cons.mpr ⟨s_iload_n C (by decide +kernel : decode c_J6_lowestOneBit_0f7a4 1 = .ok (.iload_n 0, 1)) rfl rfl rfl, ?_⟩
  refine List.forall_mem_cons.mpr ⟨s_ineg C (by decide +kernel : decode c_J6_lowestOneBit_0f7a4 2 = .ok (.ineg, 1)) rfl rfl, ?_⟩
  refine List.forall_mem_cons.mpr ⟨s_iand C (by decide +kernel : decode c_J6_lowestOneBit_0f7a4 3 = .ok (.iand, 1)) rfl rfl, ?_⟩
  refine List.forall_mem_cons.mpr ⟨s_iret C (by decide +kernel : decode c_J6_lowestOneBit_0f7a4 4 = .ok (.ireturn, 1)) hret hlk ⟨Nat.le_refl 0, Nat.le_refl 0⟩, ?_⟩
  exact fun _ h => absurd h List.not_mem_nil
