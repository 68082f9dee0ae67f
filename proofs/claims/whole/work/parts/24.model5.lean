/-! ===== the course of the evenings ===== -/
theorem trN_0 (B : Nat → Nat) : trN B 0 = nw B := rfl
def sp_X10_lastsBy : em_Sp := fun av hp Q => ∃ B im kp asd rf qt ab be tx ty at9 st9 tk vl wd it mn S sb my we be9 rw fr k, av = [.ref 0, .int (nI k)] ∧ hp = (wM (nB B) im kp asd rf qt ab be tx ty at9 st9 tk vl wd it mn (nB S) sb my we be9 rw fr) ∧ GK B ∧ Z6 S ∧ k ≤ 200 ∧ Q none (wM (nB B) im kp asd rf qt ab be tx ty at9 st9 tk vl wd it mn (nB (trN B k)) sb my we be9 rw fr)
def T_X10_lastsBy : List (Nat × em_Op) := [(0, o_aload 0 1), (1, o_call 1 (some 5) (sp_X10_asNow) 4), (4, o_iconst 0 5), (5, o_istore 2 6), (6, o_iload 2 7), (7, o_iload 1 8), (8, o_icmpge 29 11), (11, o_aload 0 12), (12, o_aload 0 13), (13, o_getf 5 0 16), (16, o_iconst 2 17), (17, o_aldI 0 18), (18, o_iload 2 19), (19, o_iadd 20), (20, o_call 2 (some 5) (sp_X10_goes) 23), (23, o_iinc 2 1 26), (26, o_goto 6), (29, o_vret)]
theorem me_X10_lastsBy : em_Me T_X10_lastsBy 3 sp_X10_lastsBy := by
  intro Q K hK hle av hp hs
  obtain ⟨B, im, kp, asd, rf, qt, ab, be, tx, ty, at9, st9, tk, vl, wd, it, mn, S, sb, my, we, be9, rw, fr, k, rfl, rfl, hB, hz, hk, hq⟩ := hs
  have hb2 := hB.2.2.1
  refine ⟨Nat.le_of_ble_eq_true rfl, ?_⟩
  have loop : ∀ (r t : Nat), t + r = k → K 6 [some (.ref 0), some (.int (nI k)), some (.int (nI t))] [] (wM (nB B) im kp asd rf qt ab be tx ty at9 st9 tk vl wd it mn (nB (trN B t)) sb my we be9 rw fr) := by
    intro r
    induction r with
    | zero =>
      intro t ht
      have ht : t = k := by omega
      subst ht
      refine hK 4 9999 6 _ _ _ ?_
      exact ⟨fun _ => hq, fun z => absurd (nI_le (Nat.le_refl t) (by omega)) z⟩
    | succ r ih =>
      intro t ht
      have := ih (t + 1) (by omega)
      rw [← nI_1 t] at this
      refine hK 4 9999 6 _ _ _ ?_
      refine ⟨fun z => absurd z (nI_ge (a := t) (b := k) (by omega) (by omega)), fun _ => ?_⟩
      exact ⟨2, rfl, by decide, _, _, _, _, _, _, _, _, _, _, _, _, _, _, _, _, _, _, _, _, _, _, _, _, B 2 + t, (by show [Value.ref 0, Value.int (nI (B 2) + nI t)] = _; rw [nI_add]), rfl, hB, trN_ok hB t, by omega, this⟩
  refine hK 0 4 0 _ _ _ ?_
  refine ⟨_, _, _, _, _, _, _, _, _, _, _, _, _, _, _, _, _, _, _, _, _, _, _, _, rfl, rfl, fun so' h1 h2 => ?_⟩
  have e := nw_eq hz h1 h2
  subst e
  exact loop k 0 (by omega)
abbrev rm_X10_lastsBy : Room := { frames := 3, cells := 0, slots := 0, locals := 83 }
set_option maxRecDepth 100000 in
set_option maxHeartbeats 4000000 in
theorem ct_X10_lastsBy (l : Launch) (D : va_G) (dA : Nat → ClassId) (σ : Nat → Nat) : em_CT l D em_cl dA σ (em_F σ) y_X10_lastsBy c_X10_lastsBy 3 (Option.none : Option ClassFile.FieldType) rm_X10_lastsBy (sp_X10_lastsBy ) := by
  refine em_CT_of (T := T_X10_lastsBy ) (em_F_ok σ) (by decide) (fun p e s m args below meth c A ρ Q C hFok hF hret hlk hin => ?_) (me_X10_lastsBy )
  unfold T_X10_lastsBy
  refine List.forall_mem_cons.mpr ⟨s_aload_n C (by decide +kernel : decode c_X10_lastsBy 0 = .ok (.aload_n 0, 1)) rfl rfl rfl, ?_⟩
  refine List.forall_mem_cons.mpr ⟨s_callV C hFok hF (ct_X10_asNow l D dA σ) ⟨rfl, rfl⟩ ew903 em_cl_X10 ew900 ew902 ewp26 ew6 ⟨by decide, by decide, by decide +kernel⟩ ⟨by decide, by decide⟩ (by decide +kernel : decode c_X10_lastsBy 1 = .ok (.invokevirtual 182, 3)) rfl rfl ⟨Nat.zero_le _, Nat.zero_le _⟩, ?_⟩
  refine List.forall_mem_cons.mpr ⟨s_iconst C (by decide +kernel : decode c_X10_lastsBy 4 = .ok (.iconst 0, 1)) rfl rfl (by decide), ?_⟩
  refine List.forall_mem_cons.mpr ⟨s_istore_n C (by decide +kernel : decode c_X10_lastsBy 5 = .ok (.istore_n 2, 1)) rfl rfl rfl (by decide), ?_⟩
  refine List.forall_mem_cons.mpr ⟨s_iload_n C (by decide +kernel : decode c_X10_lastsBy 6 = .ok (.iload_n 2, 1)) rfl rfl rfl, ?_⟩
  refine List.forall_mem_cons.mpr ⟨s_iload_n C (by decide +kernel : decode c_X10_lastsBy 7 = .ok (.iload_n 1, 1)) rfl rfl rfl, ?_⟩
  refine List.forall_mem_cons.mpr ⟨s_icmpge C (by decide +kernel : decode c_X10_lastsBy 8 = .ok (.if_icmp .ge 21, 3)) (by decide) rfl rfl rfl, ?_⟩
  refine List.forall_mem_cons.mpr ⟨s_aload_n C (by decide +kernel : decode c_X10_lastsBy 11 = .ok (.aload_n 0, 1)) rfl rfl rfl, ?_⟩
  refine List.forall_mem_cons.mpr ⟨s_aload_n C (by decide +kernel : decode c_X10_lastsBy 12 = .ok (.aload_n 0, 1)) rfl rfl rfl, ?_⟩
  refine List.forall_mem_cons.mpr ⟨s_getf C (by decide +kernel : decode c_X10_lastsBy 13 = .ok (.getfield 7, 3)) rfl rfl em_cl_X10 (by decide) ew691 rfl, ?_⟩
  refine List.forall_mem_cons.mpr ⟨s_iconst C (by decide +kernel : decode c_X10_lastsBy 16 = .ok (.iconst 2, 1)) rfl rfl (by decide), ?_⟩
  refine List.forall_mem_cons.mpr ⟨s_iald C (by decide +kernel : decode c_X10_lastsBy 17 = .ok (.iaload, 1)) rfl rfl, ?_⟩
  refine List.forall_mem_cons.mpr ⟨s_iload_n C (by decide +kernel : decode c_X10_lastsBy 18 = .ok (.iload_n 2, 1)) rfl rfl rfl, ?_⟩
  refine List.forall_mem_cons.mpr ⟨s_iadd C (by decide +kernel : decode c_X10_lastsBy 19 = .ok (.iadd, 1)) rfl rfl, ?_⟩
  refine List.forall_mem_cons.mpr ⟨s_callV C hFok hF (ct_X10_goes l D dA σ) ⟨rfl, rfl⟩ ew923 em_cl_X10 ew920 ew922 ewp29 ew6 ⟨by decide, by decide, by decide +kernel⟩ ⟨by decide, by decide⟩ (by decide +kernel : decode c_X10_lastsBy 20 = .ok (.invokevirtual 199, 3)) rfl rfl ⟨Nat.zero_le _, Nat.zero_le _⟩, ?_⟩
  refine List.forall_mem_cons.mpr ⟨s_iinc C (by decide +kernel : decode c_X10_lastsBy 23 = .ok (.iinc 2 1, 3)) rfl rfl (by decide) (by decide), ?_⟩
  refine List.forall_mem_cons.mpr ⟨s_goto C (by decide +kernel : decode c_X10_lastsBy 26 = .ok (.goto (-20), 3)) (by decide) rfl, ?_⟩
  refine List.forall_mem_cons.mpr ⟨s_vret C (by decide +kernel : decode c_X10_lastsBy 29 = .ok (.return_, 1)) hret hlk ⟨Nat.le_refl 0, Nat.le_refl 0⟩, ?_⟩
  exact fun _ h => absurd h List.not_mem_nil
def sp_X10_behind : em_Sp := fun av hp Q => ∃ B im kp asd rf qt ab be tx ty at9 st9 tk vl wd it mn S sb my we be9 rw fr p m, av = [.ref 0, .int p, .int m] ∧ hp = (wM (nB B) im kp asd rf qt ab be tx ty at9 st9 tk vl wd it mn (nB S) sb my we be9 rw fr) ∧ GK B ∧ Z6 S ∧ (¬ (hs (nI (B 0)) p ∧ inm m) → Q (some (.int (-2))) (wM (nB B) im kp asd (rfM qt rf 0) qt ab be tx ty at9 st9 tk vl wd it mn (nB S) sb my we be9 rw fr)) ∧ (∀ j k S', Z6 S' → p = nI j → j < B 0 → m = nI k → k ≤ 200 → Q (some (.int (nI (trN B k j)))) (wM (nB B) im kp asd rf qt ab be tx ty at9 st9 tk vl wd it mn (nB S') sb my we be9 rw fr))
def T_X10_behind : List (Nat × em_Op) := [(0, o_aload 0 1), (1, o_iload 1 2), (2, o_call 2 (some 5) (sp_X10_isPerson) 5), (5, o_ifeq 20 8), (8, o_iload 2 9), (9, o_i2l 10), (10, o_lconst 0 11), (11, o_lconst 200 14), (14, o_call 3 none (sp_X10_in) 17), (17, o_ifne 25 20), (20, o_aload 0 21), (21, o_call 1 (some 5) (sp_X10_bad) 24), (24, o_iret), (25, o_aload 0 26), (26, o_iload 2 27), (27, o_call 2 (some 5) (sp_X10_lastsBy) 30), (30, o_aload 0 31), (31, o_getf 5 17 34), (34, o_iload 1 35), (35, o_aldI 0 36), (36, o_iret)]
theorem me_X10_behind : em_Me T_X10_behind 3 sp_X10_behind := by
  intro Q K hK hle av hp hs
  obtain ⟨B, im, kp, asd, rf, qt, ab, be, tx, ty, at9, st9, tk, vl, wd, it, mn, S, sb, my, we, be9, rw, fr, p, m, rfl, rfl, hB, hz, hbad, hq⟩ := hs
  have h0 := hB.1
  refine ⟨Nat.le_of_ble_eq_true rfl, hK 0 9999 0 _ _ _ ?_⟩
  refine ⟨_, _, _, _, _, _, _, _, _, _, _, _, _, _, _, _, _, _, _, _, _, _, _, _, _, B 0, rfl, rfl, rfl, h0, fun z1 => ?_, fun z1 => ?_⟩
  · refine ⟨fun y => absurd y (by decide), fun _ => ?_⟩
    obtain ⟨j, hj, rfl⟩ := nI_at rfl z1
    refine ⟨_, _, _, rfl, fun z2 => ?_, fun z2 => ?_⟩
    · refine ⟨fun _ => ?_, fun y => absurd y (by decide)⟩
      obtain ⟨k, hk, rfl⟩ := inm_at (in_200.mp z2)
      exact ⟨_, _, _, _, _, _, _, _, _, _, _, _, _, _, _, _, _, _, _, _, _, _, _, _, k, rfl, rfl, hB, hz, hk, j, rfl, by omega, hq j k _ (trN_Z hB k) rfl hj rfl hk⟩
    · exact ⟨fun y => absurd rfl y, fun _ => ⟨_, _, _, _, _, _, _, _, _, _, _, _, _, _, _, _, _, _, _, _, _, _, _, _, rfl, rfl, hbad (fun q => z2 (in_200.mpr q.2))⟩⟩
  · exact ⟨fun _ => ⟨_, _, _, _, _, _, _, _, _, _, _, _, _, _, _, _, _, _, _, _, _, _, _, _, rfl, rfl, hbad (fun q => z1 q.1)⟩, fun y => absurd y (by decide)⟩
abbrev rm_X10_behind : Room := { frames := 4, cells := 0, slots := 0, locals := 105 }
set_option maxRecDepth 100000 in
set_option maxHeartbeats 4000000 in
theorem ct_X10_behind (l : Launch) (D : va_G) (dA : Nat → ClassId) (σ : Nat → Nat) : em_CT l D em_cl dA σ (em_F σ) y_X10_behind c_X10_behind 3 (Option.some ClassFile.FieldType.int) rm_X10_behind (sp_X10_behind ) := by
  refine em_CT_of (T := T_X10_behind ) (em_F_ok σ) (by decide) (fun p e s m args below meth c A ρ Q C hFok hF hret hlk hin => ?_) (me_X10_behind )
  unfold T_X10_behind
  refine List.forall_mem_cons.mpr ⟨s_aload_n C (by decide +kernel : decode c_X10_behind 0 = .ok (.aload_n 0, 1)) rfl rfl rfl, ?_⟩
  refine List.forall_mem_cons.mpr ⟨s_iload_n C (by decide +kernel : decode c_X10_behind 1 = .ok (.iload_n 1, 1)) rfl rfl rfl, ?_⟩
  refine List.forall_mem_cons.mpr ⟨s_callV C hFok hF (ct_X10_isPerson l D dA σ) ⟨rfl, rfl⟩ ew795 em_cl_X10 ew792 ew794 ewp16 ew6 ⟨by decide, by decide, by decide +kernel⟩ ⟨by decide, by decide⟩ (by decide +kernel : decode c_X10_behind 2 = .ok (.invokevirtual 73, 3)) rfl rfl ⟨Nat.zero_le _, Nat.zero_le _⟩, ?_⟩
  refine List.forall_mem_cons.mpr ⟨s_ifeq C (by decide +kernel : decode c_X10_behind 5 = .ok (.ifCond .eq 15, 3)) (by decide) rfl rfl rfl, ?_⟩
  refine List.forall_mem_cons.mpr ⟨s_iload_n C (by decide +kernel : decode c_X10_behind 8 = .ok (.iload_n 2, 1)) rfl rfl rfl, ?_⟩
  refine List.forall_mem_cons.mpr ⟨s_i2l C (by decide +kernel : decode c_X10_behind 9 = .ok (.i2l, 1)) rfl rfl, ?_⟩
  refine List.forall_mem_cons.mpr ⟨s_lconst C (by decide +kernel : decode c_X10_behind 10 = .ok (.lconst 0, 1)) rfl rfl (by decide), ?_⟩
  refine List.forall_mem_cons.mpr ⟨s_ldc2 C (by decide +kernel : decode c_X10_behind 11 = .ok (.ldc2_w 209, 3)) rfl rfl ew952, ?_⟩
  refine List.forall_mem_cons.mpr ⟨s_callS C hFok hF (ct_X10_in l D dA σ) ⟨rfl, rfl⟩ ew771 ew769 ew770 ew6 ⟨by decide, by decide, by decide +kernel⟩ ⟨by decide, by decide⟩ (by decide +kernel : decode c_X10_behind 14 = .ok (.invokestatic 69, 3)) rfl rfl ⟨Nat.zero_le _, Nat.zero_le _⟩, ?_⟩
  refine List.forall_mem_cons.mpr ⟨s_ifne C (by decide +kernel : decode c_X10_behind 17 = .ok (.ifCond .ne 8, 3)) (by decide) rfl rfl rfl, ?_⟩
  refine List.forall_mem_cons.mpr ⟨s_aload_n C (by decide +kernel : decode c_X10_behind 20 = .ok (.aload_n 0, 1)) rfl rfl rfl, ?_⟩
  refine List.forall_mem_cons.mpr ⟨s_callV C hFok hF (ct_X10_bad l D dA σ) ⟨rfl, rfl⟩ ew779 em_cl_X10 ew776 ew778 ewp13 ew6 ⟨by decide, by decide, by decide +kernel⟩ ⟨by decide, by decide⟩ (by decide +kernel : decode c_X10_behind 21 = .ok (.invokevirtual 84, 3)) rfl rfl ⟨Nat.zero_le _, Nat.zero_le _⟩, ?_⟩
  refine List.forall_mem_cons.mpr ⟨s_iret C (by decide +kernel : decode c_X10_behind 24 = .ok (.ireturn, 1)) hret hlk ⟨Nat.le_refl 0, Nat.le_refl 0⟩, ?_⟩
  refine List.forall_mem_cons.mpr ⟨s_aload_n C (by decide +kernel : decode c_X10_behind 25 = .ok (.aload_n 0, 1)) rfl rfl rfl, ?_⟩
  refine List.forall_mem_cons.mpr ⟨s_iload_n C (by decide +kernel : decode c_X10_behind 26 = .ok (.iload_n 2, 1)) rfl rfl rfl, ?_⟩
  refine List.forall_mem_cons.mpr ⟨s_callV C hFok hF (ct_X10_lastsBy l D dA σ) ⟨rfl, rfl⟩ ew956 em_cl_X10 ew953 ew955 ewp34 ew6 ⟨by decide, by decide, by decide +kernel⟩ ⟨by decide, by decide⟩ (by decide +kernel : decode c_X10_behind 27 = .ok (.invokevirtual 211, 3)) rfl rfl ⟨Nat.zero_le _, Nat.zero_le _⟩, ?_⟩
  refine List.forall_mem_cons.mpr ⟨s_aload_n C (by decide +kernel : decode c_X10_behind 30 = .ok (.aload_n 0, 1)) rfl rfl rfl, ?_⟩
  refine List.forall_mem_cons.mpr ⟨s_getf C (by decide +kernel : decode c_X10_behind 31 = .ok (.getfield 32, 3)) rfl rfl em_cl_X10 (by decide) ew708 rfl, ?_⟩
  refine List.forall_mem_cons.mpr ⟨s_iload_n C (by decide +kernel : decode c_X10_behind 34 = .ok (.iload_n 1, 1)) rfl rfl rfl, ?_⟩
  refine List.forall_mem_cons.mpr ⟨s_iald C (by decide +kernel : decode c_X10_behind 35 = .ok (.iaload, 1)) rfl rfl, ?_⟩
  refine List.forall_mem_cons.mpr ⟨s_iret C (by decide +kernel : decode c_X10_behind 36 = .ok (.ireturn, 1)) hret hlk ⟨Nat.le_refl 0, Nat.le_refl 0⟩, ?_⟩
  exact fun _ h => absurd h List.not_mem_nil
def lstN (B : Nat → Nat) (a b : Nat) : Option Nat := ffd (fun t => !isL B (trN B t) a b) 201 201
def sp_X10_lasts : em_Sp := fun av hp Q => ∃ B im kp asd rf qt ab be tx ty at9 st9 tk vl wd it mn S sb my we be9 rw fr a b, av = [.ref 0, .int a, .int b] ∧ hp = (wM (nB B) im kp asd rf qt ab be tx ty at9 st9 tk vl wd it mn (nB S) sb my we be9 rw fr) ∧ GK B ∧ Z6 S ∧ (¬ h2 (nI (B 0)) a b → Q (some (.int (-2))) (wM (nB B) im kp asd (rfM qt rf 0) qt ab be tx ty at9 st9 tk vl wd it mn (nB S) sb my we be9 rw fr)) ∧ (∀ i j S', Z6 S' → a = nI i → b = nI j → i < B 0 → j < B 0 → i ≠ j → Q (some (.int (oI (lstN B i j)))) (wM (nB B) im kp asd rf qt ab be tx ty at9 st9 tk vl wd it mn (nB S') sb my we be9 rw fr))
def T_X10_lasts : List (Nat × em_Op) := [(0, o_aload 0 1), (1, o_iload 1 2), (2, o_iload 2 3), (3, o_call 3 (some 5) (sp_X10_areTwo) 6), (6, o_ifne 14 9), (9, o_aload 0 10), (10, o_call 1 (some 5) (sp_X10_bad) 13), (13, o_iret), (14, o_aload 0 15), (15, o_call 1 (some 5) (sp_X10_asNow) 18), (18, o_iconst 0 19), (19, o_istore 3 20), (20, o_iload 3 21), (21, o_iconst 200 24), (24, o_icmpgt 56 27), (27, o_aload 0 28), (28, o_iload 1 29), (29, o_iload 2 30), (30, o_call 3 (some 5) (sp_X10_isLawful) 33), (33, o_ifne 38 36), (36, o_iload 3 37), (37, o_iret), (38, o_aload 0 39), (39, o_aload 0 40), (40, o_getf 5 0 43), (43, o_iconst 2 44), (44, o_aldI 0 45), (45, o_iload 3 46), (46, o_iadd 47), (47, o_call 2 (some 5) (sp_X10_goes) 50), (50, o_iinc 3 1 53), (53, o_goto 20), (56, o_iconst (-1) 57), (57, o_iret)]
theorem me_X10_lasts : em_Me T_X10_lasts 4 sp_X10_lasts := by
  intro Q K hK hle av hp hs
  obtain ⟨B, im, kp, asd, rf, qt, ab, be, tx, ty, at9, st9, tk, vl, wd, it, mn, S, sb, my, we, be9, rw, fr, a, b, rfl, rfl, hB, hz, hbad, hq⟩ := hs
  have h0 := hB.1
  have hb2 := hB.2.2.1
  refine ⟨Nat.le_of_ble_eq_true rfl, hK 0 12 0 _ _ _ ?_⟩
  refine ⟨_, _, _, _, _, _, _, _, _, _, _, _, _, _, _, _, _, _, _, _, _, _, _, _, _, _, B 0, rfl, rfl, rfl, h0, fun z => ?_, fun z1 => ?_⟩
  · refine ⟨fun _ => ?_, fun y => absurd y (by decide)⟩
    obtain ⟨i, hi, rfl⟩ := nI_at rfl z.1
    obtain ⟨j, hj, rfl⟩ := nI_at rfl z.2.1
    have hij : i ≠ j := fun q => z.2.2 (by rw [q])
    obtain ⟨V, hV⟩ : ∃ V, V = lstN B i j := ⟨_, rfl⟩
    have hq := fun S' hS' => hq i j S' hS' rfl rfl hi hj hij
    rw [← hV] at hq
    have loop : ∀ (r : Nat), r ≤ 201 → V = ffd (fun t => !isL B (trN B t) i j) 201 r → K 20 [some (.ref 0), some (.int (nI i)), some (.int (nI j)), some (.int (nI (201 - r)))] [] (wM (nB B) im kp asd rf qt ab be tx ty at9 st9 tk vl wd it mn (nB (trN B (201 - r))) sb my we be9 rw fr) := by
      intro r
      induction r with
      | zero =>
        intro hr hv
        rw [ffd] at hv
        refine hK 12 9999 20 _ _ _ ?_
        refine ⟨fun _ => ?_, fun z => absurd (nI_lt (a := 200) (b := 201) (by omega) (by omega)) z⟩
        have := hq _ (trN_Z hB 201)
        rw [hv] at this
        exact this
      | succ r ih =>
        intro hr hv
        rw [ffd] at hv
        have hT := trN_ok hB (201 - (r + 1))
        refine hK 12 9999 20 _ _ _ ?_
        refine ⟨fun z => absurd z (nI_nlt (a := 200) (b := 201 - (r + 1)) (by omega) (by omega)), fun _ => ?_⟩
        refine ⟨_, _, _, _, _, _, _, _, _, _, _, _, _, _, _, _, _, _, _, _, _, _, _, _, i, j, rfl, rfl, by omega, by omega, fun z => ?_, fun z => ?_⟩
        · have z := (lw_isL hB.2.2.2.1 hB.2.2.2.2.1 (hT i (by omega)) (hT j (by omega))).mp z
          rw [if_neg (by rw [z]; decide)] at hv
          have := ih (by omega) hv
          rw [show 201 - r = (201 - (r + 1)) + 1 by omega, ← nI_1, trN] at this
          refine ⟨fun _ => ?_, fun y => absurd y (by decide)⟩
          exact ⟨2, rfl, by decide, _, _, _, _, _, _, _, _, _, _, _, _, _, _, _, _, _, _, _, _, _, _, _, _, B 2 + (201 - (r + 1)), (by show [Value.ref 0, Value.int (nI (B 2) + nI (201 - (r + 1)))] = _; rw [nI_add]), rfl, hB, hT, by omega, this⟩
        · have z := isL_f hB.2.2.2.1 hB.2.2.2.2.1 (hT i (by omega)) (hT j (by omega)) z
          rw [if_pos (by rw [z]; rfl)] at hv
          refine ⟨fun y => absurd rfl y, fun _ => ?_⟩
          have := hq _ (trN_Z hB (201 - (r + 1)))
          rw [hv] at this
          exact this
    refine ⟨_, _, _, _, _, _, _, _, _, _, _, _, _, _, _, _, _, _, _, _, _, _, _, _, rfl, rfl, fun so' h1 h2 => ?_⟩
    have e := nw_eq hz h1 h2
    subst e
    exact loop 201 (Nat.le_refl _) hV
  · exact ⟨fun y => absurd rfl y, fun _ => ⟨_, _, _, _, _, _, _, _, _, _, _, _, _, _, _, _, _, _, _, _, _, _, _, _, rfl, rfl, hbad z1⟩⟩
abbrev rm_X10_lasts : Room := { frames := 3, cells := 0, slots := 0, locals := 83 }
set_option maxRecDepth 100000 in
set_option maxHeartbeats 4000000 in
theorem ct_X10_lasts (l : Launch) (D : va_G) (dA : Nat → ClassId) (σ : Nat → Nat) : em_CT l D em_cl dA σ (em_F σ) y_X10_lasts c_X10_lasts 4 (Option.some ClassFile.FieldType.int) rm_X10_lasts (sp_X10_lasts ) := by
  refine em_CT_of (T := T_X10_lasts ) (em_F_ok σ) (by decide) (fun p e s m args below meth c A ρ Q C hFok hF hret hlk hin => ?_) (me_X10_lasts )
  unfold T_X10_lasts
  refine List.forall_mem_cons.mpr ⟨s_aload_n C (by decide +kernel : decode c_X10_lasts 0 = .ok (.aload_n 0, 1)) rfl rfl rfl, ?_⟩
  refine List.forall_mem_cons.mpr ⟨s_iload_n C (by decide +kernel : decode c_X10_lasts 1 = .ok (.iload_n 1, 1)) rfl rfl rfl, ?_⟩
  refine List.forall_mem_cons.mpr ⟨s_iload_n C (by decide +kernel : decode c_X10_lasts 2 = .ok (.iload_n 2, 1)) rfl rfl rfl, ?_⟩
  refine List.forall_mem_cons.mpr ⟨s_callV C hFok hF (ct_X10_areTwo l D dA σ) ⟨rfl, rfl⟩ ew820 em_cl_X10 ew817 ew819 ewp18 ew6 ⟨by decide, by decide, by decide +kernel⟩ ⟨by decide, by decide⟩ (by decide +kernel : decode c_X10_lasts 3 = .ok (.invokevirtual 96, 3)) rfl rfl ⟨Nat.zero_le _, Nat.zero_le _⟩, ?_⟩
  refine List.forall_mem_cons.mpr ⟨s_ifne C (by decide +kernel : decode c_X10_lasts 6 = .ok (.ifCond .ne 8, 3)) (by decide) rfl rfl rfl, ?_⟩
  refine List.forall_mem_cons.mpr ⟨s_aload_n C (by decide +kernel : decode c_X10_lasts 9 = .ok (.aload_n 0, 1)) rfl rfl rfl, ?_⟩
  refine List.forall_mem_cons.mpr ⟨s_callV C hFok hF (ct_X10_bad l D dA σ) ⟨rfl, rfl⟩ ew779 em_cl_X10 ew776 ew778 ewp13 ew6 ⟨by decide, by decide, by decide +kernel⟩ ⟨by decide, by decide⟩ (by decide +kernel : decode c_X10_lasts 10 = .ok (.invokevirtual 84, 3)) rfl rfl ⟨Nat.zero_le _, Nat.zero_le _⟩, ?_⟩
  refine List.forall_mem_cons.mpr ⟨s_iret C (by decide +kernel : decode c_X10_lasts 13 = .ok (.ireturn, 1)) hret hlk ⟨Nat.le_refl 0, Nat.le_refl 0⟩, ?_⟩
  refine List.forall_mem_cons.mpr ⟨s_aload_n C (by decide +kernel : decode c_X10_lasts 14 = .ok (.aload_n 0, 1)) rfl rfl rfl, ?_⟩
  refine List.forall_mem_cons.mpr ⟨s_callV C hFok hF (ct_X10_asNow l D dA σ) ⟨rfl, rfl⟩ ew903 em_cl_X10 ew900 ew902 ewp26 ew6 ⟨by decide, by decide, by decide +kernel⟩ ⟨by decide, by decide⟩ (by decide +kernel : decode c_X10_lasts 15 = .ok (.invokevirtual 182, 3)) rfl rfl ⟨Nat.zero_le _, Nat.zero_le _⟩, ?_⟩
  refine List.forall_mem_cons.mpr ⟨s_iconst C (by decide +kernel : decode c_X10_lasts 18 = .ok (.iconst 0, 1)) rfl rfl (by decide), ?_⟩
  refine List.forall_mem_cons.mpr ⟨s_istore_n C (by decide +kernel : decode c_X10_lasts 19 = .ok (.istore_n 3, 1)) rfl rfl rfl (by decide), ?_⟩
  refine List.forall_mem_cons.mpr ⟨s_iload_n C (by decide +kernel : decode c_X10_lasts 20 = .ok (.iload_n 3, 1)) rfl rfl rfl, ?_⟩
  refine List.forall_mem_cons.mpr ⟨s_sipush C (by decide +kernel : decode c_X10_lasts 21 = .ok (.sipush 200, 3)) rfl rfl (by decide), ?_⟩
  refine List.forall_mem_cons.mpr ⟨s_icmpgt C (by decide +kernel : decode c_X10_lasts 24 = .ok (.if_icmp .gt 32, 3)) (by decide) rfl rfl rfl, ?_⟩
  refine List.forall_mem_cons.mpr ⟨s_aload_n C (by decide +kernel : decode c_X10_lasts 27 = .ok (.aload_n 0, 1)) rfl rfl rfl, ?_⟩
  refine List.forall_mem_cons.mpr ⟨s_iload_n C (by decide +kernel : decode c_X10_lasts 28 = .ok (.iload_n 1, 1)) rfl rfl rfl, ?_⟩
  refine List.forall_mem_cons.mpr ⟨s_iload_n C (by decide +kernel : decode c_X10_lasts 29 = .ok (.iload_n 2, 1)) rfl rfl rfl, ?_⟩
  refine List.forall_mem_cons.mpr ⟨s_callV C hFok hF (ct_X10_isLawful l D dA σ) ⟨rfl, rfl⟩ ew907 em_cl_X10 ew904 ew906 ewp27 ew6 ⟨by decide, by decide, by decide +kernel⟩ ⟨by decide, by decide⟩ (by decide +kernel : decode c_X10_lasts 30 = .ok (.invokevirtual 185, 3)) rfl rfl ⟨Nat.zero_le _, Nat.zero_le _⟩, ?_⟩
  refine List.forall_mem_cons.mpr ⟨s_ifne C (by decide +kernel : decode c_X10_lasts 33 = .ok (.ifCond .ne 5, 3)) (by decide) rfl rfl rfl, ?_⟩
  refine List.forall_mem_cons.mpr ⟨s_iload_n C (by decide +kernel : decode c_X10_lasts 36 = .ok (.iload_n 3, 1)) rfl rfl rfl, ?_⟩
  refine List.forall_mem_cons.mpr ⟨s_iret C (by decide +kernel : decode c_X10_lasts 37 = .ok (.ireturn, 1)) hret hlk ⟨Nat.le_refl 0, Nat.le_refl 0⟩, ?_⟩
  refine List.forall_mem_cons.mpr ⟨s_aload_n C (by decide +kernel : decode c_X10_lasts 38 = .ok (.aload_n 0, 1)) rfl rfl rfl, ?_⟩
  refine List.forall_mem_cons.mpr ⟨s_aload_n C (by decide +kernel : decode c_X10_lasts 39 = .ok (.aload_n 0, 1)) rfl rfl rfl, ?_⟩
  refine List.forall_mem_cons.mpr ⟨s_getf C (by decide +kernel : decode c_X10_lasts 40 = .ok (.getfield 7, 3)) rfl rfl em_cl_X10 (by decide) ew691 rfl, ?_⟩
  refine List.forall_mem_cons.mpr ⟨s_iconst C (by decide +kernel : decode c_X10_lasts 43 = .ok (.iconst 2, 1)) rfl rfl (by decide), ?_⟩
  refine List.forall_mem_cons.mpr ⟨s_iald C (by decide +kernel : decode c_X10_lasts 44 = .ok (.iaload, 1)) rfl rfl, ?_⟩
  refine List.forall_mem_cons.mpr ⟨s_iload_n C (by decide +kernel : decode c_X10_lasts 45 = .ok (.iload_n 3, 1)) rfl rfl rfl, ?_⟩
  refine List.forall_mem_cons.mpr ⟨s_iadd C (by decide +kernel : decode c_X10_lasts 46 = .ok (.iadd, 1)) rfl rfl, ?_⟩
  refine List.forall_mem_cons.mpr ⟨s_callV C hFok hF (ct_X10_goes l D dA σ) ⟨rfl, rfl⟩ ew923 em_cl_X10 ew920 ew922 ewp29 ew6 ⟨by decide, by decide, by decide +kernel⟩ ⟨by decide, by decide⟩ (by decide +kernel : decode c_X10_lasts 47 = .ok (.invokevirtual 199, 3)) rfl rfl ⟨Nat.zero_le _, Nat.zero_le _⟩, ?_⟩
  refine List.forall_mem_cons.mpr ⟨s_iinc C (by decide +kernel : decode c_X10_lasts 50 = .ok (.iinc 3 1, 3)) rfl rfl (by decide) (by decide), ?_⟩
  refine List.forall_mem_cons.mpr ⟨s_goto C (by decide +kernel : decode c_X10_lasts 53 = .ok (.goto (-33), 3)) (by decide) rfl, ?_⟩
  refine List.forall_mem_cons.mpr ⟨s_iconst C (by decide +kernel : decode c_X10_lasts 56 = .ok (.iconst (-1), 1)) rfl rfl (by decide), ?_⟩
  refine List.forall_mem_cons.mpr ⟨s_iret C (by decide +kernel : decode c_X10_lasts 57 = .ok (.ireturn, 1)) hret hlk ⟨Nat.le_refl 0, Nat.le_refl 0⟩, ?_⟩
  exact fun _ h => absurd h List.not_mem_nil
def b1 (c : Bool) : Int32 := if c = true then 1 else 0
theorem b1_0 {c : Bool} : b1 c = 0 ↔ c = false := by cases c <;> decide
theorem b1_01 (c : Bool) : b1 c = 0 ∨ b1 c = 1 := by cases c <;> decide
def onR (S : Nat → Nat) : Nat → Bool
  | 0 => true
  | k + 1 => onR S k && decide (S (k + 1) = S 0)
def onB (B S : Nat → Nat) : Bool := onR S (B 0 - 1)
def sp_X10_isOne : em_Sp := fun av hp Q => ∃ B im kp asd rf qt ab be tx ty at9 st9 tk vl wd it mn S sb my we be9 rw fr, av = [.ref 0] ∧ hp = (wM (nB B) im kp asd rf qt ab be tx ty at9 st9 tk vl wd it mn (nB S) sb my we be9 rw fr) ∧ B 0 ≤ 6 ∧ SOK S ∧ Q (some (.int (b1 (onB B S)))) hp
def T_X10_isOne : List (Nat × em_Op) := [(0, o_iconst 1 1), (1, o_istore 1 2), (2, o_iconst 1 3), (3, o_istore 2 4), (4, o_iload 2 5), (5, o_aload 0 6), (6, o_getf 5 0 9), (9, o_iconst 0 10), (10, o_aldI 0 11), (11, o_icmpge 45 14), (14, o_iload 1 15), (15, o_ifeq 37 18), (18, o_aload 0 19), (19, o_getf 5 17 22), (22, o_iload 2 23), (23, o_aldI 0 24), (24, o_aload 0 25), (25, o_getf 5 17 28), (28, o_iconst 0 29), (29, o_aldI 0 30), (30, o_icmpne 37 33), (33, o_iconst 1 34), (34, o_goto 38), (37, o_iconst 0 38), (38, o_istore 1 39), (39, o_iinc 2 1 42), (42, o_goto 4), (45, o_iload 1 46), (46, o_zret)]
theorem me_X10_isOne : em_Me T_X10_isOne 3 sp_X10_isOne := by
  intro Q K hK hle av hp hs
  obtain ⟨B, im, kp, asd, rf, qt, ab, be, tx, ty, at9, st9, tk, vl, wd, it, mn, S, sb, my, we, be9, rw, fr, rfl, rfl, h0, hS, hq⟩ := hs
  refine ⟨Nat.le_of_ble_eq_true rfl, ?_⟩
  have loop : ∀ (r k : Nat), k + r = B 0 - 1 → K 4 [some (.ref 0), some (.int (b1 (onR S k))), some (.int (nI (k + 1)))] [] (wM (nB B) im kp asd rf qt ab be tx ty at9 st9 tk vl wd it mn (nB S) sb my we be9 rw fr) := by
    intro r
    induction r with
    | zero =>
      intro k hk
      have hk : k = B 0 - 1 := by omega
      refine hK 4 9999 4 _ _ _ ?_
      refine ⟨0, rfl, by decide, fun _ => ⟨b1_01 _, ?_⟩, fun z => absurd (show nI (B 0) ≤ nI (k + 1) from nI_le (by omega) (by omega)) z⟩
      rw [hk]
      exact hq
    | succ r ih =>
      intro k hk
      have next : ∀ v, v = b1 (onR S (k + 1)) → K 38 [some (.ref 0), some (.int (b1 (onR S k))), some (.int (nI (k + 1)))] [.int v] (wM (nB B) im kp asd rf qt ab be tx ty at9 st9 tk vl wd it mn (nB S) sb my we be9 rw fr) := by
        intro v hv
        subst hv
        have := ih (k + 1) (by omega)
        rw [← nI_1 (k + 1)] at this
        exact hK 24 3 38 _ _ _ this
      refine hK 4 20 4 _ _ _ ?_
      refine ⟨0, rfl, by decide, fun z => absurd z (by show ¬ nI (B 0) ≤ nI (k + 1); exact nI_ge (by omega) (by omega)), fun _ => ?_⟩
      refine ⟨fun z => ?_, fun z => ?_⟩
      · have z := b1_0.mp z
        exact next _ (by rw [onR, z]; rfl)
      · refine ⟨k + 1, rfl, by omega, 0, rfl, by decide, fun y => ?_, fun y => ?_⟩
        · have y : ¬ S (k + 1) = S 0 := fun q => y (by show nI (S (k + 1)) = nI (S 0); rw [q])
          exact next _ (by rw [onR, decide_eq_false y, Bool.and_false]; rfl)
        · have h1 := hS (k + 1) (by omega)
          have h2 := hS 0 (by omega)
          have y : S (k + 1) = S 0 := (nI_eq (by omega) (by omega)).mp y
          have z : onR S k = true := by
            cases hc : onR S k with
            | true => rfl
            | false => exact absurd (b1_0.mpr hc) z
          exact next _ (by rw [onR, decide_eq_true y, z]; rfl)
  exact hK 0 4 0 _ _ _ (loop (B 0 - 1) 0 (by omega))
abbrev rm_X10_isOne : Room := { frames := 0, cells := 0, slots := 0, locals := 0 }
set_option maxRecDepth 100000 in
set_option maxHeartbeats 4000000 in
theorem ct_X10_isOne (l : Launch) (D : va_G) (dA : Nat → ClassId) (σ : Nat → Nat) : em_CT l D em_cl dA σ (em_F σ) y_X10_isOne c_X10_isOne 3 (Option.some ClassFile.FieldType.boolean) rm_X10_isOne (sp_X10_isOne ) := by
  refine em_CT_of (T := T_X10_isOne ) (em_F_ok σ) (by decide) (fun p e s m args below meth c A ρ Q C hFok hF hret hlk hin => ?_) (me_X10_isOne )
  unfold T_X10_isOne
  refine List.forall_mem_cons.mpr ⟨s_iconst C (by decide +kernel : decode c_X10_isOne 0 = .ok (.iconst 1, 1)) rfl rfl (by decide), ?_⟩
  refine List.forall_mem_cons.mpr ⟨s_istore_n C (by decide +kernel : decode c_X10_isOne 1 = .ok (.istore_n 1, 1)) rfl rfl rfl (by decide), ?_⟩
  refine List.forall_mem_cons.mpr ⟨s_iconst C (by decide +kernel : decode c_X10_isOne 2 = .ok (.iconst 1, 1)) rfl rfl (by decide), ?_⟩
  refine List.forall_mem_cons.mpr ⟨s_istore_n C (by decide +kernel : decode c_X10_isOne 3 = .ok (.istore_n 2, 1)) rfl rfl rfl (by decide), ?_⟩
  refine List.forall_mem_cons.mpr ⟨s_iload_n C (by decide +kernel : decode c_X10_isOne 4 = .ok (.iload_n 2, 1)) rfl rfl rfl, ?_⟩
  refine List.forall_mem_cons.mpr ⟨s_aload_n C (by decide +kernel : decode c_X10_isOne 5 = .ok (.aload_n 0, 1)) rfl rfl rfl, ?_⟩
  refine List.forall_mem_cons.mpr ⟨s_getf C (by decide +kernel : decode c_X10_isOne 6 = .ok (.getfield 7, 3)) rfl rfl em_cl_X10 (by decide) ew691 rfl, ?_⟩
  refine List.forall_mem_cons.mpr ⟨s_iconst C (by decide +kernel : decode c_X10_isOne 9 = .ok (.iconst 0, 1)) rfl rfl (by decide), ?_⟩
  refine List.forall_mem_cons.mpr ⟨s_iald C (by decide +kernel : decode c_X10_isOne 10 = .ok (.iaload, 1)) rfl rfl, ?_⟩
  refine List.forall_mem_cons.mpr ⟨s_icmpge C (by decide +kernel : decode c_X10_isOne 11 = .ok (.if_icmp .ge 34, 3)) (by decide) rfl rfl rfl, ?_⟩
  refine List.forall_mem_cons.mpr ⟨s_iload_n C (by decide +kernel : decode c_X10_isOne 14 = .ok (.iload_n 1, 1)) rfl rfl rfl, ?_⟩
  refine List.forall_mem_cons.mpr ⟨s_ifeq C (by decide +kernel : decode c_X10_isOne 15 = .ok (.ifCond .eq 22, 3)) (by decide) rfl rfl rfl, ?_⟩
  refine List.forall_mem_cons.mpr ⟨s_aload_n C (by decide +kernel : decode c_X10_isOne 18 = .ok (.aload_n 0, 1)) rfl rfl rfl, ?_⟩
  refine List.forall_mem_cons.mpr ⟨s_getf C (by decide +kernel : decode c_X10_isOne 19 = .ok (.getfield 32, 3)) rfl rfl em_cl_X10 (by decide) ew708 rfl, ?_⟩
  refine List.forall_mem_cons.mpr ⟨s_iload_n C (by decide +kernel : decode c_X10_isOne 22 = .ok (.iload_n 2, 1)) rfl rfl rfl, ?_⟩
  refine List.forall_mem_cons.mpr ⟨s_iald C (by decide +kernel : decode c_X10_isOne 23 = .ok (.iaload, 1)) rfl rfl, ?_⟩
  refine List.forall_mem_cons.mpr ⟨s_aload_n C (by decide +kernel : decode c_X10_isOne 24 = .ok (.aload_n 0, 1)) rfl rfl rfl, ?_⟩
  refine List.forall_mem_cons.mpr ⟨s_getf C (by decide +kernel : decode c_X10_isOne 25 = .ok (.getfield 32, 3)) rfl rfl em_cl_X10 (by decide) ew708 rfl, ?_⟩
  refine List.forall_mem_cons.mpr ⟨s_iconst C (by decide +kernel : decode c_X10_isOne 28 = .ok (.iconst 0, 1)) rfl rfl (by decide), ?_⟩
  refine List.forall_mem_cons.mpr ⟨s_iald C (by decide +kernel : decode c_X10_isOne 29 = .ok (.iaload, 1)) rfl rfl, ?_⟩
  refine List.forall_mem_cons.mpr ⟨s_icmpne C (by decide +kernel : decode c_X10_isOne 30 = .ok (.if_icmp .ne 7, 3)) (by decide) rfl rfl rfl, ?_⟩
  refine List.forall_mem_cons.mpr ⟨s_iconst C (by decide +kernel : decode c_X10_isOne 33 = .ok (.iconst 1, 1)) rfl rfl (by decide), ?_⟩
  refine List.forall_mem_cons.mpr ⟨s_goto C (by decide +kernel : decode c_X10_isOne 34 = .ok (.goto 4, 3)) (by decide) rfl, ?_⟩
  refine List.forall_mem_cons.mpr ⟨s_iconst C (by decide +kernel : decode c_X10_isOne 37 = .ok (.iconst 0, 1)) rfl rfl (by decide), ?_⟩
  refine List.forall_mem_cons.mpr ⟨s_istore_n C (by decide +kernel : decode c_X10_isOne 38 = .ok (.istore_n 1, 1)) rfl rfl rfl (by decide), ?_⟩
  refine List.forall_mem_cons.mpr ⟨s_iinc C (by decide +kernel : decode c_X10_isOne 39 = .ok (.iinc 2 1, 3)) rfl rfl (by decide) (by decide), ?_⟩
  refine List.forall_mem_cons.mpr ⟨s_goto C (by decide +kernel : decode c_X10_isOne 42 = .ok (.goto (-38), 3)) (by decide) rfl, ?_⟩
  refine List.forall_mem_cons.mpr ⟨s_iload_n C (by decide +kernel : decode c_X10_isOne 45 = .ok (.iload_n 1, 1)) rfl rfl rfl, ?_⟩
  refine List.forall_mem_cons.mpr ⟨s_zret C (by decide +kernel : decode c_X10_isOne 46 = .ok (.ireturn, 1)) hret hlk ⟨Nat.le_refl 0, Nat.le_refl 0⟩, ?_⟩
  exact fun _ h => absurd h List.not_mem_nil
def mndN (B : Nat → Nat) : Option Nat := ffd (fun t => onB B (trN B t)) 201 201
theorem mndN_lt {B : Nat → Nat} : ∀ d, mndN B = some d → d < 2 ^ 31 := fun d h => Nat.lt_trans (ffd_lt 201 d (Nat.le_refl _) h) (by omega)
def sp_X10_mind : em_Sp := fun av hp Q => ∃ B im kp asd rf qt ab be tx ty at9 st9 tk vl wd it mn S sb my we be9 rw fr, av = [.ref 0] ∧ hp = (wM (nB B) im kp asd rf qt ab be tx ty at9 st9 tk vl wd it mn (nB S) sb my we be9 rw fr) ∧ GK B ∧ Z6 S ∧ (∀ S', Z6 S' → Q (some (.int (oI (mndN B)))) (wM (nB B) im kp asd rf qt ab be tx ty at9 st9 tk vl wd it mn (nB S') sb my we be9 rw fr))
def T_X10_mind : List (Nat × em_Op) := [(0, o_aload 0 1), (1, o_call 1 (some 5) (sp_X10_asNow) 4), (4, o_iconst 0 5), (5, o_istore 1 6), (6, o_iload 1 7), (7, o_iconst 200 10), (10, o_icmpgt 40 13), (13, o_aload 0 14), (14, o_call 1 (some 5) (sp_X10_isOne) 17), (17, o_ifeq 22 20), (20, o_iload 1 21), (21, o_iret), (22, o_aload 0 23), (23, o_aload 0 24), (24, o_getf 5 0 27), (27, o_iconst 2 28), (28, o_aldI 0 29), (29, o_iload 1 30), (30, o_iadd 31), (31, o_call 2 (some 5) (sp_X10_goes) 34), (34, o_iinc 1 1 37), (37, o_goto 6), (40, o_iconst (-1) 41), (41, o_iret)]
theorem me_X10_mind : em_Me T_X10_mind 2 sp_X10_mind := by
  intro Q K hK hle av hp hs
  obtain ⟨B, im, kp, asd, rf, qt, ab, be, tx, ty, at9, st9, tk, vl, wd, it, mn, S, sb, my, we, be9, rw, fr, rfl, rfl, hB, hz, hq⟩ := hs
  have h0 := hB.1
  have hb2 := hB.2.2.1
  obtain ⟨V, hV⟩ : ∃ V, V = mndN B := ⟨_, rfl⟩
  rw [← hV] at hq
  refine ⟨Nat.le_of_ble_eq_true rfl, ?_⟩
  have loop : ∀ (r : Nat), r ≤ 201 → V = ffd (fun t => onB B (trN B t)) 201 r → K 6 [some (.ref 0), some (.int (nI (201 - r)))] [] (wM (nB B) im kp asd rf qt ab be tx ty at9 st9 tk vl wd it mn (nB (trN B (201 - r))) sb my we be9 rw fr) := by
    intro r
    induction r with
    | zero =>
      intro hr hv
      rw [ffd] at hv
      refine hK 4 9999 6 _ _ _ ?_
      refine ⟨fun _ => ?_, fun z => absurd (nI_lt (a := 200) (b := 201) (by omega) (by omega)) z⟩
      have := hq _ (trN_Z hB 201)
      rw [hv] at this
      exact this
    | succ r ih =>
      intro hr hv
      rw [ffd] at hv
      have hT := trN_ok hB (201 - (r + 1))
      refine hK 4 9999 6 _ _ _ ?_
      refine ⟨fun z => absurd z (nI_nlt (a := 200) (b := 201 - (r + 1)) (by omega) (by omega)), fun _ => ?_⟩
      refine ⟨_, _, _, _, _, _, _, _, _, _, _, _, _, _, _, _, _, _, _, _, _, _, _, _, rfl, rfl, h0, hT, fun z => ?_, fun z => ?_⟩
      · have z := b1_0.mp z
        rw [if_neg (by rw [z]; decide)] at hv
        have := ih (by omega) hv
        rw [show 201 - r = (201 - (r + 1)) + 1 by omega, ← nI_1, trN] at this
        exact ⟨2, rfl, by decide, _, _, _, _, _, _, _, _, _, _, _, _, _, _, _, _, _, _, _, _, _, _, _, _, B 2 + (201 - (r + 1)), (by show [Value.ref 0, Value.int (nI (B 2) + nI (201 - (r + 1)))] = _; rw [nI_add]), rfl, hB, hT, by omega, this⟩
      · have z : onB B (trN B (201 - (r + 1))) = true := by
          cases hc : onB B (trN B (201 - (r + 1))) with
          | true => rfl
          | false => exact absurd (b1_0.mpr hc) z
        rw [if_pos z] at hv
        have := hq _ (trN_Z hB (201 - (r + 1)))
        rw [hv] at this
        exact this
  refine hK 0 4 0 _ _ _ ?_
  refine ⟨_, _, _, _, _, _, _, _, _, _, _, _, _, _, _, _, _, _, _, _, _, _, _, _, rfl, rfl, fun so' h1 h2 => ?_⟩
  have e := nw_eq hz h1 h2
  subst e
  exact loop 201 (Nat.le_refl _) hV
abbrev rm_X10_mind : Room := { frames := 3, cells := 0, slots := 0, locals := 83 }
set_option maxRecDepth 100000 in
set_option maxHeartbeats 4000000 in
theorem ct_X10_mind (l : Launch) (D : va_G) (dA : Nat → ClassId) (σ : Nat → Nat) : em_CT l D em_cl dA σ (em_F σ) y_X10_mind c_X10_mind 2 (Option.some ClassFile.FieldType.int) rm_X10_mind (sp_X10_mind ) := by
  refine em_CT_of (T := T_X10_mind ) (em_F_ok σ) (by decide) (fun p e s m args below meth c A ρ Q C hFok hF hret hlk hin => ?_) (me_X10_mind )
  unfold T_X10_mind
  refine List.forall_mem_cons.mpr ⟨s_aload_n C (by decide +kernel : decode c_X10_mind 0 = .ok (.aload_n 0, 1)) rfl rfl rfl, ?_⟩
  refine List.forall_mem_cons.mpr ⟨s_callV C hFok hF (ct_X10_asNow l D dA σ) ⟨rfl, rfl⟩ ew903 em_cl_X10 ew900 ew902 ewp26 ew6 ⟨by decide, by decide, by decide +kernel⟩ ⟨by decide, by decide⟩ (by decide +kernel : decode c_X10_mind 1 = .ok (.invokevirtual 182, 3)) rfl rfl ⟨Nat.zero_le _, Nat.zero_le _⟩, ?_⟩
  refine List.forall_mem_cons.mpr ⟨s_iconst C (by decide +kernel : decode c_X10_mind 4 = .ok (.iconst 0, 1)) rfl rfl (by decide), ?_⟩
  refine List.forall_mem_cons.mpr ⟨s_istore_n C (by decide +kernel : decode c_X10_mind 5 = .ok (.istore_n 1, 1)) rfl rfl rfl (by decide), ?_⟩
  refine List.forall_mem_cons.mpr ⟨s_iload_n C (by decide +kernel : decode c_X10_mind 6 = .ok (.iload_n 1, 1)) rfl rfl rfl, ?_⟩
  refine List.forall_mem_cons.mpr ⟨s_sipush C (by decide +kernel : decode c_X10_mind 7 = .ok (.sipush 200, 3)) rfl rfl (by decide), ?_⟩
  refine List.forall_mem_cons.mpr ⟨s_icmpgt C (by decide +kernel : decode c_X10_mind 10 = .ok (.if_icmp .gt 30, 3)) (by decide) rfl rfl rfl, ?_⟩
  refine List.forall_mem_cons.mpr ⟨s_aload_n C (by decide +kernel : decode c_X10_mind 13 = .ok (.aload_n 0, 1)) rfl rfl rfl, ?_⟩
  refine List.forall_mem_cons.mpr ⟨s_callV C hFok hF (ct_X10_isOne l D dA σ) ⟨rfl, rfl⟩ ew973 em_cl_X10 ew970 ew972 ewp35 ew6 ⟨by decide, by decide, by decide +kernel⟩ ⟨by decide, by decide⟩ (by decide +kernel : decode c_X10_mind 14 = .ok (.invokevirtual 216, 3)) rfl rfl ⟨Nat.zero_le _, Nat.zero_le _⟩, ?_⟩
  refine List.forall_mem_cons.mpr ⟨s_ifeq C (by decide +kernel : decode c_X10_mind 17 = .ok (.ifCond .eq 5, 3)) (by decide) rfl rfl rfl, ?_⟩
  refine List.forall_mem_cons.mpr ⟨s_iload_n C (by decide +kernel : decode c_X10_mind 20 = .ok (.iload_n 1, 1)) rfl rfl rfl, ?_⟩
  refine List.forall_mem_cons.mpr ⟨s_iret C (by decide +kernel : decode c_X10_mind 21 = .ok (.ireturn, 1)) hret hlk ⟨Nat.le_refl 0, Nat.le_refl 0⟩, ?_⟩
  refine List.forall_mem_cons.mpr ⟨s_aload_n C (by decide +kernel : decode c_X10_mind 22 = .ok (.aload_n 0, 1)) rfl rfl rfl, ?_⟩
  refine List.forall_mem_cons.mpr ⟨s_aload_n C (by decide +kernel : decode c_X10_mind 23 = .ok (.aload_n 0, 1)) rfl rfl rfl, ?_⟩
  refine List.forall_mem_cons.mpr ⟨s_getf C (by decide +kernel : decode c_X10_mind 24 = .ok (.getfield 7, 3)) rfl rfl em_cl_X10 (by decide) ew691 rfl, ?_⟩
  refine List.forall_mem_cons.mpr ⟨s_iconst C (by decide +kernel : decode c_X10_mind 27 = .ok (.iconst 2, 1)) rfl rfl (by decide), ?_⟩
  refine List.forall_mem_cons.mpr ⟨s_iald C (by decide +kernel : decode c_X10_mind 28 = .ok (.iaload, 1)) rfl rfl, ?_⟩
  refine List.forall_mem_cons.mpr ⟨s_iload_n C (by decide +kernel : decode c_X10_mind 29 = .ok (.iload_n 1, 1)) rfl rfl rfl, ?_⟩
  refine List.forall_mem_cons.mpr ⟨s_iadd C (by decide +kernel : decode c_X10_mind 30 = .ok (.iadd, 1)) rfl rfl, ?_⟩
  refine List.forall_mem_cons.mpr ⟨s_callV C hFok hF (ct_X10_goes l D dA σ) ⟨rfl, rfl⟩ ew923 em_cl_X10 ew920 ew922 ewp29 ew6 ⟨by decide, by decide, by decide +kernel⟩ ⟨by decide, by decide⟩ (by decide +kernel : decode c_X10_mind 31 = .ok (.invokevirtual 199, 3)) rfl rfl ⟨Nat.zero_le _, Nat.zero_le _⟩, ?_⟩
  refine List.forall_mem_cons.mpr ⟨s_iinc C (by decide +kernel : decode c_X10_mind 34 = .ok (.iinc 1 1, 3)) rfl rfl (by decide) (by decide), ?_⟩
  refine List.forall_mem_cons.mpr ⟨s_goto C (by decide +kernel : decode c_X10_mind 37 = .ok (.goto (-31), 3)) (by decide) rfl, ?_⟩
  refine List.forall_mem_cons.mpr ⟨s_iconst C (by decide +kernel : decode c_X10_mind 40 = .ok (.iconst (-1), 1)) rfl rfl (by decide), ?_⟩
  refine List.forall_mem_cons.mpr ⟨s_iret C (by decide +kernel : decode c_X10_mind 41 = .ok (.ireturn, 1)) hret hlk ⟨Nat.le_refl 0, Nat.le_refl 0⟩, ?_⟩
  exact fun _ h => absurd h List.not_mem_nil
def stpN (B : Nat → Nat) : Option Nat := match mndN B with
  | none => none
  | some _ => ffd (fun p => (mndN (un B (8 + p) 4)).isNone) (B 0) (B 0)
theorem GK_stub {B : Nat → Nat} (hB : GK B) {p : Nat} (hp : p < 6) : GK (un B (8 + p) 4) := by
  obtain ⟨a, b, c, d, e, f, g, i⟩ := hB
  refine ⟨?_, ?_, ?_, ?_, ?_, ?_, ?_, ?_⟩
  · rw [un_n (by omega)]; exact a
  · rw [un_n (by omega)]; exact b
  · rw [un_n (by omega)]; exact c
  · rw [un_n (by omega)]; exact d
  · rw [un_n (by omega)]; exact e
  · intro q hq
    by_cases h : q = p
    · rw [h, un_s]; omega
    · rw [un_n (by omega)]; exact f q hq
  · intro q hq; rw [un_n (by omega)]; exact g q hq
  · intro k hk
    rw [un_n (by omega)] at hk
    rw [un_n (by omega), un_n (by omega)]; exact i k hk
def sp_X10_stops : em_Sp := fun av hp Q => ∃ B im kp asd rf qt ab be tx ty at9 st9 tk vl wd it mn S sb my we be9 rw fr, av = [.ref 0] ∧ hp = (wM (nB B) im kp asd rf qt ab be tx ty at9 st9 tk vl wd it mn (nB S) sb my we be9 rw fr) ∧ GK B ∧ Z6 S ∧ (∀ S', Z6 S' → Q (some (.int (oI (stpN B)))) (wM (nB B) im kp asd rf qt ab be tx ty at9 st9 tk vl wd it mn (nB S') sb my we be9 rw fr))
def T_X10_stops : List (Nat × em_Op) := [(0, o_aload 0 1), (1, o_call 1 (some 5) (sp_X10_mind) 4), (4, o_iconst (-1) 5), (5, o_icmpne 10 8), (8, o_iconst (-1) 9), (9, o_iret), (10, o_iconst 0 11), (11, o_istore 1 12), (12, o_iload 1 13), (13, o_aload 0 14), (14, o_getf 5 0 17), (17, o_iconst 0 18), (18, o_aldI 0 19), (19, o_icmpge 60 22), (22, o_aload 0 23), (23, o_iconst 8 25), (25, o_iload 1 26), (26, o_iadd 27), (27, o_iconst 4 28), (28, o_call 3 (some 5) (sp_X10_puts) 31), (31, o_istore 2 32), (32, o_aload 0 33), (33, o_call 1 (some 5) (sp_X10_mind) 36), (36, o_istore 3 37), (37, o_aload 0 38), (38, o_getf 5 0 41), (41, o_iconst 8 43), (43, o_iload 1 44), (44, o_iadd 45), (45, o_iload 2 46), (46, o_iast 47), (47, o_iload 3 48), (48, o_iconst (-1) 49), (49, o_icmpne 54 52), (52, o_iload 1 53), (53, o_iret), (54, o_iinc 1 1 57), (57, o_goto 12), (60, o_iconst (-1) 61), (61, o_iret)]
theorem me_X10_stops : em_Me T_X10_stops 4 sp_X10_stops := by
  intro Q K hK hle av hp hs
  obtain ⟨B, im, kp, asd, rf, qt, ab, be, tx, ty, at9, st9, tk, vl, wd, it, mn, S, sb, my, we, be9, rw, fr, rfl, rfl, hB, hz, hq⟩ := hs
  have h0 := hB.1
  refine ⟨Nat.le_of_ble_eq_true rfl, ?_⟩
  refine hK 0 8 0 _ _ _ ?_
  refine ⟨_, _, _, _, _, _, _, _, _, _, _, _, _, _, _, _, _, _, _, _, _, _, _, _, rfl, rfl, hB, hz, fun S1 hS1 => ?_⟩
  rw [stpN] at hq
  cases hm : mndN B with
  | none =>
    rw [hm] at hq
    exact ⟨fun z => absurd rfl z, fun _ => hq S1 hS1⟩
  | some d0 =>
    rw [hm] at hq
    refine ⟨fun _ => ?_, fun z => absurd z (nI_m1 (mndN_lt d0 hm))⟩
    obtain ⟨V, hV⟩ : ∃ V, V = ffd (fun p => (mndN (un B (8 + p) 4)).isNone) (B 0) (B 0) := ⟨_, rfl⟩
    have hq : ∀ S', Z6 S' → Q (some (.int (oI V))) (wM (nB B) im kp asd rf qt ab be tx ty at9 st9 tk vl wd it mn (nB S') sb my we be9 rw fr) := fun S' hS' => by rw [hV]; exact hq S' hS'
    have loop : ∀ (r : Nat) (S2 : Nat → Nat), Z6 S2 → r ≤ B 0 → V = ffd (fun p => (mndN (un B (8 + p) 4)).isNone) (B 0) r → K 12 [some (.ref 0), some (.int (nI (B 0 - r))), none, none] [] (wM (nB B) im kp asd rf qt ab be tx ty at9 st9 tk vl wd it mn (nB S2) sb my we be9 rw fr) := by
      intro r
      induction r with
      | zero =>
        intro S2 hS2 hr hv
        rw [ffd] at hv
        refine hK 8 9999 12 _ _ _ ?_
        refine ⟨0, rfl, by decide, fun _ => ?_, fun z => absurd (show nI (B 0) ≤ nI (B 0 - 0) from nI_le (by omega) (by omega)) z⟩
        have := hq _ hS2
        rw [hv] at this
        exact this
      | succ r ih =>
        intro S2 hS2 hr hv
        rw [ffd] at hv
        have hG := GK_stub hB (p := B 0 - (r + 1)) (by omega)
        have eb : upd (nB (un B (8 + (B 0 - (r + 1))) 4)) (8 + (B 0 - (r + 1))) (nB B (8 + (B 0 - (r + 1)))) = nB B := by
          rw [nB_un]; exact upd_back _ _ _
        refine hK 8 9999 12 _ _ _ ?_
        refine ⟨0, rfl, by decide, fun z => absurd z (by show ¬ nI (B 0) ≤ nI (B 0 - (r + 1)); exact nI_ge (by omega) (by omega)), fun _ => ?_⟩
        refine ⟨_, _, _, _, _, _, _, _, _, _, _, _, _, _, _, _, _, _, _, _, _, _, _, _, 8 + (B 0 - (r + 1)), _, (by show [Value.ref 0, Value.int (8 + nI (B 0 - (r + 1))), Value.int 4] = _; rw [show (8 : Int32) + nI (B 0 - (r + 1)) = nI (8 + (B 0 - (r + 1))) from nI_add 8 _]), rfl, by omega, ?_⟩
        rw [show upd (nB B) (8 + (B 0 - (r + 1))) 4 = nB (un B (8 + (B 0 - (r + 1))) 4) from (nB_un _ _ _).symm]
        refine ⟨_, _, _, _, _, _, _, _, _, _, _, _, _, _, _, _, _, _, _, _, _, _, _, _, rfl, rfl, hG, hS2, fun S3 hS3 => ?_⟩
        refine ⟨8 + (B 0 - (r + 1)), nI_add 8 _, by omega, ?_⟩
        rw [eb]
        cases hm2 : mndN (un B (8 + (B 0 - (r + 1))) 4) with
        | none =>
          rw [if_pos (by rw [hm2]; rfl)] at hv
          refine ⟨fun z => absurd rfl z, fun _ => ?_⟩
          have := hq _ hS3
          rw [hv] at this
          exact this
        | some d =>
          rw [if_neg (by rw [hm2]; exact Bool.false_ne_true)] at hv
          have := ih S3 hS3 (by omega) hv
          rw [show B 0 - r = (B 0 - (r + 1)) + 1 by omega, ← nI_1] at this
          exact ⟨fun _ => hle _ _ _ _ _ (by repeat (first | exact trivial | refine ⟨rfl, ?_⟩)) this, fun z => absurd z (nI_m1 (mndN_lt d hm2))⟩
    have := loop (B 0) S1 hS1 (Nat.le_refl _) hV
    rw [Nat.sub_self] at this
    exact this
abbrev rm_X10_stops : Room := { frames := 4, cells := 0, slots := 0, locals := 104 }
set_option maxRecDepth 100000 in
set_option maxHeartbeats 4000000 in
theorem ct_X10_stops (l : Launch) (D : va_G) (dA : Nat → ClassId) (σ : Nat → Nat) : em_CT l D em_cl dA σ (em_F σ) y_X10_stops c_X10_stops 4 (Option.some ClassFile.FieldType.int) rm_X10_stops (sp_X10_stops ) := by
  refine em_CT_of (T := T_X10_stops ) (em_F_ok σ) (by decide) (fun p e s m args below meth c A ρ Q C hFok hF hret hlk hin => ?_) (me_X10_stops )
  unfold T_X10_stops
  refine List.forall_mem_cons.mpr ⟨s_aload_n C (by decide +kernel : decode c_X10_stops 0 = .ok (.aload_n 0, 1)) rfl rfl rfl, ?_⟩
  refine List.forall_mem_cons.mpr ⟨s_callV C hFok hF (ct_X10_mind l D dA σ) ⟨rfl, rfl⟩ ew969 em_cl_X10 ew978 ew967 ew968 ew6 ⟨by decide, by decide, by decide +kernel⟩ ⟨by decide, by decide⟩ (by decide +kernel : decode c_X10_stops 1 = .ok (.invokevirtual 219, 3)) rfl rfl ⟨Nat.zero_le _, Nat.zero_le _⟩, ?_⟩
  refine List.forall_mem_cons.mpr ⟨s_iconst C (by decide +kernel : decode c_X10_stops 4 = .ok (.iconst (-1), 1)) rfl rfl (by decide), ?_⟩
  refine List.forall_mem_cons.mpr ⟨s_icmpne C (by decide +kernel : decode c_X10_stops 5 = .ok (.if_icmp .ne 5, 3)) (by decide) rfl rfl rfl, ?_⟩
  refine List.forall_mem_cons.mpr ⟨s_iconst C (by decide +kernel : decode c_X10_stops 8 = .ok (.iconst (-1), 1)) rfl rfl (by decide), ?_⟩
  refine List.forall_mem_cons.mpr ⟨s_iret C (by decide +kernel : decode c_X10_stops 9 = .ok (.ireturn, 1)) hret hlk ⟨Nat.le_refl 0, Nat.le_refl 0⟩, ?_⟩
  refine List.forall_mem_cons.mpr ⟨s_iconst C (by decide +kernel : decode c_X10_stops 10 = .ok (.iconst 0, 1)) rfl rfl (by decide), ?_⟩
  refine List.forall_mem_cons.mpr ⟨s_istore_n C (by decide +kernel : decode c_X10_stops 11 = .ok (.istore_n 1, 1)) rfl rfl rfl (by decide), ?_⟩
  refine List.forall_mem_cons.mpr ⟨s_iload_n C (by decide +kernel : decode c_X10_stops 12 = .ok (.iload_n 1, 1)) rfl rfl rfl, ?_⟩
  refine List.forall_mem_cons.mpr ⟨s_aload_n C (by decide +kernel : decode c_X10_stops 13 = .ok (.aload_n 0, 1)) rfl rfl rfl, ?_⟩
  refine List.forall_mem_cons.mpr ⟨s_getf C (by decide +kernel : decode c_X10_stops 14 = .ok (.getfield 7, 3)) rfl rfl em_cl_X10 (by decide) ew691 rfl, ?_⟩
  refine List.forall_mem_cons.mpr ⟨s_iconst C (by decide +kernel : decode c_X10_stops 17 = .ok (.iconst 0, 1)) rfl rfl (by decide), ?_⟩
  refine List.forall_mem_cons.mpr ⟨s_iald C (by decide +kernel : decode c_X10_stops 18 = .ok (.iaload, 1)) rfl rfl, ?_⟩
  refine List.forall_mem_cons.mpr ⟨s_icmpge C (by decide +kernel : decode c_X10_stops 19 = .ok (.if_icmp .ge 41, 3)) (by decide) rfl rfl rfl, ?_⟩
  refine List.forall_mem_cons.mpr ⟨s_aload_n C (by decide +kernel : decode c_X10_stops 22 = .ok (.aload_n 0, 1)) rfl rfl rfl, ?_⟩
  refine List.forall_mem_cons.mpr ⟨s_bipush C (by decide +kernel : decode c_X10_stops 23 = .ok (.bipush 8, 2)) rfl rfl (by decide), ?_⟩
  refine List.forall_mem_cons.mpr ⟨s_iload_n C (by decide +kernel : decode c_X10_stops 25 = .ok (.iload_n 1, 1)) rfl rfl rfl, ?_⟩
  refine List.forall_mem_cons.mpr ⟨s_iadd C (by decide +kernel : decode c_X10_stops 26 = .ok (.iadd, 1)) rfl rfl, ?_⟩
  refine List.forall_mem_cons.mpr ⟨s_iconst C (by decide +kernel : decode c_X10_stops 27 = .ok (.iconst 4, 1)) rfl rfl (by decide), ?_⟩
  refine List.forall_mem_cons.mpr ⟨s_callV C hFok hF (ct_X10_puts l D dA σ) ⟨rfl, rfl⟩ ew799 em_cl_X10 ew796 ew798 ewp17 ew6 ⟨by decide, by decide, by decide +kernel⟩ ⟨by decide, by decide⟩ (by decide +kernel : decode c_X10_stops 28 = .ok (.invokevirtual 91, 3)) rfl rfl ⟨Nat.zero_le _, Nat.zero_le _⟩, ?_⟩
  refine List.forall_mem_cons.mpr ⟨s_istore_n C (by decide +kernel : decode c_X10_stops 31 = .ok (.istore_n 2, 1)) rfl rfl rfl (by decide), ?_⟩
  refine List.forall_mem_cons.mpr ⟨s_aload_n C (by decide +kernel : decode c_X10_stops 32 = .ok (.aload_n 0, 1)) rfl rfl rfl, ?_⟩
  refine List.forall_mem_cons.mpr ⟨s_callV C hFok hF (ct_X10_mind l D dA σ) ⟨rfl, rfl⟩ ew969 em_cl_X10 ew978 ew967 ew968 ew6 ⟨by decide, by decide, by decide +kernel⟩ ⟨by decide, by decide⟩ (by decide +kernel : decode c_X10_stops 33 = .ok (.invokevirtual 219, 3)) rfl rfl ⟨Nat.zero_le _, Nat.zero_le _⟩, ?_⟩
  refine List.forall_mem_cons.mpr ⟨s_istore_n C (by decide +kernel : decode c_X10_stops 36 = .ok (.istore_n 3, 1)) rfl rfl rfl (by decide), ?_⟩
  refine List.forall_mem_cons.mpr ⟨s_aload_n C (by decide +kernel : decode c_X10_stops 37 = .ok (.aload_n 0, 1)) rfl rfl rfl, ?_⟩
  refine List.forall_mem_cons.mpr ⟨s_getf C (by decide +kernel : decode c_X10_stops 38 = .ok (.getfield 7, 3)) rfl rfl em_cl_X10 (by decide) ew691 rfl, ?_⟩
  refine List.forall_mem_cons.mpr ⟨s_bipush C (by decide +kernel : decode c_X10_stops 41 = .ok (.bipush 8, 2)) rfl rfl (by decide), ?_⟩
  refine List.forall_mem_cons.mpr ⟨s_iload_n C (by decide +kernel : decode c_X10_stops 43 = .ok (.iload_n 1, 1)) rfl rfl rfl, ?_⟩
  refine List.forall_mem_cons.mpr ⟨s_iadd C (by decide +kernel : decode c_X10_stops 44 = .ok (.iadd, 1)) rfl rfl, ?_⟩
  refine List.forall_mem_cons.mpr ⟨s_iload_n C (by decide +kernel : decode c_X10_stops 45 = .ok (.iload_n 2, 1)) rfl rfl rfl, ?_⟩
  refine List.forall_mem_cons.mpr ⟨s_iast C (by decide +kernel : decode c_X10_stops 46 = .ok (.iastore, 1)) rfl rfl, ?_⟩
  refine List.forall_mem_cons.mpr ⟨s_iload_n C (by decide +kernel : decode c_X10_stops 47 = .ok (.iload_n 3, 1)) rfl rfl rfl, ?_⟩
  refine List.forall_mem_cons.mpr ⟨s_iconst C (by decide +kernel : decode c_X10_stops 48 = .ok (.iconst (-1), 1)) rfl rfl (by decide), ?_⟩
  refine List.forall_mem_cons.mpr ⟨s_icmpne C (by decide +kernel : decode c_X10_stops 49 = .ok (.if_icmp .ne 5, 3)) (by decide) rfl rfl rfl, ?_⟩
  refine List.forall_mem_cons.mpr ⟨s_iload_n C (by decide +kernel : decode c_X10_stops 52 = .ok (.iload_n 1, 1)) rfl rfl rfl, ?_⟩
  refine List.forall_mem_cons.mpr ⟨s_iret C (by decide +kernel : decode c_X10_stops 53 = .ok (.ireturn, 1)) hret hlk ⟨Nat.le_refl 0, Nat.le_refl 0⟩, ?_⟩
  refine List.forall_mem_cons.mpr ⟨s_iinc C (by decide +kernel : decode c_X10_stops 54 = .ok (.iinc 1 1, 3)) rfl rfl (by decide) (by decide), ?_⟩
  refine List.forall_mem_cons.mpr ⟨s_goto C (by decide +kernel : decode c_X10_stops 57 = .ok (.goto (-45), 3)) (by decide) rfl, ?_⟩
  refine List.forall_mem_cons.mpr ⟨s_iconst C (by decide +kernel : decode c_X10_stops 60 = .ok (.iconst (-1), 1)) rfl rfl (by decide), ?_⟩
  refine List.forall_mem_cons.mpr ⟨s_iret C (by decide +kernel : decode c_X10_stops 61 = .ok (.ireturn, 1)) hret hlk ⟨Nat.le_refl 0, Nat.le_refl 0⟩, ?_⟩
  exact fun _ h => absurd h List.not_mem_nil
