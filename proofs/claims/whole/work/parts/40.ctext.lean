/-! ===== TownText ===== -/
def wY (by9 : Nat → Int32) (tln tst ten : Int32) : em_H := [.inr (3, [.ref 1, .int tln, .int tst, .int ten]), .inl (2, 150, .inl by9)]
def TY (by9 : Nat → Int32) (tln : Int32) (C : Nat → Nat) (L : Nat) : Prop := (∀ j, j < L → by9 j = nI (C j)) ∧ tln = nI L ∧ L ≤ 150 ∧ ∀ j, C j < 128
theorem byte_nI : ∀ c, c < 128 → vp_nar .byte ((nI c).toInt8.toInt32) = nI c := by decide +kernel
def sp_X8_append : em_Sp := fun av hp Q => ∃ by9 tln tst ten c C L, av = [.ref 0, .int c] ∧ hp = (wY by9 tln tst ten) ∧ TY by9 tln C L ∧ (¬ (¬ c < 0 ∧ c ≤ 127) → Q (some (.int (-2))) hp) ∧ (¬ c < 0 → c ≤ 127 → L = 150 → Q (some (.int (-4))) hp) ∧ (¬ c < 0 → c ≤ 127 → L < 150 → Q (some (.int (nI (L + 1)))) (wY (upd by9 L c) (nI (L + 1)) tst ten))
def T_X8_append : List (Nat × em_Op) := [(0, o_iload 1 1), (1, o_iflt 10 4), (4, o_iload 1 5), (5, o_iconst 127 7), (7, o_icmple 13 10), (10, o_iconst (-2) 12), (12, o_iret), (13, o_aload 0 14), (14, o_getf 3 1 17), (17, o_iconst 150 20), (20, o_icmplt 26 23), (23, o_iconst (-4) 25), (25, o_iret), (26, o_aload 0 27), (27, o_getf 3 0 30), (30, o_aload 0 31), (31, o_getf 3 1 34), (34, o_iload 1 35), (35, o_i2b 36), (36, o_bast 37), (37, o_aload 0 38), (38, o_dup 39), (39, o_getf 3 1 42), (42, o_iconst 1 43), (43, o_iadd 44), (44, o_putI 3 1 47), (47, o_aload 0 48), (48, o_getf 3 1 51), (51, o_iret)]
theorem me_X8_append : em_Me T_X8_append 2 sp_X8_append := by
  intro Q K hK hle av hp hs
  obtain ⟨by9, tln, tst, ten, c, C, L, rfl, rfl, ⟨hb, rfl, hL, hC⟩, hbad, hf, hq⟩ := hs
  refine ⟨Nat.le_of_ble_eq_true rfl, ?_⟩
  have bad : ¬ (¬ c < 0 ∧ c ≤ 127) → K 10 [some (.ref 0), some (.int c)] [] (wY by9 (nI L) tst ten) := fun h => hK 5 2 10 _ _ _ (hbad h)
  refine hK 0 5 0 _ _ _ ?_
  refine ⟨fun z => bad (fun q => q.1 z), fun z => ⟨fun y => ?_, fun y => bad (fun q => y q.2)⟩⟩
  refine hK 7 9999 13 _ _ _ ?_
  refine ⟨fun x => ?_, fun x => ?_⟩
  · have x : L < 150 := by
      rcases Nat.lt_or_ge L 150 with q | q
      · exact q
      · exact absurd x (nI_nlt (b := 150) q (by omega))
    obtain ⟨k, hk, e⟩ := nI_of z
    subst e
    have hk7 : k ≤ 127 := (nI_leI (a := k) (b := 127) (by omega) (by omega)).mp y
    have hq := hq z y x
    rw [← nI_1 L, ← byte_nI k (by omega)] at hq
    exact ⟨L, rfl, x, hq⟩
  · have x : L = 150 := by
      rcases Nat.lt_or_ge L 150 with q | q
      · exact absurd (nI_lt (b := 150) q (by omega)) x
      · omega
    exact hf z y x
abbrev rm_X8_append : Room := { frames := 0, cells := 0, slots := 0, locals := 0 }
set_option maxRecDepth 100000 in
set_option maxHeartbeats 4000000 in
theorem ct_X8_append (l : Launch) (D : va_G) (dA : Nat → ClassId) (σ : Nat → Nat) : em_CT l D em_cl dA σ (em_F σ) y_X8_append c_X8_append 2 (Option.some ClassFile.FieldType.int) rm_X8_append (sp_X8_append ) := by
  refine em_CT_of (T := T_X8_append ) (em_F_ok σ) (by decide) (fun p e s m args below meth c A ρ Q C hFok hF hret hlk hin => ?_) (me_X8_append )
  unfold T_X8_append
  refine List.forall_mem_cons.mpr ⟨s_iload_n C (by decide +kernel : decode c_X8_append 0 = .ok (.iload_n 1, 1)) rfl rfl rfl, ?_⟩
  refine List.forall_mem_cons.mpr ⟨s_iflt C (by decide +kernel : decode c_X8_append 1 = .ok (.ifCond .lt 9, 3)) (by decide) rfl rfl rfl, ?_⟩
  refine List.forall_mem_cons.mpr ⟨s_iload_n C (by decide +kernel : decode c_X8_append 4 = .ok (.iload_n 1, 1)) rfl rfl rfl, ?_⟩
  refine List.forall_mem_cons.mpr ⟨s_bipush C (by decide +kernel : decode c_X8_append 5 = .ok (.bipush 127, 2)) rfl rfl (by decide), ?_⟩
  refine List.forall_mem_cons.mpr ⟨s_icmple C (by decide +kernel : decode c_X8_append 7 = .ok (.if_icmp .le 6, 3)) (by decide) rfl rfl rfl, ?_⟩
  refine List.forall_mem_cons.mpr ⟨s_bipush C (by decide +kernel : decode c_X8_append 10 = .ok (.bipush (-2), 2)) rfl rfl (by decide), ?_⟩
  refine List.forall_mem_cons.mpr ⟨s_iret C (by decide +kernel : decode c_X8_append 12 = .ok (.ireturn, 1)) hret hlk ⟨Nat.le_refl 0, Nat.le_refl 0⟩, ?_⟩
  refine List.forall_mem_cons.mpr ⟨s_aload_n C (by decide +kernel : decode c_X8_append 13 = .ok (.aload_n 0, 1)) rfl rfl rfl, ?_⟩
  refine List.forall_mem_cons.mpr ⟨s_getf C (by decide +kernel : decode c_X8_append 14 = .ok (.getfield 15, 3)) rfl rfl em_cl_X8 (by decide) ew34 rfl, ?_⟩
  refine List.forall_mem_cons.mpr ⟨s_sipush C (by decide +kernel : decode c_X8_append 17 = .ok (.sipush 150, 3)) rfl rfl (by decide), ?_⟩
  refine List.forall_mem_cons.mpr ⟨s_icmplt C (by decide +kernel : decode c_X8_append 20 = .ok (.if_icmp .lt 6, 3)) (by decide) rfl rfl rfl, ?_⟩
  refine List.forall_mem_cons.mpr ⟨s_bipush C (by decide +kernel : decode c_X8_append 23 = .ok (.bipush (-4), 2)) rfl rfl (by decide), ?_⟩
  refine List.forall_mem_cons.mpr ⟨s_iret C (by decide +kernel : decode c_X8_append 25 = .ok (.ireturn, 1)) hret hlk ⟨Nat.le_refl 0, Nat.le_refl 0⟩, ?_⟩
  refine List.forall_mem_cons.mpr ⟨s_aload_n C (by decide +kernel : decode c_X8_append 26 = .ok (.aload_n 0, 1)) rfl rfl rfl, ?_⟩
  refine List.forall_mem_cons.mpr ⟨s_getf C (by decide +kernel : decode c_X8_append 27 = .ok (.getfield 11, 3)) rfl rfl em_cl_X8 (by decide) ew33 rfl, ?_⟩
  refine List.forall_mem_cons.mpr ⟨s_aload_n C (by decide +kernel : decode c_X8_append 30 = .ok (.aload_n 0, 1)) rfl rfl rfl, ?_⟩
  refine List.forall_mem_cons.mpr ⟨s_getf C (by decide +kernel : decode c_X8_append 31 = .ok (.getfield 15, 3)) rfl rfl em_cl_X8 (by decide) ew34 rfl, ?_⟩
  refine List.forall_mem_cons.mpr ⟨s_iload_n C (by decide +kernel : decode c_X8_append 34 = .ok (.iload_n 1, 1)) rfl rfl rfl, ?_⟩
  refine List.forall_mem_cons.mpr ⟨s_i2b C (by decide +kernel : decode c_X8_append 35 = .ok (.i2b, 1)) rfl rfl, ?_⟩
  refine List.forall_mem_cons.mpr ⟨s_bast C (by decide +kernel : decode c_X8_append 36 = .ok (.bastore, 1)) rfl rfl, ?_⟩
  refine List.forall_mem_cons.mpr ⟨s_aload_n C (by decide +kernel : decode c_X8_append 37 = .ok (.aload_n 0, 1)) rfl rfl rfl, ?_⟩
  refine List.forall_mem_cons.mpr ⟨s_dup C (by decide +kernel : decode c_X8_append 38 = .ok (.dup, 1)) rfl rfl, ?_⟩
  refine List.forall_mem_cons.mpr ⟨s_getf C (by decide +kernel : decode c_X8_append 39 = .ok (.getfield 15, 3)) rfl rfl em_cl_X8 (by decide) ew34 rfl, ?_⟩
  refine List.forall_mem_cons.mpr ⟨s_iconst C (by decide +kernel : decode c_X8_append 42 = .ok (.iconst 1, 1)) rfl rfl (by decide), ?_⟩
  refine List.forall_mem_cons.mpr ⟨s_iadd C (by decide +kernel : decode c_X8_append 43 = .ok (.iadd, 1)) rfl rfl, ?_⟩
  refine List.forall_mem_cons.mpr ⟨s_putI C (by decide +kernel : decode c_X8_append 44 = .ok (.putfield 15, 3)) rfl rfl em_cl_X8 (by decide) ew34 rfl (by decide) (by decide +kernel), ?_⟩
  refine List.forall_mem_cons.mpr ⟨s_aload_n C (by decide +kernel : decode c_X8_append 47 = .ok (.aload_n 0, 1)) rfl rfl rfl, ?_⟩
  refine List.forall_mem_cons.mpr ⟨s_getf C (by decide +kernel : decode c_X8_append 48 = .ok (.getfield 15, 3)) rfl rfl em_cl_X8 (by decide) ew34 rfl, ?_⟩
  refine List.forall_mem_cons.mpr ⟨s_iret C (by decide +kernel : decode c_X8_append 51 = .ok (.ireturn, 1)) hret hlk ⟨Nat.le_refl 0, Nat.le_refl 0⟩, ?_⟩
  exact fun _ h => absurd h List.not_mem_nil
def atC (C : Nat → Nat) (L i : Nat) : Int32 := if i < L then nI (C i) else -1
def sp_X8_at : em_Sp := fun av hp Q => ∃ by9 tln tst ten C L i, av = [.ref 0, .int (nI i)] ∧ hp = (wY by9 tln tst ten) ∧ TY by9 tln C L ∧ i ≤ 1000 ∧ Q (some (.int (atC C L i))) hp
def T_X8_at : List (Nat × em_Op) := [(0, o_iload 1 1), (1, o_iflt 28 4), (4, o_iload 1 5), (5, o_aload 0 6), (6, o_getf 3 1 9), (9, o_icmpge 28 12), (12, o_iload 1 13), (13, o_iconst 150 16), (16, o_icmpge 28 19), (19, o_aload 0 20), (20, o_getf 3 0 23), (23, o_iload 1 24), (24, o_aldI 2 25), (25, o_goto 29), (28, o_iconst (-1) 29), (29, o_iret)]
theorem me_X8_at : em_Me T_X8_at 2 sp_X8_at := by
  intro Q K hK hle av hp hs
  obtain ⟨by9, tln, tst, ten, C, L, i, rfl, rfl, ⟨hb, rfl, hL, hC⟩, hi, hq⟩ := hs
  refine ⟨Nat.le_of_ble_eq_true rfl, ?_⟩
  have no : ¬ i < L → K 28 [some (.ref 0), some (.int (nI i))] [] (wY by9 (nI L) tst ten) := by
    intro h
    rw [atC, if_neg h] at hq
    exact hK 14 9999 28 _ _ _ hq
  refine hK 0 14 0 _ _ _ ?_
  refine ⟨fun z => absurd z (nI_pos (by omega)), fun _ => ⟨fun z => ?_, fun z => ?_⟩⟩
  · have z := (nI_leI (a := L) (b := i) (by omega) (by omega)).mp z
    exact no (by omega)
  · have z : i < L := by
      rcases Nat.lt_or_ge i L with q | q
      · exact q
      · exact absurd (nI_le q (by omega)) z
    refine ⟨fun y => ?_, fun y => ?_⟩
    · have y := (nI_leI (a := 150) (b := i) (by omega) (by omega)).mp y
      omega
    · rw [atC, if_pos z, ← hb i z] at hq
      have r29 : K 29 [some (.ref 0), some (.int (nI i))] [.int (by9 i)] (wY by9 (nI L) tst ten) := hK 15 9999 29 _ _ _ hq
      exact ⟨i, rfl, by omega, r29⟩
abbrev rm_X8_at : Room := { frames := 0, cells := 0, slots := 0, locals := 0 }
set_option maxRecDepth 100000 in
set_option maxHeartbeats 4000000 in
theorem ct_X8_at (l : Launch) (D : va_G) (dA : Nat → ClassId) (σ : Nat → Nat) : em_CT l D em_cl dA σ (em_F σ) y_X8_at c_X8_at 2 (Option.some ClassFile.FieldType.int) rm_X8_at (sp_X8_at ) := by
  refine em_CT_of (T := T_X8_at ) (em_F_ok σ) (by decide) (fun p e s m args below meth c A ρ Q C hFok hF hret hlk hin => ?_) (me_X8_at )
  unfold T_X8_at
  refine List.forall_mem_cons.mpr ⟨s_iload_n C (by decide +kernel : decode c_X8_at 0 = .ok (.iload_n 1, 1)) rfl rfl rfl, ?_⟩
  refine List.forall_mem_cons.mpr ⟨s_iflt C (by decide +kernel : decode c_X8_at 1 = .ok (.ifCond .lt 27, 3)) (by decide) rfl rfl rfl, ?_⟩
  refine List.forall_mem_cons.mpr ⟨s_iload_n C (by decide +kernel : decode c_X8_at 4 = .ok (.iload_n 1, 1)) rfl rfl rfl, ?_⟩
  refine List.forall_mem_cons.mpr ⟨s_aload_n C (by decide +kernel : decode c_X8_at 5 = .ok (.aload_n 0, 1)) rfl rfl rfl, ?_⟩
  refine List.forall_mem_cons.mpr ⟨s_getf C (by decide +kernel : decode c_X8_at 6 = .ok (.getfield 15, 3)) rfl rfl em_cl_X8 (by decide) ew34 rfl, ?_⟩
  refine List.forall_mem_cons.mpr ⟨s_icmpge C (by decide +kernel : decode c_X8_at 9 = .ok (.if_icmp .ge 19, 3)) (by decide) rfl rfl rfl, ?_⟩
  refine List.forall_mem_cons.mpr ⟨s_iload_n C (by decide +kernel : decode c_X8_at 12 = .ok (.iload_n 1, 1)) rfl rfl rfl, ?_⟩
  refine List.forall_mem_cons.mpr ⟨s_sipush C (by decide +kernel : decode c_X8_at 13 = .ok (.sipush 150, 3)) rfl rfl (by decide), ?_⟩
  refine List.forall_mem_cons.mpr ⟨s_icmpge C (by decide +kernel : decode c_X8_at 16 = .ok (.if_icmp .ge 12, 3)) (by decide) rfl rfl rfl, ?_⟩
  refine List.forall_mem_cons.mpr ⟨s_aload_n C (by decide +kernel : decode c_X8_at 19 = .ok (.aload_n 0, 1)) rfl rfl rfl, ?_⟩
  refine List.forall_mem_cons.mpr ⟨s_getf C (by decide +kernel : decode c_X8_at 20 = .ok (.getfield 11, 3)) rfl rfl em_cl_X8 (by decide) ew33 rfl, ?_⟩
  refine List.forall_mem_cons.mpr ⟨s_iload_n C (by decide +kernel : decode c_X8_at 23 = .ok (.iload_n 1, 1)) rfl rfl rfl, ?_⟩
  refine List.forall_mem_cons.mpr ⟨s_bald C (by decide +kernel : decode c_X8_at 24 = .ok (.baload, 1)) rfl rfl, ?_⟩
  refine List.forall_mem_cons.mpr ⟨s_goto C (by decide +kernel : decode c_X8_at 25 = .ok (.goto 4, 3)) (by decide) rfl, ?_⟩
  refine List.forall_mem_cons.mpr ⟨s_iconst C (by decide +kernel : decode c_X8_at 28 = .ok (.iconst (-1), 1)) rfl rfl (by decide), ?_⟩
  refine List.forall_mem_cons.mpr ⟨s_iret C (by decide +kernel : decode c_X8_at 29 = .ok (.ireturn, 1)) hret hlk ⟨Nat.le_refl 0, Nat.le_refl 0⟩, ?_⟩
  exact fun _ h => absurd h List.not_mem_nil
theorem atC_lt {C : Nat → Nat} {L i lo hi : Nat} (hC : ∀ j, C j < 128) (hlo : lo < 128) (hhi : hi < 128) : (¬ atC C L i < nI lo ∧ ¬ nI hi < atC C L i) ↔ isr C L lo hi i = true := by
  have hc := hC i
  unfold atC isr
  rw [decide_eq_true_eq]
  by_cases h : i < L
  · rw [if_pos h]
    constructor
    · intro q
      refine ⟨h, ?_, ?_⟩
      · rcases Nat.lt_or_ge (C i) lo with w | w
        · exact absurd (nI_lt w (by omega)) q.1
        · exact w
      · rcases Nat.lt_or_ge hi (C i) with w | w
        · exact absurd (nI_lt w (by omega)) q.2
        · exact w
    · intro q
      exact ⟨nI_nlt q.2.1 (by omega), nI_nlt q.2.2 (by omega)⟩
  · rw [if_neg h]
    constructor
    · intro q
      exfalso
      refine q.1 (i_lt.mpr ?_)
      rw [nI_toInt (by omega), show ((-1 : Int32)).toInt = -1 by decide]
      omega
    · intro q; exact absurd q.1 h
def sp_X8_isLetter : em_Sp := fun av hp Q => ∃ by9 tln tst ten C L i, av = [.ref 0, .int (nI i)] ∧ hp = (wY by9 tln tst ten) ∧ TY by9 tln C L ∧ i ≤ 1000 ∧ Q (some (.int (b1 (isr C L 97 122 i)))) hp
def T_X8_isLetter : List (Nat × em_Op) := [(0, o_aload 0 1), (1, o_iload 1 2), (2, o_call 2 (some 3) (sp_X8_at) 5), (5, o_iconst 97 7), (7, o_icmplt 24 10), (10, o_aload 0 11), (11, o_iload 1 12), (12, o_call 2 (some 3) (sp_X8_at) 15), (15, o_iconst 122 17), (17, o_icmpgt 24 20), (20, o_iconst 1 21), (21, o_goto 25), (24, o_iconst 0 25), (25, o_zret)]
theorem me_X8_isLetter : em_Me T_X8_isLetter 2 sp_X8_isLetter := by
  intro Q K hK hle av hp hs
  obtain ⟨by9, tln, tst, ten, C, L, i, rfl, rfl, hT, hi, hq⟩ := hs
  have el := atC_lt (L := L) (i := i) (lo := 97) (hi := 122) hT.2.2.2 (by omega) (by omega)
  have no : ¬ isr C L 97 122 i = true → Q (some (.int 0)) (wY by9 tln tst ten) := by
    intro h
    have e : isr C L 97 122 i = false := by
      cases hc : isr C L 97 122 i with
      | false => rfl
      | true => exact absurd hc h
    rw [e] at hq
    exact hq
  refine ⟨Nat.le_of_ble_eq_true rfl, hK 0 9999 0 _ _ _ ?_⟩
  refine ⟨_, _, _, _, C, L, i, rfl, rfl, hT, hi, fun z => ?_, fun z => ?_⟩
  · exact ⟨Or.inl rfl, no (fun q => (el.mpr q).1 z)⟩
  · refine ⟨_, _, _, _, C, L, i, rfl, rfl, hT, hi, fun y => ?_, fun y => ?_⟩
    · exact ⟨Or.inl rfl, no (fun q => (el.mpr q).2 y)⟩
    · rw [el.mp ⟨z, y⟩] at hq
      exact ⟨Or.inr rfl, hq⟩
abbrev rm_X8_isLetter : Room := { frames := 1, cells := 0, slots := 0, locals := 21 }
set_option maxRecDepth 100000 in
set_option maxHeartbeats 4000000 in
theorem ct_X8_isLetter (l : Launch) (D : va_G) (dA : Nat → ClassId) (σ : Nat → Nat) : em_CT l D em_cl dA σ (em_F σ) y_X8_isLetter c_X8_isLetter 2 (Option.some ClassFile.FieldType.boolean) rm_X8_isLetter (sp_X8_isLetter ) := by
  refine em_CT_of (T := T_X8_isLetter ) (em_F_ok σ) (by decide) (fun p e s m args below meth c A ρ Q C hFok hF hret hlk hin => ?_) (me_X8_isLetter )
  unfold T_X8_isLetter
  refine List.forall_mem_cons.mpr ⟨s_aload_n C (by decide +kernel : decode c_X8_isLetter 0 = .ok (.aload_n 0, 1)) rfl rfl rfl, ?_⟩
  refine List.forall_mem_cons.mpr ⟨s_iload_n C (by decide +kernel : decode c_X8_isLetter 1 = .ok (.iload_n 1, 1)) rfl rfl rfl, ?_⟩
  refine List.forall_mem_cons.mpr ⟨s_callV C hFok hF (ct_X8_at l D dA σ) ⟨rfl, rfl⟩ ew287 em_cl_X8 ew284 ew286 ewp3 ew2 ⟨by decide, by decide, by decide +kernel⟩ ⟨by decide, by decide⟩ (by decide +kernel : decode c_X8_isLetter 2 = .ok (.invokevirtual 71, 3)) rfl rfl ⟨Nat.zero_le _, Nat.zero_le _⟩, ?_⟩
  refine List.forall_mem_cons.mpr ⟨s_bipush C (by decide +kernel : decode c_X8_isLetter 5 = .ok (.bipush 97, 2)) rfl rfl (by decide), ?_⟩
  refine List.forall_mem_cons.mpr ⟨s_icmplt C (by decide +kernel : decode c_X8_isLetter 7 = .ok (.if_icmp .lt 17, 3)) (by decide) rfl rfl rfl, ?_⟩
  refine List.forall_mem_cons.mpr ⟨s_aload_n C (by decide +kernel : decode c_X8_isLetter 10 = .ok (.aload_n 0, 1)) rfl rfl rfl, ?_⟩
  refine List.forall_mem_cons.mpr ⟨s_iload_n C (by decide +kernel : decode c_X8_isLetter 11 = .ok (.iload_n 1, 1)) rfl rfl rfl, ?_⟩
  refine List.forall_mem_cons.mpr ⟨s_callV C hFok hF (ct_X8_at l D dA σ) ⟨rfl, rfl⟩ ew287 em_cl_X8 ew284 ew286 ewp3 ew2 ⟨by decide, by decide, by decide +kernel⟩ ⟨by decide, by decide⟩ (by decide +kernel : decode c_X8_isLetter 12 = .ok (.invokevirtual 71, 3)) rfl rfl ⟨Nat.zero_le _, Nat.zero_le _⟩, ?_⟩
  refine List.forall_mem_cons.mpr ⟨s_bipush C (by decide +kernel : decode c_X8_isLetter 15 = .ok (.bipush 122, 2)) rfl rfl (by decide), ?_⟩
  refine List.forall_mem_cons.mpr ⟨s_icmpgt C (by decide +kernel : decode c_X8_isLetter 17 = .ok (.if_icmp .gt 7, 3)) (by decide) rfl rfl rfl, ?_⟩
  refine List.forall_mem_cons.mpr ⟨s_iconst C (by decide +kernel : decode c_X8_isLetter 20 = .ok (.iconst 1, 1)) rfl rfl (by decide), ?_⟩
  refine List.forall_mem_cons.mpr ⟨s_goto C (by decide +kernel : decode c_X8_isLetter 21 = .ok (.goto 4, 3)) (by decide) rfl, ?_⟩
  refine List.forall_mem_cons.mpr ⟨s_iconst C (by decide +kernel : decode c_X8_isLetter 24 = .ok (.iconst 0, 1)) rfl rfl (by decide), ?_⟩
  refine List.forall_mem_cons.mpr ⟨s_zret C (by decide +kernel : decode c_X8_isLetter 25 = .ok (.ireturn, 1)) hret hlk ⟨Nat.le_refl 0, Nat.le_refl 0⟩, ?_⟩
  exact fun _ h => absurd h List.not_mem_nil
def sp_X8_isFigure : em_Sp := fun av hp Q => ∃ by9 tln tst ten C L i, av = [.ref 0, .int (nI i)] ∧ hp = (wY by9 tln tst ten) ∧ TY by9 tln C L ∧ i ≤ 1000 ∧ Q (some (.int (b1 (isr C L 48 57 i)))) hp
def T_X8_isFigure : List (Nat × em_Op) := [(0, o_aload 0 1), (1, o_iload 1 2), (2, o_call 2 (some 3) (sp_X8_at) 5), (5, o_iconst 48 7), (7, o_icmplt 24 10), (10, o_aload 0 11), (11, o_iload 1 12), (12, o_call 2 (some 3) (sp_X8_at) 15), (15, o_iconst 57 17), (17, o_icmpgt 24 20), (20, o_iconst 1 21), (21, o_goto 25), (24, o_iconst 0 25), (25, o_zret)]
theorem me_X8_isFigure : em_Me T_X8_isFigure 2 sp_X8_isFigure := by
  intro Q K hK hle av hp hs
  obtain ⟨by9, tln, tst, ten, C, L, i, rfl, rfl, hT, hi, hq⟩ := hs
  have el := atC_lt (L := L) (i := i) (lo := 48) (hi := 57) hT.2.2.2 (by omega) (by omega)
  have no : ¬ isr C L 48 57 i = true → Q (some (.int 0)) (wY by9 tln tst ten) := by
    intro h
    have e : isr C L 48 57 i = false := by
      cases hc : isr C L 48 57 i with
      | false => rfl
      | true => exact absurd hc h
    rw [e] at hq
    exact hq
  refine ⟨Nat.le_of_ble_eq_true rfl, hK 0 9999 0 _ _ _ ?_⟩
  refine ⟨_, _, _, _, C, L, i, rfl, rfl, hT, hi, fun z => ?_, fun z => ?_⟩
  · exact ⟨Or.inl rfl, no (fun q => (el.mpr q).1 z)⟩
  · refine ⟨_, _, _, _, C, L, i, rfl, rfl, hT, hi, fun y => ?_, fun y => ?_⟩
    · exact ⟨Or.inl rfl, no (fun q => (el.mpr q).2 y)⟩
    · rw [el.mp ⟨z, y⟩] at hq
      exact ⟨Or.inr rfl, hq⟩
abbrev rm_X8_isFigure : Room := { frames := 1, cells := 0, slots := 0, locals := 21 }
set_option maxRecDepth 100000 in
set_option maxHeartbeats 4000000 in
theorem ct_X8_isFigure (l : Launch) (D : va_G) (dA : Nat → ClassId) (σ : Nat → Nat) : em_CT l D em_cl dA σ (em_F σ) y_X8_isFigure c_X8_isFigure 2 (Option.some ClassFile.FieldType.boolean) rm_X8_isFigure (sp_X8_isFigure ) := by
  refine em_CT_of (T := T_X8_isFigure ) (em_F_ok σ) (by decide) (fun p e s m args below meth c A ρ Q C hFok hF hret hlk hin => ?_) (me_X8_isFigure )
  unfold T_X8_isFigure
  refine List.forall_mem_cons.mpr ⟨s_aload_n C (by decide +kernel : decode c_X8_isFigure 0 = .ok (.aload_n 0, 1)) rfl rfl rfl, ?_⟩
  refine List.forall_mem_cons.mpr ⟨s_iload_n C (by decide +kernel : decode c_X8_isFigure 1 = .ok (.iload_n 1, 1)) rfl rfl rfl, ?_⟩
  refine List.forall_mem_cons.mpr ⟨s_callV C hFok hF (ct_X8_at l D dA σ) ⟨rfl, rfl⟩ ew287 em_cl_X8 ew284 ew286 ewp3 ew2 ⟨by decide, by decide, by decide +kernel⟩ ⟨by decide, by decide⟩ (by decide +kernel : decode c_X8_isFigure 2 = .ok (.invokevirtual 71, 3)) rfl rfl ⟨Nat.zero_le _, Nat.zero_le _⟩, ?_⟩
  refine List.forall_mem_cons.mpr ⟨s_bipush C (by decide +kernel : decode c_X8_isFigure 5 = .ok (.bipush 48, 2)) rfl rfl (by decide), ?_⟩
  refine List.forall_mem_cons.mpr ⟨s_icmplt C (by decide +kernel : decode c_X8_isFigure 7 = .ok (.if_icmp .lt 17, 3)) (by decide) rfl rfl rfl, ?_⟩
  refine List.forall_mem_cons.mpr ⟨s_aload_n C (by decide +kernel : decode c_X8_isFigure 10 = .ok (.aload_n 0, 1)) rfl rfl rfl, ?_⟩
  refine List.forall_mem_cons.mpr ⟨s_iload_n C (by decide +kernel : decode c_X8_isFigure 11 = .ok (.iload_n 1, 1)) rfl rfl rfl, ?_⟩
  refine List.forall_mem_cons.mpr ⟨s_callV C hFok hF (ct_X8_at l D dA σ) ⟨rfl, rfl⟩ ew287 em_cl_X8 ew284 ew286 ewp3 ew2 ⟨by decide, by decide, by decide +kernel⟩ ⟨by decide, by decide⟩ (by decide +kernel : decode c_X8_isFigure 12 = .ok (.invokevirtual 71, 3)) rfl rfl ⟨Nat.zero_le _, Nat.zero_le _⟩, ?_⟩
  refine List.forall_mem_cons.mpr ⟨s_bipush C (by decide +kernel : decode c_X8_isFigure 15 = .ok (.bipush 57, 2)) rfl rfl (by decide), ?_⟩
  refine List.forall_mem_cons.mpr ⟨s_icmpgt C (by decide +kernel : decode c_X8_isFigure 17 = .ok (.if_icmp .gt 7, 3)) (by decide) rfl rfl rfl, ?_⟩
  refine List.forall_mem_cons.mpr ⟨s_iconst C (by decide +kernel : decode c_X8_isFigure 20 = .ok (.iconst 1, 1)) rfl rfl (by decide), ?_⟩
  refine List.forall_mem_cons.mpr ⟨s_goto C (by decide +kernel : decode c_X8_isFigure 21 = .ok (.goto 4, 3)) (by decide) rfl, ?_⟩
  refine List.forall_mem_cons.mpr ⟨s_iconst C (by decide +kernel : decode c_X8_isFigure 24 = .ok (.iconst 0, 1)) rfl rfl (by decide), ?_⟩
  refine List.forall_mem_cons.mpr ⟨s_zret C (by decide +kernel : decode c_X8_isFigure 25 = .ok (.ireturn, 1)) hret hlk ⟨Nat.le_refl 0, Nat.le_refl 0⟩, ?_⟩
  exact fun _ h => absurd h List.not_mem_nil
def sp_X8_isSign : em_Sp := fun av hp Q => ∃ by9 tln tst ten C L s c, av = [.ref 0, .int (nI c)] ∧ hp = (wY by9 tln tst ten) ∧ TY by9 tln C L ∧ tst = nI s ∧ s ≤ 1000 ∧ c < 128 ∧ Q (some (.int (b1 (isr C L c c s)))) hp
def T_X8_isSign : List (Nat × em_Op) := [(0, o_aload 0 1), (1, o_aload 0 2), (2, o_getf 3 2 5), (5, o_call 2 (some 3) (sp_X8_at) 8), (8, o_iload 1 9), (9, o_icmpne 16 12), (12, o_iconst 1 13), (13, o_goto 17), (16, o_iconst 0 17), (17, o_zret)]
theorem me_X8_isSign : em_Me T_X8_isSign 2 sp_X8_isSign := by
  intro Q K hK hle av hp hs
  obtain ⟨by9, tln, tst, ten, C, L, s, c, rfl, rfl, hT, rfl, hs, hc, hq⟩ := hs
  have hcs := hT.2.2.2 s
  refine ⟨Nat.le_of_ble_eq_true rfl, hK 0 9999 0 _ _ _ ?_⟩
  refine ⟨_, _, _, _, C, L, s, rfl, rfl, hT, hs, fun z => ?_, fun z => ?_⟩
  · have e : isr C L c c s = false := by
      refine decide_eq_false (fun q => z ?_)
      rw [atC, if_pos q.1]; congr 1; omega
    rw [e] at hq
    exact ⟨Or.inl rfl, hq⟩
  · have e : isr C L c c s = true := by
      unfold atC at z
      by_cases h : s < L
      · rw [if_pos h] at z
        have := (nI_eq (by omega) (by omega)).mp z
        exact decide_eq_true ⟨h, by omega, by omega⟩
      · rw [if_neg h] at z
        exact absurd z.symm (nI_m1 (by omega))
    rw [e] at hq
    exact ⟨Or.inr rfl, hq⟩
abbrev rm_X8_isSign : Room := { frames := 1, cells := 0, slots := 0, locals := 21 }
set_option maxRecDepth 100000 in
set_option maxHeartbeats 4000000 in
theorem ct_X8_isSign (l : Launch) (D : va_G) (dA : Nat → ClassId) (σ : Nat → Nat) : em_CT l D em_cl dA σ (em_F σ) y_X8_isSign c_X8_isSign 2 (Option.some ClassFile.FieldType.boolean) rm_X8_isSign (sp_X8_isSign ) := by
  refine em_CT_of (T := T_X8_isSign ) (em_F_ok σ) (by decide) (fun p e s m args below meth c A ρ Q C hFok hF hret hlk hin => ?_) (me_X8_isSign )
  unfold T_X8_isSign
  refine List.forall_mem_cons.mpr ⟨s_aload_n C (by decide +kernel : decode c_X8_isSign 0 = .ok (.aload_n 0, 1)) rfl rfl rfl, ?_⟩
  refine List.forall_mem_cons.mpr ⟨s_aload_n C (by decide +kernel : decode c_X8_isSign 1 = .ok (.aload_n 0, 1)) rfl rfl rfl, ?_⟩
  refine List.forall_mem_cons.mpr ⟨s_getf C (by decide +kernel : decode c_X8_isSign 2 = .ok (.getfield 25, 3)) rfl rfl em_cl_X8 (by decide) ew36 rfl, ?_⟩
  refine List.forall_mem_cons.mpr ⟨s_callV C hFok hF (ct_X8_at l D dA σ) ⟨rfl, rfl⟩ ew287 em_cl_X8 ew284 ew286 ewp3 ew2 ⟨by decide, by decide, by decide +kernel⟩ ⟨by decide, by decide⟩ (by decide +kernel : decode c_X8_isSign 5 = .ok (.invokevirtual 71, 3)) rfl rfl ⟨Nat.zero_le _, Nat.zero_le _⟩, ?_⟩
  refine List.forall_mem_cons.mpr ⟨s_iload_n C (by decide +kernel : decode c_X8_isSign 8 = .ok (.iload_n 1, 1)) rfl rfl rfl, ?_⟩
  refine List.forall_mem_cons.mpr ⟨s_icmpne C (by decide +kernel : decode c_X8_isSign 9 = .ok (.if_icmp .ne 7, 3)) (by decide) rfl rfl rfl, ?_⟩
  refine List.forall_mem_cons.mpr ⟨s_iconst C (by decide +kernel : decode c_X8_isSign 12 = .ok (.iconst 1, 1)) rfl rfl (by decide), ?_⟩
  refine List.forall_mem_cons.mpr ⟨s_goto C (by decide +kernel : decode c_X8_isSign 13 = .ok (.goto 4, 3)) (by decide) rfl, ?_⟩
  refine List.forall_mem_cons.mpr ⟨s_iconst C (by decide +kernel : decode c_X8_isSign 16 = .ok (.iconst 0, 1)) rfl rfl (by decide), ?_⟩
  refine List.forall_mem_cons.mpr ⟨s_zret C (by decide +kernel : decode c_X8_isSign 17 = .ok (.ireturn, 1)) hret hlk ⟨Nat.le_refl 0, Nat.le_refl 0⟩, ?_⟩
  exact fun _ h => absurd h List.not_mem_nil
/-- where the class's token ends: behind the last one it is a step further -/
def tyE (C : Nat → Nat) (L s : Nat) : Nat := if s = L then L + 1 else tkE C L s
def SY (C : Nat → Nat) (L p : Nat) (tst ten : Int32) : Prop := tst = nI (tkS C L p) ∧ ten = nI (tyE C L (tkS C L p))
def sp_X8_step : em_Sp := fun av hp Q => ∃ by9 tln tst ten C L p, av = [.ref 0] ∧ hp = (wY by9 tln tst ten) ∧ TY by9 tln C L ∧ ten = nI p ∧ p ≤ L ∧ (∀ s' e', SY C L p s' e' → Q none (wY by9 tln (s') (e')))
def T_X8_step : List (Nat × em_Op) := [(0, o_aload 0 1), (1, o_aload 0 2), (2, o_getf 3 3 5), (5, o_putI 3 2 8), (8, o_aload 0 9), (9, o_getf 3 2 12), (12, o_aload 0 13), (13, o_getf 3 1 16), (16, o_icmpge 45 19), (19, o_aload 0 20), (20, o_aload 0 21), (21, o_getf 3 2 24), (24, o_call 2 (some 3) (sp_X8_at) 27), (27, o_iconst 32 29), (29, o_icmpne 45 32), (32, o_aload 0 33), (33, o_dup 34), (34, o_getf 3 2 37), (37, o_iconst 1 38), (38, o_iadd 39), (39, o_putI 3 2 42), (42, o_goto 8), (45, o_aload 0 46), (46, o_aload 0 47), (47, o_getf 3 2 50), (50, o_iconst 1 51), (51, o_iadd 52), (52, o_putI 3 3 55), (55, o_aload 0 56), (56, o_aload 0 57), (57, o_getf 3 2 60), (60, o_call 2 (some 3) (sp_X8_isLetter) 63), (63, o_ifeq 101 66), (66, o_aload 0 67), (67, o_getf 3 3 70), (70, o_aload 0 71), (71, o_getf 3 1 74), (74, o_icmpge 147 77), (77, o_aload 0 78), (78, o_aload 0 79), (79, o_getf 3 3 82), (82, o_call 2 (some 3) (sp_X8_isLetter) 85), (85, o_ifeq 147 88), (88, o_aload 0 89), (89, o_dup 90), (90, o_getf 3 3 93), (93, o_iconst 1 94), (94, o_iadd 95), (95, o_putI 3 3 98), (98, o_goto 66), (101, o_aload 0 102), (102, o_aload 0 103), (103, o_getf 3 2 106), (106, o_call 2 (some 3) (sp_X8_isFigure) 109), (109, o_ifeq 147 112), (112, o_aload 0 113), (113, o_getf 3 3 116), (116, o_aload 0 117), (117, o_getf 3 1 120), (120, o_icmpge 147 123), (123, o_aload 0 124), (124, o_aload 0 125), (125, o_getf 3 3 128), (128, o_call 2 (some 3) (sp_X8_isFigure) 131), (131, o_ifeq 147 134), (134, o_aload 0 135), (135, o_dup 136), (136, o_getf 3 3 139), (139, o_iconst 1 140), (140, o_iadd 141), (141, o_putI 3 3 144), (144, o_goto 112), (147, o_vret)]
theorem me_X8_step : em_Me T_X8_step 1 sp_X8_step := by
  intro Q K hK hle av hp hs
  obtain ⟨by9, tln, tst, ten, C, L, p, rfl, rfl, hT, rfl, hp, hq⟩ := hs
  obtain ⟨hb, rfl, hL, hC⟩ := hT
  have tx : TY by9 (nI L) C L := ⟨hb, rfl, hL, hC⟩
  have hq := hq _ _ ⟨rfl, rfl⟩
  have hsL : tkS C L p ≤ L := (tkS_le hp).2
  obtain ⟨s, hs⟩ : ∃ s, s = tkS C L p := ⟨_, rfl⟩
  rw [← hs] at hq hsL
  have b1t : ∀ {c : Bool}, ¬ b1 c = 0 → c = true := fun {c} h => by
    cases c with
    | true => rfl
    | false => exact absurd rfl h
  refine ⟨Nat.le_of_ble_eq_true rfl, ?_⟩
  have fin : K 147 [some (.ref 0)] [] (wY by9 (nI L) (nI s) (nI (tyE C L s))) := hK 72 9999 147 _ _ _ hq
  have num : ∀ (f i : Nat), i ≤ L → L < i + f → run C L 48 57 f i = tyE C L s → K 112 [some (.ref 0)] [] (wY by9 (nI L) (nI s) (nI i)) := by
    intro f
    induction f with
    | zero => intro i h1 h2; omega
    | succ f ih =>
      intro i h1 h2 hr
      rw [run] at hr
      have stop : isr C L 48 57 i = false → K 147 [some (.ref 0)] [] (wY by9 (nI L) (nI s) (nI i)) := by
        intro h
        rw [h, if_neg Bool.false_ne_true] at hr
        rw [← hr] at fin
        exact fin
      refine hK 55 17 112 _ _ _ ?_
      refine ⟨fun z => ?_, fun z => ?_⟩
      · have z := (nI_leI (a := L) (b := i) (by omega) (by omega)).mp z
        exact stop (decide_eq_false (fun q => by omega))
      · refine ⟨_, _, _, _, C, L, i, rfl, rfl, tx, by omega, fun y => stop (b1_0.mp y), fun y => ?_⟩
        have y := b1t y
        have yl := isr_lt y
        rw [if_pos y] at hr
        have := ih (i + 1) (by omega) (by omega) hr
        rw [← nI_1 i] at this
        exact this
  have let_ : ∀ (f i : Nat), i ≤ L → L < i + f → run C L 97 122 f i = tyE C L s → K 66 [some (.ref 0)] [] (wY by9 (nI L) (nI s) (nI i)) := by
    intro f
    induction f with
    | zero => intro i h1 h2; omega
    | succ f ih =>
      intro i h1 h2 hr
      rw [run] at hr
      have stop : isr C L 97 122 i = false → K 147 [some (.ref 0)] [] (wY by9 (nI L) (nI s) (nI i)) := by
        intro h
        rw [h, if_neg Bool.false_ne_true] at hr
        rw [← hr] at fin
        exact fin
      refine hK 33 17 66 _ _ _ ?_
      refine ⟨fun z => ?_, fun z => ?_⟩
      · have z := (nI_leI (a := L) (b := i) (by omega) (by omega)).mp z
        exact stop (decide_eq_false (fun q => by omega))
      · refine ⟨_, _, _, _, C, L, i, rfl, rfl, tx, by omega, fun y => stop (b1_0.mp y), fun y => ?_⟩
        have y := b1t y
        have yl := isr_lt y
        rw [if_pos y] at hr
        have := ih (i + 1) (by omega) (by omega) hr
        rw [← nI_1 i] at this
        exact this
  have tok2 : K 55 [some (.ref 0)] [] (wY by9 (nI L) (nI s) (nI (s + 1))) := by
    refine hK 28 5 55 _ _ _ ?_
    refine ⟨_, _, _, _, C, L, s, rfl, rfl, tx, by omega, fun y => ?_, fun y => ?_⟩
    · have y := b1_0.mp y
      have yn : ¬ isr C L 97 122 s = true := by rw [y]; exact Bool.false_ne_true
      refine hK 50 5 101 _ _ _ ?_
      refine ⟨_, _, _, _, C, L, s, rfl, rfl, tx, by omega, fun w => ?_, fun w => ?_⟩
      · have w := b1_0.mp w
        have wn : ¬ isr C L 48 57 s = true := by rw [w]; exact Bool.false_ne_true
        have e : tyE C L s = s + 1 := by
          unfold tyE tkE
          by_cases h : s = L
          · rw [if_pos h, h]
          · rw [if_neg h, if_neg h, if_neg yn, if_neg wn]
        rw [e] at fin
        exact fin
      · have w := b1t w
        have wl := isr_lt w
        have e : tyE C L s = run C L 48 57 150 (s + 1) := by
          unfold tyE tkE
          rw [if_neg (by omega), if_neg (by omega), if_neg yn, if_pos w, run, if_pos w]
        exact num 150 (s + 1) (by omega) (by omega) e.symm
    · have y := b1t y
      have yl := isr_lt y
      have e : tyE C L s = run C L 97 122 150 (s + 1) := by
        unfold tyE tkE
        rw [if_neg (by omega), if_neg (by omega), if_pos y, run, if_pos y]
      exact let_ 150 (s + 1) (by omega) (by omega) e.symm
  rw [← nI_1 s] at tok2
  have tok : ∀ x : Int32, K 45 [some (.ref 0)] [] (wY by9 (nI L) (nI s) (x)) := fun x => hK 22 6 45 _ _ _ tok2
  have blank : ∀ (f i : Nat), i ≤ L → L < i + f → run C L 32 32 f i = s → K 8 [some (.ref 0)] [] (wY by9 (nI L) (nI i) (nI p)) := by
    intro f
    induction f with
    | zero => intro i h1 h2; omega
    | succ f ih =>
      intro i h1 h2 hr
      rw [run] at hr
      have stop : isr C L 32 32 i = false → K 45 [some (.ref 0)] [] (wY by9 (nI L) (nI i) (nI p)) := by
        intro h
        rw [h, if_neg Bool.false_ne_true] at hr
        rw [hr]
        exact tok _
      refine hK 4 18 8 _ _ _ ?_
      refine ⟨fun z => ?_, fun z => ?_⟩
      · have z := (nI_leI (a := L) (b := i) (by omega) (by omega)).mp z
        exact stop (decide_eq_false (fun q => by omega))
      · have z : i < L := by
          rcases Nat.lt_or_ge i L with q | q
          · exact q
          · exact absurd (nI_le q (by omega)) z
        have hc := hC i
        have ea : atC C L i = nI (C i) := if_pos z
        refine ⟨_, _, _, _, C, L, i, rfl, rfl, tx, by omega, fun y => ?_, fun y => ?_⟩
        · refine stop (decide_eq_false (fun q => y ?_))
          rw [ea]
          show nI (C i) = nI 32
          congr 1; omega
        · rw [ea] at y
          have y : C i = 32 := (nI_eq (b := 32) (by omega) (by omega)).mp y
          have yt : isr C L 32 32 i = true := decide_eq_true ⟨z, by omega, by omega⟩
          rw [if_pos yt] at hr
          have := ih (i + 1) (by omega) (by omega) hr
          rw [← nI_1 i] at this
          exact this
  exact hK 0 4 0 _ _ _ (blank 151 p hp (by omega) hs.symm)
abbrev rm_X8_step : Room := { frames := 2, cells := 0, slots := 0, locals := 42 }
set_option maxRecDepth 100000 in
set_option maxHeartbeats 4000000 in
theorem ct_X8_step (l : Launch) (D : va_G) (dA : Nat → ClassId) (σ : Nat → Nat) : em_CT l D em_cl dA σ (em_F σ) y_X8_step c_X8_step 1 (Option.none : Option ClassFile.FieldType) rm_X8_step (sp_X8_step ) := by
  refine em_CT_of (T := T_X8_step ) (em_F_ok σ) (by decide) (fun p e s m args below meth c A ρ Q C hFok hF hret hlk hin => ?_) (me_X8_step )
  unfold T_X8_step
  refine List.forall_mem_cons.mpr ⟨s_aload_n C (by decide +kernel : decode c_X8_step 0 = .ok (.aload_n 0, 1)) rfl rfl rfl, ?_⟩
  refine List.forall_mem_cons.mpr ⟨s_aload_n C (by decide +kernel : decode c_X8_step 1 = .ok (.aload_n 0, 1)) rfl rfl rfl, ?_⟩
  refine List.forall_mem_cons.mpr ⟨s_getf C (by decide +kernel : decode c_X8_step 2 = .ok (.getfield 19, 3)) rfl rfl em_cl_X8 (by decide) ew37 rfl, ?_⟩
  refine List.forall_mem_cons.mpr ⟨s_putI C (by decide +kernel : decode c_X8_step 5 = .ok (.putfield 25, 3)) rfl rfl em_cl_X8 (by decide) ew36 rfl (by decide) (by decide +kernel), ?_⟩
  refine List.forall_mem_cons.mpr ⟨s_aload_n C (by decide +kernel : decode c_X8_step 8 = .ok (.aload_n 0, 1)) rfl rfl rfl, ?_⟩
  refine List.forall_mem_cons.mpr ⟨s_getf C (by decide +kernel : decode c_X8_step 9 = .ok (.getfield 25, 3)) rfl rfl em_cl_X8 (by decide) ew36 rfl, ?_⟩
  refine List.forall_mem_cons.mpr ⟨s_aload_n C (by decide +kernel : decode c_X8_step 12 = .ok (.aload_n 0, 1)) rfl rfl rfl, ?_⟩
  refine List.forall_mem_cons.mpr ⟨s_getf C (by decide +kernel : decode c_X8_step 13 = .ok (.getfield 15, 3)) rfl rfl em_cl_X8 (by decide) ew34 rfl, ?_⟩
  refine List.forall_mem_cons.mpr ⟨s_icmpge C (by decide +kernel : decode c_X8_step 16 = .ok (.if_icmp .ge 29, 3)) (by decide) rfl rfl rfl, ?_⟩
  refine List.forall_mem_cons.mpr ⟨s_aload_n C (by decide +kernel : decode c_X8_step 19 = .ok (.aload_n 0, 1)) rfl rfl rfl, ?_⟩
  refine List.forall_mem_cons.mpr ⟨s_aload_n C (by decide +kernel : decode c_X8_step 20 = .ok (.aload_n 0, 1)) rfl rfl rfl, ?_⟩
  refine List.forall_mem_cons.mpr ⟨s_getf C (by decide +kernel : decode c_X8_step 21 = .ok (.getfield 25, 3)) rfl rfl em_cl_X8 (by decide) ew36 rfl, ?_⟩
  refine List.forall_mem_cons.mpr ⟨s_callV C hFok hF (ct_X8_at l D dA σ) ⟨rfl, rfl⟩ ew287 em_cl_X8 ew284 ew286 ewp3 ew2 ⟨by decide, by decide, by decide +kernel⟩ ⟨by decide, by decide⟩ (by decide +kernel : decode c_X8_step 24 = .ok (.invokevirtual 71, 3)) rfl rfl ⟨Nat.zero_le _, Nat.zero_le _⟩, ?_⟩
  refine List.forall_mem_cons.mpr ⟨s_bipush C (by decide +kernel : decode c_X8_step 27 = .ok (.bipush 32, 2)) rfl rfl (by decide), ?_⟩
  refine List.forall_mem_cons.mpr ⟨s_icmpne C (by decide +kernel : decode c_X8_step 29 = .ok (.if_icmp .ne 16, 3)) (by decide) rfl rfl rfl, ?_⟩
  refine List.forall_mem_cons.mpr ⟨s_aload_n C (by decide +kernel : decode c_X8_step 32 = .ok (.aload_n 0, 1)) rfl rfl rfl, ?_⟩
  refine List.forall_mem_cons.mpr ⟨s_dup C (by decide +kernel : decode c_X8_step 33 = .ok (.dup, 1)) rfl rfl, ?_⟩
  refine List.forall_mem_cons.mpr ⟨s_getf C (by decide +kernel : decode c_X8_step 34 = .ok (.getfield 25, 3)) rfl rfl em_cl_X8 (by decide) ew36 rfl, ?_⟩
  refine List.forall_mem_cons.mpr ⟨s_iconst C (by decide +kernel : decode c_X8_step 37 = .ok (.iconst 1, 1)) rfl rfl (by decide), ?_⟩
  refine List.forall_mem_cons.mpr ⟨s_iadd C (by decide +kernel : decode c_X8_step 38 = .ok (.iadd, 1)) rfl rfl, ?_⟩
  refine List.forall_mem_cons.mpr ⟨s_putI C (by decide +kernel : decode c_X8_step 39 = .ok (.putfield 25, 3)) rfl rfl em_cl_X8 (by decide) ew36 rfl (by decide) (by decide +kernel), ?_⟩
  refine List.forall_mem_cons.mpr ⟨s_goto C (by decide +kernel : decode c_X8_step 42 = .ok (.goto (-34), 3)) (by decide) rfl, ?_⟩
  refine List.forall_mem_cons.mpr ⟨s_aload_n C (by decide +kernel : decode c_X8_step 45 = .ok (.aload_n 0, 1)) rfl rfl rfl, ?_⟩
  refine List.forall_mem_cons.mpr ⟨s_aload_n C (by decide +kernel : decode c_X8_step 46 = .ok (.aload_n 0, 1)) rfl rfl rfl, ?_⟩
  refine List.forall_mem_cons.mpr ⟨s_getf C (by decide +kernel : decode c_X8_step 47 = .ok (.getfield 25, 3)) rfl rfl em_cl_X8 (by decide) ew36 rfl, ?_⟩
  refine List.forall_mem_cons.mpr ⟨s_iconst C (by decide +kernel : decode c_X8_step 50 = .ok (.iconst 1, 1)) rfl rfl (by decide), ?_⟩
  refine List.forall_mem_cons.mpr ⟨s_iadd C (by decide +kernel : decode c_X8_step 51 = .ok (.iadd, 1)) rfl rfl, ?_⟩
  refine List.forall_mem_cons.mpr ⟨s_putI C (by decide +kernel : decode c_X8_step 52 = .ok (.putfield 19, 3)) rfl rfl em_cl_X8 (by decide) ew37 rfl (by decide) (by decide +kernel), ?_⟩
  refine List.forall_mem_cons.mpr ⟨s_aload_n C (by decide +kernel : decode c_X8_step 55 = .ok (.aload_n 0, 1)) rfl rfl rfl, ?_⟩
  refine List.forall_mem_cons.mpr ⟨s_aload_n C (by decide +kernel : decode c_X8_step 56 = .ok (.aload_n 0, 1)) rfl rfl rfl, ?_⟩
  refine List.forall_mem_cons.mpr ⟨s_getf C (by decide +kernel : decode c_X8_step 57 = .ok (.getfield 25, 3)) rfl rfl em_cl_X8 (by decide) ew36 rfl, ?_⟩
  refine List.forall_mem_cons.mpr ⟨s_callV C hFok hF (ct_X8_isLetter l D dA σ) ⟨rfl, rfl⟩ ew291 em_cl_X8 ew288 ew290 ewp4 ew2 ⟨by decide, by decide, by decide +kernel⟩ ⟨by decide, by decide⟩ (by decide +kernel : decode c_X8_step 60 = .ok (.invokevirtual 74, 3)) rfl rfl ⟨Nat.zero_le _, Nat.zero_le _⟩, ?_⟩
  refine List.forall_mem_cons.mpr ⟨s_ifeq C (by decide +kernel : decode c_X8_step 63 = .ok (.ifCond .eq 38, 3)) (by decide) rfl rfl rfl, ?_⟩
  refine List.forall_mem_cons.mpr ⟨s_aload_n C (by decide +kernel : decode c_X8_step 66 = .ok (.aload_n 0, 1)) rfl rfl rfl, ?_⟩
  refine List.forall_mem_cons.mpr ⟨s_getf C (by decide +kernel : decode c_X8_step 67 = .ok (.getfield 19, 3)) rfl rfl em_cl_X8 (by decide) ew37 rfl, ?_⟩
  refine List.forall_mem_cons.mpr ⟨s_aload_n C (by decide +kernel : decode c_X8_step 70 = .ok (.aload_n 0, 1)) rfl rfl rfl, ?_⟩
  refine List.forall_mem_cons.mpr ⟨s_getf C (by decide +kernel : decode c_X8_step 71 = .ok (.getfield 15, 3)) rfl rfl em_cl_X8 (by decide) ew34 rfl, ?_⟩
  refine List.forall_mem_cons.mpr ⟨s_icmpge C (by decide +kernel : decode c_X8_step 74 = .ok (.if_icmp .ge 73, 3)) (by decide) rfl rfl rfl, ?_⟩
  refine List.forall_mem_cons.mpr ⟨s_aload_n C (by decide +kernel : decode c_X8_step 77 = .ok (.aload_n 0, 1)) rfl rfl rfl, ?_⟩
  refine List.forall_mem_cons.mpr ⟨s_aload_n C (by decide +kernel : decode c_X8_step 78 = .ok (.aload_n 0, 1)) rfl rfl rfl, ?_⟩
  refine List.forall_mem_cons.mpr ⟨s_getf C (by decide +kernel : decode c_X8_step 79 = .ok (.getfield 19, 3)) rfl rfl em_cl_X8 (by decide) ew37 rfl, ?_⟩
  refine List.forall_mem_cons.mpr ⟨s_callV C hFok hF (ct_X8_isLetter l D dA σ) ⟨rfl, rfl⟩ ew291 em_cl_X8 ew288 ew290 ewp4 ew2 ⟨by decide, by decide, by decide +kernel⟩ ⟨by decide, by decide⟩ (by decide +kernel : decode c_X8_step 82 = .ok (.invokevirtual 74, 3)) rfl rfl ⟨Nat.zero_le _, Nat.zero_le _⟩, ?_⟩
  refine List.forall_mem_cons.mpr ⟨s_ifeq C (by decide +kernel : decode c_X8_step 85 = .ok (.ifCond .eq 62, 3)) (by decide) rfl rfl rfl, ?_⟩
  refine List.forall_mem_cons.mpr ⟨s_aload_n C (by decide +kernel : decode c_X8_step 88 = .ok (.aload_n 0, 1)) rfl rfl rfl, ?_⟩
  refine List.forall_mem_cons.mpr ⟨s_dup C (by decide +kernel : decode c_X8_step 89 = .ok (.dup, 1)) rfl rfl, ?_⟩
  refine List.forall_mem_cons.mpr ⟨s_getf C (by decide +kernel : decode c_X8_step 90 = .ok (.getfield 19, 3)) rfl rfl em_cl_X8 (by decide) ew37 rfl, ?_⟩
  refine List.forall_mem_cons.mpr ⟨s_iconst C (by decide +kernel : decode c_X8_step 93 = .ok (.iconst 1, 1)) rfl rfl (by decide), ?_⟩
  refine List.forall_mem_cons.mpr ⟨s_iadd C (by decide +kernel : decode c_X8_step 94 = .ok (.iadd, 1)) rfl rfl, ?_⟩
  refine List.forall_mem_cons.mpr ⟨s_putI C (by decide +kernel : decode c_X8_step 95 = .ok (.putfield 19, 3)) rfl rfl em_cl_X8 (by decide) ew37 rfl (by decide) (by decide +kernel), ?_⟩
  refine List.forall_mem_cons.mpr ⟨s_goto C (by decide +kernel : decode c_X8_step 98 = .ok (.goto (-32), 3)) (by decide) rfl, ?_⟩
  refine List.forall_mem_cons.mpr ⟨s_aload_n C (by decide +kernel : decode c_X8_step 101 = .ok (.aload_n 0, 1)) rfl rfl rfl, ?_⟩
  refine List.forall_mem_cons.mpr ⟨s_aload_n C (by decide +kernel : decode c_X8_step 102 = .ok (.aload_n 0, 1)) rfl rfl rfl, ?_⟩
  refine List.forall_mem_cons.mpr ⟨s_getf C (by decide +kernel : decode c_X8_step 103 = .ok (.getfield 25, 3)) rfl rfl em_cl_X8 (by decide) ew36 rfl, ?_⟩
  refine List.forall_mem_cons.mpr ⟨s_callV C hFok hF (ct_X8_isFigure l D dA σ) ⟨rfl, rfl⟩ ew295 em_cl_X8 ew292 ew294 ewp5 ew2 ⟨by decide, by decide, by decide +kernel⟩ ⟨by decide, by decide⟩ (by decide +kernel : decode c_X8_step 106 = .ok (.invokevirtual 78, 3)) rfl rfl ⟨Nat.zero_le _, Nat.zero_le _⟩, ?_⟩
  refine List.forall_mem_cons.mpr ⟨s_ifeq C (by decide +kernel : decode c_X8_step 109 = .ok (.ifCond .eq 38, 3)) (by decide) rfl rfl rfl, ?_⟩
  refine List.forall_mem_cons.mpr ⟨s_aload_n C (by decide +kernel : decode c_X8_step 112 = .ok (.aload_n 0, 1)) rfl rfl rfl, ?_⟩
  refine List.forall_mem_cons.mpr ⟨s_getf C (by decide +kernel : decode c_X8_step 113 = .ok (.getfield 19, 3)) rfl rfl em_cl_X8 (by decide) ew37 rfl, ?_⟩
  refine List.forall_mem_cons.mpr ⟨s_aload_n C (by decide +kernel : decode c_X8_step 116 = .ok (.aload_n 0, 1)) rfl rfl rfl, ?_⟩
  refine List.forall_mem_cons.mpr ⟨s_getf C (by decide +kernel : decode c_X8_step 117 = .ok (.getfield 15, 3)) rfl rfl em_cl_X8 (by decide) ew34 rfl, ?_⟩
  refine List.forall_mem_cons.mpr ⟨s_icmpge C (by decide +kernel : decode c_X8_step 120 = .ok (.if_icmp .ge 27, 3)) (by decide) rfl rfl rfl, ?_⟩
  refine List.forall_mem_cons.mpr ⟨s_aload_n C (by decide +kernel : decode c_X8_step 123 = .ok (.aload_n 0, 1)) rfl rfl rfl, ?_⟩
  refine List.forall_mem_cons.mpr ⟨s_aload_n C (by decide +kernel : decode c_X8_step 124 = .ok (.aload_n 0, 1)) rfl rfl rfl, ?_⟩
  refine List.forall_mem_cons.mpr ⟨s_getf C (by decide +kernel : decode c_X8_step 125 = .ok (.getfield 19, 3)) rfl rfl em_cl_X8 (by decide) ew37 rfl, ?_⟩
  refine List.forall_mem_cons.mpr ⟨s_callV C hFok hF (ct_X8_isFigure l D dA σ) ⟨rfl, rfl⟩ ew295 em_cl_X8 ew292 ew294 ewp5 ew2 ⟨by decide, by decide, by decide +kernel⟩ ⟨by decide, by decide⟩ (by decide +kernel : decode c_X8_step 128 = .ok (.invokevirtual 78, 3)) rfl rfl ⟨Nat.zero_le _, Nat.zero_le _⟩, ?_⟩
  refine List.forall_mem_cons.mpr ⟨s_ifeq C (by decide +kernel : decode c_X8_step 131 = .ok (.ifCond .eq 16, 3)) (by decide) rfl rfl rfl, ?_⟩
  refine List.forall_mem_cons.mpr ⟨s_aload_n C (by decide +kernel : decode c_X8_step 134 = .ok (.aload_n 0, 1)) rfl rfl rfl, ?_⟩
  refine List.forall_mem_cons.mpr ⟨s_dup C (by decide +kernel : decode c_X8_step 135 = .ok (.dup, 1)) rfl rfl, ?_⟩
  refine List.forall_mem_cons.mpr ⟨s_getf C (by decide +kernel : decode c_X8_step 136 = .ok (.getfield 19, 3)) rfl rfl em_cl_X8 (by decide) ew37 rfl, ?_⟩
  refine List.forall_mem_cons.mpr ⟨s_iconst C (by decide +kernel : decode c_X8_step 139 = .ok (.iconst 1, 1)) rfl rfl (by decide), ?_⟩
  refine List.forall_mem_cons.mpr ⟨s_iadd C (by decide +kernel : decode c_X8_step 140 = .ok (.iadd, 1)) rfl rfl, ?_⟩
  refine List.forall_mem_cons.mpr ⟨s_putI C (by decide +kernel : decode c_X8_step 141 = .ok (.putfield 19, 3)) rfl rfl em_cl_X8 (by decide) ew37 rfl (by decide) (by decide +kernel), ?_⟩
  refine List.forall_mem_cons.mpr ⟨s_goto C (by decide +kernel : decode c_X8_step 144 = .ok (.goto (-32), 3)) (by decide) rfl, ?_⟩
  refine List.forall_mem_cons.mpr ⟨s_vret C (by decide +kernel : decode c_X8_step 147 = .ok (.return_, 1)) hret hlk ⟨Nat.le_refl 0, Nat.le_refl 0⟩, ?_⟩
  exact fun _ h => absurd h List.not_mem_nil
def sp_X8_takeNumber : em_Sp := fun av hp Q => ∃ by9 tln tst ten C L p, av = [.ref 0] ∧ hp = (wY by9 tln tst ten) ∧ TY by9 tln C L ∧ p ≤ L ∧ SY C L p tst ten ∧ (prA C L p false = none → Q (some (.int (-1))) hp) ∧ (∀ a s' e', prA C L p false = some a → SY C L (nxp C L p) s' e' → Q (some (.int (nI a))) (wY by9 tln (s') (e')))
def T_X8_takeNumber : List (Nat × em_Op) := [(0, o_aload 0 1), (1, o_aload 0 2), (2, o_getf 3 2 5), (5, o_call 2 (some 3) (sp_X8_isFigure) 8), (8, o_ifeq 24 11), (11, o_aload 0 12), (12, o_getf 3 3 15), (15, o_aload 0 16), (16, o_getf 3 2 19), (19, o_isub 20), (20, o_iconst 2 21), (21, o_icmple 26 24), (24, o_iconst (-1) 25), (25, o_iret), (26, o_iconst 0 27), (27, o_istore 1 28), (28, o_aload 0 29), (29, o_getf 3 2 32), (32, o_istore 2 33), (33, o_iload 2 34), (34, o_aload 0 35), (35, o_getf 3 3 38), (38, o_icmpge 61 41), (41, o_iconst 10 43), (43, o_iload 1 44), (44, o_imul 45), (45, o_aload 0 46), (46, o_iload 2 47), (47, o_call 2 (some 3) (sp_X8_at) 50), (50, o_iadd 51), (51, o_iconst 48 53), (53, o_isub 54), (54, o_istore 1 55), (55, o_iinc 2 1 58), (58, o_goto 33), (61, o_aload 0 62), (62, o_call 1 (some 3) (sp_X8_step) 65), (65, o_iload 1 66), (66, o_iret)]
theorem me_X8_takeNumber : em_Me T_X8_takeNumber 3 sp_X8_takeNumber := by
  intro Q K hK hle av hp hs
  obtain ⟨by9, tln, tst, ten, C, L, p, rfl, rfl, hT, hp, ⟨rfl, rfl⟩, hno, hq⟩ := hs
  obtain ⟨h1, h2⟩ := tkS_le (C := C) hp
  obtain ⟨n1, n2, n3⟩ := nxp_le (C := C) hp
  have b1t : ∀ {c : Bool}, ¬ b1 c = 0 → c = true := fun {c} h => by
    cases c with
    | true => rfl
    | false => exact absurd rfl h
  refine ⟨Nat.le_of_ble_eq_true rfl, ?_⟩
  have none_ : prA C L p false = none → K 24 [some (.ref 0), none, none] [] (wY by9 tln (nI (tkS C L p)) (nI (tyE C L (tkS C L p)))) := fun h => hK 12 2 24 _ _ _ (hno h)
  have hL := hT.2.2.1
  refine hK 0 12 0 _ _ _ ?_
  refine ⟨_, _, _, _, C, L, tkS C L p, rfl, rfl, hT, by omega, fun z => ?_, fun z => ?_⟩
  · have z := b1_0.mp z
    refine none_ ?_
    rw [prA, if_neg Bool.false_ne_true]
    refine if_neg (fun q => ?_)
    have q : tkK C L (tkS C L p) = 2 := q
    unfold tkK at q
    split at q
    · omega
    · split at q
      · omega
      · split at q
        · rename_i x; rw [x] at z; cases z
        · split at q <;> omega
  · have z := b1t z
    have zl := isr_lt z
    have hnl : ¬ isr C L 97 122 (tkS C L p) = true := fun q => by have := isr_lt q; omega
    have hsl : ¬ tkS C L p = L := by omega
    have ee : tyE C L (tkS C L p) = nxp C L p := if_neg hsl
    have ek : knd C L p = if 2 < nxp C L p - tkS C L p then 1 else 2 := by
      unfold knd tkK; rw [if_neg hsl, if_neg hnl, if_pos z]; rfl
    have hse : tkS C L p < nxp C L p := (tkE_le h2).2 (by omega)
    rw [ee] at none_ ⊢
    have es : nI (nxp C L p) - nI (tkS C L p) = nI (nxp C L p - tkS C L p) := pk_sub (by omega)
    refine ⟨fun y => ?_, fun y => ?_⟩
    · rw [es] at y
      have y := (nI_leI (a := nxp C L p - tkS C L p) (b := 2) (by omega) (by omega)).mp y
      have hk : knd C L p = 2 := by rw [ek, if_neg (by omega)]
      have hA : prA C L p false = some (nmN C (tkS C L p) (nxp C L p - tkS C L p)) := by rw [prA, if_neg Bool.false_ne_true, if_pos hk]
      have hin := num_in hp hk
      have hq := fun s' e' => hq _ s' e' hA
      have loop : ∀ (r k : Nat), k + r = nxp C L p - tkS C L p → K 33 [some (.ref 0), some (.int (nmI C (tkS C L p) k)), some (.int (nI (tkS C L p + k)))] [] (wY by9 tln (nI (tkS C L p)) (nI (nxp C L p))) := by
        intro r
        induction r with
        | zero =>
          intro k hk2
          have hk2 : k = nxp C L p - tkS C L p := by omega
          subst hk2
          rw [nmI_N _ hin]
          refine hK 19 9999 33 _ _ _ ?_
          refine ⟨fun _ => ⟨_, _, _, _, C, L, nxp C L p, rfl, rfl, hT, rfl, n2, fun s' e' h => hq s' e' h⟩, fun w => absurd (nI_le (a := nxp C L p) (b := tkS C L p + (nxp C L p - tkS C L p)) (by omega) (by omega)) w⟩
        | succ r ih =>
          intro k hk2
          have := ih (k + 1) (by omega)
          rw [show tkS C L p + (k + 1) = (tkS C L p + k) + 1 by omega, ← nI_1 (tkS C L p + k), nmI, if_pos (by omega)] at this
          refine hK 19 9999 33 _ _ _ ?_
          refine ⟨fun w => absurd w (nI_ge (a := tkS C L p + k) (b := nxp C L p) (by omega) (by omega)), fun _ => ?_⟩
          refine ⟨_, _, _, _, C, L, tkS C L p + k, rfl, rfl, hT, by omega, ?_⟩
          rw [atC, if_pos (by omega)]
          exact this
      have l0 := loop (nxp C L p - tkS C L p) 0 (by omega)
      exact hK 14 5 26 _ _ _ l0
    · rw [es] at y
      have y : ¬ nxp C L p - tkS C L p ≤ 2 := fun q => y (nI_le (b := 2) q (by omega))
      exact none_ (by rw [prA, if_neg Bool.false_ne_true]; exact if_neg (by rw [ek, if_pos (by omega)]; omega))
abbrev rm_X8_takeNumber : Room := { frames := 3, cells := 0, slots := 0, locals := 62 }
set_option maxRecDepth 100000 in
set_option maxHeartbeats 4000000 in
theorem ct_X8_takeNumber (l : Launch) (D : va_G) (dA : Nat → ClassId) (σ : Nat → Nat) : em_CT l D em_cl dA σ (em_F σ) y_X8_takeNumber c_X8_takeNumber 3 (Option.some ClassFile.FieldType.int) rm_X8_takeNumber (sp_X8_takeNumber ) := by
  refine em_CT_of (T := T_X8_takeNumber ) (em_F_ok σ) (by decide) (fun p e s m args below meth c A ρ Q C hFok hF hret hlk hin => ?_) (me_X8_takeNumber )
  unfold T_X8_takeNumber
  refine List.forall_mem_cons.mpr ⟨s_aload_n C (by decide +kernel : decode c_X8_takeNumber 0 = .ok (.aload_n 0, 1)) rfl rfl rfl, ?_⟩
  refine List.forall_mem_cons.mpr ⟨s_aload_n C (by decide +kernel : decode c_X8_takeNumber 1 = .ok (.aload_n 0, 1)) rfl rfl rfl, ?_⟩
  refine List.forall_mem_cons.mpr ⟨s_getf C (by decide +kernel : decode c_X8_takeNumber 2 = .ok (.getfield 25, 3)) rfl rfl em_cl_X8 (by decide) ew36 rfl, ?_⟩
  refine List.forall_mem_cons.mpr ⟨s_callV C hFok hF (ct_X8_isFigure l D dA σ) ⟨rfl, rfl⟩ ew295 em_cl_X8 ew292 ew294 ewp5 ew2 ⟨by decide, by decide, by decide +kernel⟩ ⟨by decide, by decide⟩ (by decide +kernel : decode c_X8_takeNumber 5 = .ok (.invokevirtual 78, 3)) rfl rfl ⟨Nat.zero_le _, Nat.zero_le _⟩, ?_⟩
  refine List.forall_mem_cons.mpr ⟨s_ifeq C (by decide +kernel : decode c_X8_takeNumber 8 = .ok (.ifCond .eq 16, 3)) (by decide) rfl rfl rfl, ?_⟩
  refine List.forall_mem_cons.mpr ⟨s_aload_n C (by decide +kernel : decode c_X8_takeNumber 11 = .ok (.aload_n 0, 1)) rfl rfl rfl, ?_⟩
  refine List.forall_mem_cons.mpr ⟨s_getf C (by decide +kernel : decode c_X8_takeNumber 12 = .ok (.getfield 19, 3)) rfl rfl em_cl_X8 (by decide) ew37 rfl, ?_⟩
  refine List.forall_mem_cons.mpr ⟨s_aload_n C (by decide +kernel : decode c_X8_takeNumber 15 = .ok (.aload_n 0, 1)) rfl rfl rfl, ?_⟩
  refine List.forall_mem_cons.mpr ⟨s_getf C (by decide +kernel : decode c_X8_takeNumber 16 = .ok (.getfield 25, 3)) rfl rfl em_cl_X8 (by decide) ew36 rfl, ?_⟩
  refine List.forall_mem_cons.mpr ⟨s_isub C (by decide +kernel : decode c_X8_takeNumber 19 = .ok (.isub, 1)) rfl rfl, ?_⟩
  refine List.forall_mem_cons.mpr ⟨s_iconst C (by decide +kernel : decode c_X8_takeNumber 20 = .ok (.iconst 2, 1)) rfl rfl (by decide), ?_⟩
  refine List.forall_mem_cons.mpr ⟨s_icmple C (by decide +kernel : decode c_X8_takeNumber 21 = .ok (.if_icmp .le 5, 3)) (by decide) rfl rfl rfl, ?_⟩
  refine List.forall_mem_cons.mpr ⟨s_iconst C (by decide +kernel : decode c_X8_takeNumber 24 = .ok (.iconst (-1), 1)) rfl rfl (by decide), ?_⟩
  refine List.forall_mem_cons.mpr ⟨s_iret C (by decide +kernel : decode c_X8_takeNumber 25 = .ok (.ireturn, 1)) hret hlk ⟨Nat.le_refl 0, Nat.le_refl 0⟩, ?_⟩
  refine List.forall_mem_cons.mpr ⟨s_iconst C (by decide +kernel : decode c_X8_takeNumber 26 = .ok (.iconst 0, 1)) rfl rfl (by decide), ?_⟩
  refine List.forall_mem_cons.mpr ⟨s_istore_n C (by decide +kernel : decode c_X8_takeNumber 27 = .ok (.istore_n 1, 1)) rfl rfl rfl (by decide), ?_⟩
  refine List.forall_mem_cons.mpr ⟨s_aload_n C (by decide +kernel : decode c_X8_takeNumber 28 = .ok (.aload_n 0, 1)) rfl rfl rfl, ?_⟩
  refine List.forall_mem_cons.mpr ⟨s_getf C (by decide +kernel : decode c_X8_takeNumber 29 = .ok (.getfield 25, 3)) rfl rfl em_cl_X8 (by decide) ew36 rfl, ?_⟩
  refine List.forall_mem_cons.mpr ⟨s_istore_n C (by decide +kernel : decode c_X8_takeNumber 32 = .ok (.istore_n 2, 1)) rfl rfl rfl (by decide), ?_⟩
  refine List.forall_mem_cons.mpr ⟨s_iload_n C (by decide +kernel : decode c_X8_takeNumber 33 = .ok (.iload_n 2, 1)) rfl rfl rfl, ?_⟩
  refine List.forall_mem_cons.mpr ⟨s_aload_n C (by decide +kernel : decode c_X8_takeNumber 34 = .ok (.aload_n 0, 1)) rfl rfl rfl, ?_⟩
  refine List.forall_mem_cons.mpr ⟨s_getf C (by decide +kernel : decode c_X8_takeNumber 35 = .ok (.getfield 19, 3)) rfl rfl em_cl_X8 (by decide) ew37 rfl, ?_⟩
  refine List.forall_mem_cons.mpr ⟨s_icmpge C (by decide +kernel : decode c_X8_takeNumber 38 = .ok (.if_icmp .ge 23, 3)) (by decide) rfl rfl rfl, ?_⟩
  refine List.forall_mem_cons.mpr ⟨s_bipush C (by decide +kernel : decode c_X8_takeNumber 41 = .ok (.bipush 10, 2)) rfl rfl (by decide), ?_⟩
  refine List.forall_mem_cons.mpr ⟨s_iload_n C (by decide +kernel : decode c_X8_takeNumber 43 = .ok (.iload_n 1, 1)) rfl rfl rfl, ?_⟩
  refine List.forall_mem_cons.mpr ⟨s_imul C (by decide +kernel : decode c_X8_takeNumber 44 = .ok (.imul, 1)) rfl rfl, ?_⟩
  refine List.forall_mem_cons.mpr ⟨s_aload_n C (by decide +kernel : decode c_X8_takeNumber 45 = .ok (.aload_n 0, 1)) rfl rfl rfl, ?_⟩
  refine List.forall_mem_cons.mpr ⟨s_iload_n C (by decide +kernel : decode c_X8_takeNumber 46 = .ok (.iload_n 2, 1)) rfl rfl rfl, ?_⟩
  refine List.forall_mem_cons.mpr ⟨s_callV C hFok hF (ct_X8_at l D dA σ) ⟨rfl, rfl⟩ ew287 em_cl_X8 ew284 ew286 ewp3 ew2 ⟨by decide, by decide, by decide +kernel⟩ ⟨by decide, by decide⟩ (by decide +kernel : decode c_X8_takeNumber 47 = .ok (.invokevirtual 71, 3)) rfl rfl ⟨Nat.zero_le _, Nat.zero_le _⟩, ?_⟩
  refine List.forall_mem_cons.mpr ⟨s_iadd C (by decide +kernel : decode c_X8_takeNumber 50 = .ok (.iadd, 1)) rfl rfl, ?_⟩
  refine List.forall_mem_cons.mpr ⟨s_bipush C (by decide +kernel : decode c_X8_takeNumber 51 = .ok (.bipush 48, 2)) rfl rfl (by decide), ?_⟩
  refine List.forall_mem_cons.mpr ⟨s_isub C (by decide +kernel : decode c_X8_takeNumber 53 = .ok (.isub, 1)) rfl rfl, ?_⟩
  refine List.forall_mem_cons.mpr ⟨s_istore_n C (by decide +kernel : decode c_X8_takeNumber 54 = .ok (.istore_n 1, 1)) rfl rfl rfl (by decide), ?_⟩
  refine List.forall_mem_cons.mpr ⟨s_iinc C (by decide +kernel : decode c_X8_takeNumber 55 = .ok (.iinc 2 1, 3)) rfl rfl (by decide) (by decide), ?_⟩
  refine List.forall_mem_cons.mpr ⟨s_goto C (by decide +kernel : decode c_X8_takeNumber 58 = .ok (.goto (-25), 3)) (by decide) rfl, ?_⟩
  refine List.forall_mem_cons.mpr ⟨s_aload_n C (by decide +kernel : decode c_X8_takeNumber 61 = .ok (.aload_n 0, 1)) rfl rfl rfl, ?_⟩
  refine List.forall_mem_cons.mpr ⟨s_callV C hFok hF (ct_X8_step l D dA σ) ⟨rfl, rfl⟩ ew283 em_cl_X8 ew280 ew282 ewp2 ew2 ⟨by decide, by decide, by decide +kernel⟩ ⟨by decide, by decide⟩ (by decide +kernel : decode c_X8_takeNumber 62 = .ok (.invokevirtual 22, 3)) rfl rfl ⟨Nat.zero_le _, Nat.zero_le _⟩, ?_⟩
  refine List.forall_mem_cons.mpr ⟨s_iload_n C (by decide +kernel : decode c_X8_takeNumber 65 = .ok (.iload_n 1, 1)) rfl rfl rfl, ?_⟩
  refine List.forall_mem_cons.mpr ⟨s_iret C (by decide +kernel : decode c_X8_takeNumber 66 = .ok (.ireturn, 1)) hret hlk ⟨Nat.le_refl 0, Nat.le_refl 0⟩, ?_⟩
  exact fun _ h => absurd h List.not_mem_nil
