/-! ===== tokens taken ===== -/
def vbI (v : Int64) : Int32 := if v = 542723566 then 0 else if v = 24873509529 then 1 else if v = 13190215781 then 2 else if v = 656779 then 3 else -1
def sp_X10_verbOf : em_Sp := fun av hp Q => ∃ v, av = [.long v] ∧ Q (some (.int (vbI v))) hp
def T_X10_verbOf : List (Nat × em_Op) := [(0, o_lload 0 1), (1, o_lconst 542723566 4), (4, o_lcmp 5), (5, o_ifne 12 8), (8, o_iconst 0 9), (9, o_goto 49), (12, o_lload 0 13), (13, o_lconst 24873509529 16), (16, o_lcmp 17), (17, o_ifne 24 20), (20, o_iconst 1 21), (21, o_goto 49), (24, o_lload 0 25), (25, o_lconst 13190215781 28), (28, o_lcmp 29), (29, o_ifne 36 32), (32, o_iconst 2 33), (33, o_goto 49), (36, o_lload 0 37), (37, o_lconst 656779 40), (40, o_lcmp 41), (41, o_ifne 48 44), (44, o_iconst 3 45), (45, o_goto 49), (48, o_iconst (-1) 49), (49, o_iret)]
theorem me_X10_verbOf : em_Me T_X10_verbOf 2 sp_X10_verbOf := by
  intro Q K hK hle av hp hs
  obtain ⟨v, rfl, hq⟩ := hs
  refine ⟨Nat.le_of_ble_eq_true rfl, hK 0 9999 0 _ _ _ ?_⟩
  rw [vbI] at hq
  refine ⟨fun z => ⟨fun y => ⟨fun x => ⟨fun w => ?_, fun w => ?_⟩, fun x => ?_⟩, fun y => ?_⟩, fun z => ?_⟩
  · rw [if_neg (fun q => z (lg_cmp0.mpr q)), if_neg (fun q => y (lg_cmp0.mpr q)), if_neg (fun q => x (lg_cmp0.mpr q)), if_neg (fun q => w (lg_cmp0.mpr q))] at hq
    exact hq
  · rw [if_neg (fun q => z (lg_cmp0.mpr q)), if_neg (fun q => y (lg_cmp0.mpr q)), if_neg (fun q => x (lg_cmp0.mpr q)), if_pos (lg_cmp0.mp w)] at hq
    exact hq
  · rw [if_neg (fun q => z (lg_cmp0.mpr q)), if_neg (fun q => y (lg_cmp0.mpr q)), if_pos (lg_cmp0.mp x)] at hq
    exact hq
  · rw [if_neg (fun q => z (lg_cmp0.mpr q)), if_pos (lg_cmp0.mp y)] at hq
    exact hq
  · rw [if_pos (lg_cmp0.mp z)] at hq
    exact hq
abbrev rm_X10_verbOf : Room := { frames := 0, cells := 0, slots := 0, locals := 0 }
set_option maxRecDepth 100000 in
set_option maxHeartbeats 4000000 in
theorem ct_X10_verbOf (l : Launch) (D : va_G) (dA : Nat → ClassId) (σ : Nat → Nat) : em_CT l D em_cl dA σ (em_F σ) y_X10_verbOf c_X10_verbOf 2 (Option.some ClassFile.FieldType.int) rm_X10_verbOf (sp_X10_verbOf ) := by
  refine em_CT_of (T := T_X10_verbOf ) (em_F_ok σ) (by decide) (fun p e s m args below meth c A ρ Q C hFok hF hret hlk hin => ?_) (me_X10_verbOf )
  unfold T_X10_verbOf
  refine List.forall_mem_cons.mpr ⟨s_lload_n C (by decide +kernel : decode c_X10_verbOf 0 = .ok (.lload_n 0, 1)) rfl rfl rfl, ?_⟩
  refine List.forall_mem_cons.mpr ⟨s_ldc2 C (by decide +kernel : decode c_X10_verbOf 1 = .ok (.ldc2_w 130, 3)) rfl rfl ew856, ?_⟩
  refine List.forall_mem_cons.mpr ⟨s_lcmp C (by decide +kernel : decode c_X10_verbOf 4 = .ok (.lcmp, 1)) rfl rfl, ?_⟩
  refine List.forall_mem_cons.mpr ⟨s_ifne C (by decide +kernel : decode c_X10_verbOf 5 = .ok (.ifCond .ne 7, 3)) (by decide) rfl rfl rfl, ?_⟩
  refine List.forall_mem_cons.mpr ⟨s_iconst C (by decide +kernel : decode c_X10_verbOf 8 = .ok (.iconst 0, 1)) rfl rfl (by decide), ?_⟩
  refine List.forall_mem_cons.mpr ⟨s_goto C (by decide +kernel : decode c_X10_verbOf 9 = .ok (.goto 40, 3)) (by decide) rfl, ?_⟩
  refine List.forall_mem_cons.mpr ⟨s_lload_n C (by decide +kernel : decode c_X10_verbOf 12 = .ok (.lload_n 0, 1)) rfl rfl rfl, ?_⟩
  refine List.forall_mem_cons.mpr ⟨s_ldc2 C (by decide +kernel : decode c_X10_verbOf 13 = .ok (.ldc2_w 132, 3)) rfl rfl ew857, ?_⟩
  refine List.forall_mem_cons.mpr ⟨s_lcmp C (by decide +kernel : decode c_X10_verbOf 16 = .ok (.lcmp, 1)) rfl rfl, ?_⟩
  refine List.forall_mem_cons.mpr ⟨s_ifne C (by decide +kernel : decode c_X10_verbOf 17 = .ok (.ifCond .ne 7, 3)) (by decide) rfl rfl rfl, ?_⟩
  refine List.forall_mem_cons.mpr ⟨s_iconst C (by decide +kernel : decode c_X10_verbOf 20 = .ok (.iconst 1, 1)) rfl rfl (by decide), ?_⟩
  refine List.forall_mem_cons.mpr ⟨s_goto C (by decide +kernel : decode c_X10_verbOf 21 = .ok (.goto 28, 3)) (by decide) rfl, ?_⟩
  refine List.forall_mem_cons.mpr ⟨s_lload_n C (by decide +kernel : decode c_X10_verbOf 24 = .ok (.lload_n 0, 1)) rfl rfl rfl, ?_⟩
  refine List.forall_mem_cons.mpr ⟨s_ldc2 C (by decide +kernel : decode c_X10_verbOf 25 = .ok (.ldc2_w 134, 3)) rfl rfl ew858, ?_⟩
  refine List.forall_mem_cons.mpr ⟨s_lcmp C (by decide +kernel : decode c_X10_verbOf 28 = .ok (.lcmp, 1)) rfl rfl, ?_⟩
  refine List.forall_mem_cons.mpr ⟨s_ifne C (by decide +kernel : decode c_X10_verbOf 29 = .ok (.ifCond .ne 7, 3)) (by decide) rfl rfl rfl, ?_⟩
  refine List.forall_mem_cons.mpr ⟨s_iconst C (by decide +kernel : decode c_X10_verbOf 32 = .ok (.iconst 2, 1)) rfl rfl (by decide), ?_⟩
  refine List.forall_mem_cons.mpr ⟨s_goto C (by decide +kernel : decode c_X10_verbOf 33 = .ok (.goto 16, 3)) (by decide) rfl, ?_⟩
  refine List.forall_mem_cons.mpr ⟨s_lload_n C (by decide +kernel : decode c_X10_verbOf 36 = .ok (.lload_n 0, 1)) rfl rfl rfl, ?_⟩
  refine List.forall_mem_cons.mpr ⟨s_ldc2 C (by decide +kernel : decode c_X10_verbOf 37 = .ok (.ldc2_w 136, 3)) rfl rfl ew859, ?_⟩
  refine List.forall_mem_cons.mpr ⟨s_lcmp C (by decide +kernel : decode c_X10_verbOf 40 = .ok (.lcmp, 1)) rfl rfl, ?_⟩
  refine List.forall_mem_cons.mpr ⟨s_ifne C (by decide +kernel : decode c_X10_verbOf 41 = .ok (.ifCond .ne 7, 3)) (by decide) rfl rfl rfl, ?_⟩
  refine List.forall_mem_cons.mpr ⟨s_iconst C (by decide +kernel : decode c_X10_verbOf 44 = .ok (.iconst 3, 1)) rfl rfl (by decide), ?_⟩
  refine List.forall_mem_cons.mpr ⟨s_goto C (by decide +kernel : decode c_X10_verbOf 45 = .ok (.goto 4, 3)) (by decide) rfl, ?_⟩
  refine List.forall_mem_cons.mpr ⟨s_iconst C (by decide +kernel : decode c_X10_verbOf 48 = .ok (.iconst (-1), 1)) rfl rfl (by decide), ?_⟩
  refine List.forall_mem_cons.mpr ⟨s_iret C (by decide +kernel : decode c_X10_verbOf 49 = .ok (.ireturn, 1)) hret hlk ⟨Nat.le_refl 0, Nat.le_refl 0⟩, ?_⟩
  exact fun _ h => absurd h List.not_mem_nil
/-- where the token behind p ends -/
def nxp (C : Nat → Nat) (L p : Nat) : Nat := tkE C L (tkS C L p)
/-- the token at p lies before us -/
def ST (C : Nat → Nat) (L p : Nat) (at9 st9 tk vl : Int32) (wd : Int64) : Prop := at9 = nI (nxp C L p) ∧ st9 = nI (tkS C L p) ∧ tk = nI (tkK C L (tkS C L p)) ∧ (tkK C L (tkS C L p) = 2 → vl = nmI C (tkS C L p) (nxp C L p - tkS C L p)) ∧ (tkK C L (tkS C L p) = 4 → wd = wdV C (tkS C L p) (nxp C L p - tkS C L p))
theorem tkS_le {C : Nat → Nat} {L p : Nat} (h : p ≤ L) : p ≤ tkS C L p ∧ tkS C L p ≤ L := run_le 151 p h
theorem tkE_le {C : Nat → Nat} {L s : Nat} (h : s ≤ L) : tkE C L s ≤ L ∧ (s < L → s < tkE C L s) := by
  unfold tkE
  by_cases z : s = L
  · rw [if_pos z]; omega
  · rw [if_neg z]
    by_cases y : isr C L 97 122 s = true
    · rw [if_pos y]
      have h1 := run_le (C := C) (L := L) (lo := 97) (hi := 122) 150 (s + 1) (by omega)
      rw [run, if_pos y]
      omega
    · rw [if_neg y]
      by_cases x : isr C L 48 57 s = true
      · rw [if_pos x]
        have h1 := run_le (C := C) (L := L) (lo := 48) (hi := 57) 150 (s + 1) (by omega)
        rw [run, if_pos x]
        omega
      · rw [if_neg x]; omega
theorem nxp_le {C : Nat → Nat} {L p : Nat} (h : p ≤ L) : p ≤ nxp C L p ∧ nxp C L p ≤ L ∧ (tkK C L (tkS C L p) ≠ 0 → p < nxp C L p ∧ tkS C L p < L) := by
  obtain ⟨h1, h2⟩ := tkS_le (C := C) h
  obtain ⟨h3, h4⟩ := tkE_le (C := C) h2
  unfold nxp
  have hz : tkS C L p = L → tkK C L (tkS C L p) = 0 := fun q => if_pos q
  have hE : tkS C L p = L → tkE C L (tkS C L p) = L := fun q => if_pos q
  refine ⟨?_, h3, fun hk => ?_⟩
  · by_cases q : tkS C L p = L
    · rw [hE q]; exact h
    · have := h4 (by omega); omega
  · have q : tkS C L p < L := by
      by_cases q : tkS C L p = L
      · exact absurd (hz q) hk
      · omega
    have := h4 q
    omega
theorem tkK_lt {C : Nat → Nat} {L s : Nat} : tkK C L s < 5 := by
  unfold tkK
  split
  · omega
  · split
    · omega
    · split
      · split <;> omega
      · split <;> omega
def sp_X10_takesNumber : em_Sp := fun av hp Q => ∃ bk im kp asd rf qt ab be tx ty at9 st9 tk vl wd it mn so sb my we be9 rw fr C L p t, av = [.ref 0, .int (nI t)] ∧ hp = (wM bk im kp asd rf qt ab be tx ty at9 st9 tk vl wd it mn so sb my we be9 rw fr) ∧ TX tx ty C L ∧ p ≤ L ∧ ST C L p at9 st9 tk vl wd ∧ t < 150 ∧ (tkK C L (tkS C L p) ≠ 2 → Q (some (.int 0)) hp) ∧ (tkK C L (tkS C L p) = 2 → ∀ at' st' tk' vl' wd', ST C L (nxp C L p) at' st' tk' vl' wd' → Q (some (.int 1)) (wM bk im kp asd rf qt ab be tx ty (at') (st') (tk') (vl') (wd') (upd it t (nmI C (tkS C L p) (nxp C L p - tkS C L p))) mn so sb my we be9 rw fr))
def T_X10_takesNumber : List (Nat × em_Op) := [(0, o_aload 0 1), (1, o_getf 5 12 4), (4, o_iconst 2 5), (5, o_icmpeq 10 8), (8, o_iconst 0 9), (9, o_zret), (10, o_aload 0 11), (11, o_getf 5 15 14), (14, o_iload 1 15), (15, o_aload 0 16), (16, o_getf 5 13 19), (19, o_iast 20), (20, o_aload 0 21), (21, o_call 1 (some 5) (sp_X10_scans) 24), (24, o_iconst 1 25), (25, o_zret)]
theorem me_X10_takesNumber : em_Me T_X10_takesNumber 2 sp_X10_takesNumber := by
  intro Q K hK hle av hp hs
  obtain ⟨bk, im, kp, asd, rf, qt, ab, be, tx, ty, at9, st9, tk, vl, wd, it, mn, so, sb, my, we, be9, rw, fr, C, L, p, t, rfl, rfl, hTX, hp, ⟨rfl, rfl, rfl, hv, hw⟩, ht, h0, h1⟩ := hs
  have hk := tkK_lt (C := C) (L := L) (s := tkS C L p)
  obtain ⟨n1, n2, n3⟩ := nxp_le (C := C) hp
  refine ⟨Nat.le_of_ble_eq_true rfl, hK 0 9999 0 _ _ _ ?_⟩
  refine ⟨fun z => ?_, fun z => ?_⟩
  · have z : tkK C L (tkS C L p) = 2 := (nI_eq (b := 2) (by omega) (by omega)).mp z
    have h1 := h1 z
    have hv := hv z
    rw [← hv] at h1
    refine ⟨t, rfl, ht, _, _, _, _, _, _, _, _, _, _, _, _, _, _, _, _, _, _, _, _, _, _, _, _, C, L, nxp C L p, rfl, rfl, hTX, rfl, n2, fun vl' wd' c1 c2 => ?_⟩
    exact ⟨Or.inr rfl, h1 _ _ _ _ _ ⟨rfl, rfl, rfl, c1, c2⟩⟩
  · have z : tkK C L (tkS C L p) ≠ 2 := fun q => z (by rw [q]; rfl)
    exact ⟨Or.inl rfl, h0 z⟩
abbrev rm_X10_takesNumber : Room := { frames := 3, cells := 0, slots := 0, locals := 67 }
set_option maxRecDepth 100000 in
set_option maxHeartbeats 4000000 in
theorem ct_X10_takesNumber (l : Launch) (D : va_G) (dA : Nat → ClassId) (σ : Nat → Nat) : em_CT l D em_cl dA σ (em_F σ) y_X10_takesNumber c_X10_takesNumber 2 (Option.some ClassFile.FieldType.boolean) rm_X10_takesNumber (sp_X10_takesNumber ) := by
  refine em_CT_of (T := T_X10_takesNumber ) (em_F_ok σ) (by decide) (fun p e s m args below meth c A ρ Q C hFok hF hret hlk hin => ?_) (me_X10_takesNumber )
  unfold T_X10_takesNumber
  refine List.forall_mem_cons.mpr ⟨s_aload_n C (by decide +kernel : decode c_X10_takesNumber 0 = .ok (.aload_n 0, 1)) rfl rfl rfl, ?_⟩
  refine List.forall_mem_cons.mpr ⟨s_getf C (by decide +kernel : decode c_X10_takesNumber 1 = .ok (.getfield 115, 3)) rfl rfl em_cl_X10 (by decide) ew703 rfl, ?_⟩
  refine List.forall_mem_cons.mpr ⟨s_iconst C (by decide +kernel : decode c_X10_takesNumber 4 = .ok (.iconst 2, 1)) rfl rfl (by decide), ?_⟩
  refine List.forall_mem_cons.mpr ⟨s_icmpeq C (by decide +kernel : decode c_X10_takesNumber 5 = .ok (.if_icmp .eq 5, 3)) (by decide) rfl rfl rfl, ?_⟩
  refine List.forall_mem_cons.mpr ⟨s_iconst C (by decide +kernel : decode c_X10_takesNumber 8 = .ok (.iconst 0, 1)) rfl rfl (by decide), ?_⟩
  refine List.forall_mem_cons.mpr ⟨s_zret C (by decide +kernel : decode c_X10_takesNumber 9 = .ok (.ireturn, 1)) hret hlk ⟨Nat.le_refl 0, Nat.le_refl 0⟩, ?_⟩
  refine List.forall_mem_cons.mpr ⟨s_aload_n C (by decide +kernel : decode c_X10_takesNumber 10 = .ok (.aload_n 0, 1)) rfl rfl rfl, ?_⟩
  refine List.forall_mem_cons.mpr ⟨s_getf C (by decide +kernel : decode c_X10_takesNumber 11 = .ok (.getfield 29, 3)) rfl rfl em_cl_X10 (by decide) ew706 rfl, ?_⟩
  refine List.forall_mem_cons.mpr ⟨s_iload_n C (by decide +kernel : decode c_X10_takesNumber 14 = .ok (.iload_n 1, 1)) rfl rfl rfl, ?_⟩
  refine List.forall_mem_cons.mpr ⟨s_aload_n C (by decide +kernel : decode c_X10_takesNumber 15 = .ok (.aload_n 0, 1)) rfl rfl rfl, ?_⟩
  refine List.forall_mem_cons.mpr ⟨s_getf C (by decide +kernel : decode c_X10_takesNumber 16 = .ok (.getfield 127, 3)) rfl rfl em_cl_X10 (by decide) ew704 rfl, ?_⟩
  refine List.forall_mem_cons.mpr ⟨s_iast C (by decide +kernel : decode c_X10_takesNumber 19 = .ok (.iastore, 1)) rfl rfl, ?_⟩
  refine List.forall_mem_cons.mpr ⟨s_aload_n C (by decide +kernel : decode c_X10_takesNumber 20 = .ok (.aload_n 0, 1)) rfl rfl rfl, ?_⟩
  refine List.forall_mem_cons.mpr ⟨s_callV C hFok hF (ct_X10_scans l D dA σ) ⟨rfl, rfl⟩ ew845 em_cl_X10 ew842 ew844 ewp20 ew6 ⟨by decide, by decide, by decide +kernel⟩ ⟨by decide, by decide⟩ (by decide +kernel : decode c_X10_takesNumber 21 = .ok (.invokevirtual 140, 3)) rfl rfl ⟨Nat.zero_le _, Nat.zero_le _⟩, ?_⟩
  refine List.forall_mem_cons.mpr ⟨s_iconst C (by decide +kernel : decode c_X10_takesNumber 24 = .ok (.iconst 1, 1)) rfl rfl (by decide), ?_⟩
  refine List.forall_mem_cons.mpr ⟨s_zret C (by decide +kernel : decode c_X10_takesNumber 25 = .ok (.ireturn, 1)) hret hlk ⟨Nat.le_refl 0, Nat.le_refl 0⟩, ?_⟩
  exact fun _ h => absurd h List.not_mem_nil
def leR (C : Nat → Nat) (s : Nat) : Nat → Nat × Bool
  | 0 => (0, true)
  | k + 1 => if ((leR C s k).2 && (decide (C (s + k) - 97 ≤ 9) && decide ((leR C s k).1 / 2 ^ (C (s + k) - 97) = 0))) = true then ((leR C s k).1 ||| 2 ^ (C (s + k) - 97), true) else ((leR C s k).1, false)
theorem leR_lt {C : Nat → Nat} {s : Nat} : ∀ k, (leR C s k).1 < 1024
  | 0 => by rw [leR]; omega
  | k + 1 => by
    have ih := leR_lt (C := C) (s := s) k
    rw [leR]
    split
    · rename_i h
      have h2 := (Bool.and_eq_true_iff.mp (Bool.and_eq_true_iff.mp h).2).1
      have h3 := of_decide_eq_true h2
      exact or_lt ih (p2_lt _ (by omega))
    · exact ih
def nonB (C : Nat → Nat) (s e : Nat) : Bool := decide (e - s = 1) && decide (C s = 120)
def mtV (C : Nat → Nat) (s e : Nat) : Option Nat := if nonB C s e = true then some 0 else if (leR C s (e - s)).2 = true then some (leR C s (e - s)).1 else none
def sp_X10_takesLetters : em_Sp := fun av hp Q => ∃ bk im kp asd rf qt ab be tx ty at9 st9 tk vl wd it mn so sb my we be9 rw fr C L p t, av = [.ref 0, .int (nI t)] ∧ hp = (wM bk im kp asd rf qt ab be tx ty at9 st9 tk vl wd it mn so sb my we be9 rw fr) ∧ TX tx ty C L ∧ p ≤ L ∧ ST C L p at9 st9 tk vl wd ∧ t < 150 ∧ (tkK C L (tkS C L p) ≠ 4 → Q (some (.int 0)) hp) ∧ (tkK C L (tkS C L p) = 4 → mtV C (tkS C L p) (nxp C L p) = none → Q (some (.int 0)) hp) ∧ (∀ m, tkK C L (tkS C L p) = 4 → mtV C (tkS C L p) (nxp C L p) = some m → ∀ at' st' tk' vl' wd', ST C L (nxp C L p) at' st' tk' vl' wd' → Q (some (.int 1)) (wM bk im kp asd rf qt ab be tx ty (at') (st') (tk') (vl') (wd') (upd it t (nI m)) mn so sb my we be9 rw fr))
def T_X10_takesLetters : List (Nat × em_Op) := [(0, o_aload 0 1), (1, o_getf 5 12 4), (4, o_iconst 4 5), (5, o_icmpeq 10 8), (8, o_iconst 0 9), (9, o_zret), (10, o_iconst 0 11), (11, o_istore 2 12), (12, o_iconst 1 13), (13, o_istore 3 14), (14, o_aload 0 15), (15, o_getf 5 11 18), (18, o_istore 4 20), (20, o_iload 4 22), (22, o_aload 0 23), (23, o_getf 5 10 26), (26, o_icmpge 92 29), (29, o_aload 0 30), (30, o_getf 5 8 33), (33, o_iload 4 35), (35, o_aldI 0 36), (36, o_iconst 97 38), (38, o_isub 39), (39, o_istore 5 41), (41, o_iload 3 42), (42, o_ifeq 69 45), (45, o_iload 5 47), (47, o_i2l 48), (48, o_lconst 0 49), (49, o_lconst 9 52), (52, o_call 3 none (sp_X10_in) 55), (55, o_ifeq 69 58), (58, o_iload 2 59), (59, o_iload 5 61), (61, o_ishr 62), (62, o_ifne 69 65), (65, o_iconst 1 66), (66, o_goto 70), (69, o_iconst 0 70), (70, o_istore 3 71), (71, o_iload 2 72), (72, o_iload 3 73), (73, o_ifeq 83 76), (76, o_iconst 1 77), (77, o_iload 5 79), (79, o_ishl 80), (80, o_goto 84), (83, o_iconst 0 84), (84, o_ior 85), (85, o_istore 2 86), (86, o_iinc 4 1 89), (89, o_goto 20), (92, o_aload 0 93), (93, o_getf 5 10 96), (96, o_aload 0 97), (97, o_getf 5 11 100), (100, o_isub 101), (101, o_iconst 1 102), (102, o_icmpne 123 105), (105, o_aload 0 106), (106, o_getf 5 8 109), (109, o_aload 0 110), (110, o_getf 5 11 113), (113, o_aldI 0 114), (114, o_iconst 120 116), (116, o_icmpne 123 119), (119, o_iconst 1 120), (120, o_goto 124), (123, o_iconst 0 124), (124, o_istore 4 126), (126, o_iload 3 127), (127, o_ifne 135 130), (130, o_iload 4 132), (132, o_ifeq 155 135), (135, o_aload 0 136), (136, o_getf 5 15 139), (139, o_iload 1 140), (140, o_iload 4 142), (142, o_ifeq 149 145), (145, o_iconst 0 146), (146, o_goto 150), (149, o_iload 2 150), (150, o_iast 151), (151, o_aload 0 152), (152, o_call 1 (some 5) (sp_X10_scans) 155), (155, o_iload 3 156), (156, o_ifne 164 159), (159, o_iload 4 161), (161, o_ifeq 168 164), (164, o_iconst 1 165), (165, o_goto 169), (168, o_iconst 0 169), (169, o_zret)]
theorem me_X10_takesLetters : em_Me T_X10_takesLetters 6 sp_X10_takesLetters := by
  intro Q K hK hle av hp hs
  obtain ⟨bk, im, kp, asd, rf, qt, ab, be, tx, ty, at9, st9, tk, vl, wd, it, mn, so, sb, my, we, be9, rw, fr, C, L, p, t, rfl, rfl, hTX, hp, ⟨rfl, rfl, rfl, hv, hw⟩, ht, h0, h1, h2⟩ := hs
  obtain ⟨e1, e2, hL, hC⟩ := hTX
  subst e1
  subst e2
  have tx : TX (nB C) (nI L) C L := ⟨rfl, rfl, hL, hC⟩
  have hk := tkK_lt (C := C) (L := L) (s := tkS C L p)
  obtain ⟨n1, n2, n3⟩ := nxp_le (C := C) hp
  have b1t : ∀ {c : Bool}, ¬ b1 c = 0 → c = true := fun {c} h => by
    cases c with
    | true => rfl
    | false => exact absurd rfl h
  refine ⟨Nat.le_of_ble_eq_true rfl, hK 0 13 0 _ _ _ ?_⟩
  refine ⟨fun z => ?_, fun z => ?_⟩
  · have z : tkK C L (tkS C L p) = 4 := (nI_eq (b := 4) (by omega) (by omega)).mp z
    have h1 := h1 z
    have h2 := fun m hm => h2 m z hm
    obtain ⟨n4, n5⟩ := n3 (by omega)
    -- a word: letters all through
    have hlet : ∀ j, tkS C L p ≤ j → j < nxp C L p → 97 ≤ C j ∧ C j ≤ 122 := by
      intro j hj1 hj2
      have ee : nxp C L p = run C L 97 122 151 (tkS C L p) := by
        have zz := z
        unfold tkK at zz
        rw [if_neg (by omega)] at zz
        by_cases y : isr C L 97 122 (tkS C L p) = true
        · unfold nxp tkE; rw [if_neg (by omega), if_pos y]
        · rw [if_neg y] at zz
          by_cases x : isr C L 48 57 (tkS C L p) = true
          · rw [if_pos x] at zz; split at zz <;> omega
          · rw [if_neg x] at zz; split at zz <;> omega
      rw [ee] at hj2
      exact (isr_lt (run_in 151 _ j hj1 hj2)).2
    have hse : tkS C L p < nxp C L p := by
      have := tkE_le (C := C) (L := L) (s := tkS C L p) (by omega)
      unfold nxp; omega
    generalize tkS C L p = s at *
    generalize nxp C L p = e at *
    have done : ∀ (x5 : Option Value), K 92 [some (.ref 0), some (.int (nI t)), some (.int (nI (leR C s (e - s)).1)), some (.int (b1 (leR C s (e - s)).2)), some (.int (nI e)), x5] [] (wM bk im kp asd rf qt ab be (nB C) (nI L) (nI e) (nI s) (nI (tkK C L s)) vl wd it mn so sb my we be9 rw fr) := by
      intro x5
      have es : nI e - nI s = nI (e - s) := pk_sub (by omega)
      have hsC := hC s
      have fin : ∀ m, mtV C s e = some m → ∀ nn : Bool, (nn = true ∨ (leR C s (e - s)).2 = true) → K 150 [some (.ref 0), some (.int (nI t)), some (.int (nI (leR C s (e - s)).1)), some (.int (b1 (leR C s (e - s)).2)), some (.int (b1 nn)), x5] [.int (nI m), .int (nI t), .ref 7] (wM bk im kp asd rf qt ab be (nB C) (nI L) (nI e) (nI s) (nI (tkK C L s)) vl wd it mn so sb my we be9 rw fr) := by
        intro m hm nn hnn
        have h2 := h2 m hm
        refine hK 82 9999 150 _ _ _ ?_
        refine ⟨t, rfl, ht, _, _, _, _, _, _, _, _, _, _, _, _, _, _, _, _, _, _, _, _, _, _, _, _, C, L, e, rfl, rfl, tx, rfl, n2, fun vl' wd' c1 c2 => ?_⟩
        have h2 := h2 _ _ _ _ _ ⟨rfl, rfl, rfl, c1, c2⟩
        refine ⟨fun _ => ⟨Or.inr rfl, h2⟩, fun y => ⟨fun x => ?_, fun _ => ⟨Or.inr rfl, h2⟩⟩⟩
        have y := b1_0.mp y
        have x := b1_0.mp x
        rcases hnn with q | q
        · rw [x] at q; cases q
        · rw [y] at q; cases q
      have dec : ∀ nn : Bool, nn = nonB C s e → K 124 [some (.ref 0), some (.int (nI t)), some (.int (nI (leR C s (e - s)).1)), some (.int (b1 (leR C s (e - s)).2)), some (.int (nI e)), x5] [.int (b1 nn)] (wM bk im kp asd rf qt ab be (nB C) (nI L) (nI e) (nI s) (nI (tkK C L s)) vl wd it mn so sb my we be9 rw fr) := by
        intro nn hnn
        have go : (nn = true ∨ (leR C s (e - s)).2 = true) → K 135 [some (.ref 0), some (.int (nI t)), some (.int (nI (leR C s (e - s)).1)), some (.int (b1 (leR C s (e - s)).2)), some (.int (b1 nn)), x5] [] (wM bk im kp asd rf qt ab be (nB C) (nI L) (nI e) (nI s) (nI (tkK C L s)) vl wd it mn so sb my we be9 rw fr) := by
          intro h
          refine hK 74 8 135 _ _ _ ?_
          refine ⟨fun y => ?_, fun y => ?_⟩
          · have y := b1_0.mp y
            have hr : (leR C s (e - s)).2 = true := h.elim (fun q => by rw [y] at q; cases q) id
            have f := fin (leR C s (e - s)).1 (by rw [mtV, ← hnn, y, if_neg Bool.false_ne_true, if_pos hr]) nn h
            exact f
          · have y := b1t y
            have f := fin 0 (by rw [mtV, ← hnn, y, if_pos rfl]) nn h
            exact f
        refine hK 69 5 124 _ _ _ ?_
        refine ⟨fun y => go (Or.inr (b1t y)), fun y => ⟨fun x => ?_, fun x => go (Or.inl (b1t x))⟩⟩
        have y := b1_0.mp y
        have x := b1_0.mp x
        have h1 := h1 (by rw [mtV, ← hnn, x, if_neg Bool.false_ne_true, y, if_neg Bool.false_ne_true])
        have lastN : K 155 [some (.ref 0), some (.int (nI t)), some (.int (nI (leR C s (e - s)).1)), some (.int (b1 (leR C s (e - s)).2)), some (.int (b1 nn)), x5] [] (wM bk im kp asd rf qt ab be (nB C) (nI L) (nI e) (nI s) (nI (tkK C L s)) vl wd it mn so sb my we be9 rw fr) := by
          refine hK 85 9999 155 _ _ _ ?_
          refine ⟨fun q => ?_, fun _ => ⟨fun _ => ⟨Or.inl rfl, h1⟩, fun q => ?_⟩⟩
          · rw [y] at q; exact absurd rfl q
          · rw [x] at q; exact absurd rfl q
        exact lastN
      refine hK 52 17 92 _ _ _ ?_
      refine ⟨fun y => ?_, fun y => ?_⟩
      · rw [es] at y
        have y : ¬ e - s = 1 := fun q => y (by rw [q]; rfl)
        exact dec false (by unfold nonB; rw [decide_eq_false y]; rfl)
      · rw [es] at y
        have y : e - s = 1 := (nI_eq (b := 1) (by omega) (by omega)).mp y
        refine ⟨s, rfl, by omega, fun x => ?_, fun x => ?_⟩
        · have x : ¬ C s = 120 := fun q => x (by show nI (C s) = 120; rw [q]; rfl)
          exact dec false (by unfold nonB; rw [decide_eq_false x, Bool.and_false])
        · have x : C s = 120 := (nI_eq (b := 120) (by omega) (by omega)).mp x
          exact dec true (by unfold nonB; rw [decide_eq_true x, decide_eq_true y]; rfl)
    have loop : ∀ (r k : Nat) (x5 : Option Value), k + r = e - s → K 20 [some (.ref 0), some (.int (nI t)), some (.int (nI (leR C s k).1)), some (.int (b1 (leR C s k).2)), some (.int (nI (s + k))), x5] [] (wM bk im kp asd rf qt ab be (nB C) (nI L) (nI e) (nI s) (nI (tkK C L s)) vl wd it mn so sb my we be9 rw fr) := by
      intro r
      induction r with
      | zero =>
        intro k x5 hk2
        have hk2 : k = e - s := by omega
        subst hk2
        rw [show s + (e - s) = e by omega]
        refine hK 13 39 20 _ _ _ ?_
        exact ⟨fun _ => done x5, fun y => absurd (nI_le (Nat.le_refl e) (by omega)) y⟩
      | succ r ih =>
        intro k x5 hk2
        have hl := hlet (s + k) (by omega) (by omega)
        have hsk := leR_lt (C := C) (s := s) k
        obtain ⟨b, hb⟩ : ∃ b, b = C (s + k) - 97 := ⟨_, rfl⟩
        have eb : nI (C (s + k)) - 97 = nI b := by rw [hb]; exact pk_sub (b := 97) hl.1
        have el : leR C s (k + 1) = if ((leR C s k).2 && (decide (b ≤ 9) && decide ((leR C s k).1 / 2 ^ b = 0))) = true then ((leR C s k).1 ||| 2 ^ b, true) else ((leR C s k).1, false) := by rw [leR, hb]
        have nx := ih (k + 1) (some (.int (nI b))) (by omega)
        rw [show s + (k + 1) = (s + k) + 1 by omega, ← nI_1 (s + k), el] at nx
        have yes : ((leR C s k).2 && (decide (b ≤ 9) && decide ((leR C s k).1 / 2 ^ b = 0))) = true → K 70 [some (.ref 0), some (.int (nI t)), some (.int (nI (leR C s k).1)), some (.int (b1 (leR C s k).2)), some (.int (nI (s + k))), some (.int (nI b))] [.int 1] (wM bk im kp asd rf qt ab be (nB C) (nI L) (nI e) (nI s) (nI (tkK C L s)) vl wd it mn so sb my we be9 rw fr) := by
          intro h
          have hb9 := of_decide_eq_true (Bool.and_eq_true_iff.mp (Bool.and_eq_true_iff.mp h).2).1
          rw [if_pos h] at nx
          have eo : nI (leR C s k).1 ||| ((1 : Int32) <<< (nI b &&& 31)) = nI ((leR C s k).1 ||| 2 ^ b) := by rw [shl_nI b (by omega), nI_or]
          rw [← eo] at nx
          refine hK 39 13 70 _ _ _ ?_
          exact ⟨fun y => absurd y (by decide), fun _ => nx⟩
        have no : ¬ ((leR C s k).2 && (decide (b ≤ 9) && decide ((leR C s k).1 / 2 ^ b = 0))) = true → K 69 [some (.ref 0), some (.int (nI t)), some (.int (nI (leR C s k).1)), some (.int (b1 (leR C s k).2)), some (.int (nI (s + k))), some (.int (nI b))] [] (wM bk im kp asd rf qt ab be (nB C) (nI L) (nI e) (nI s) (nI (tkK C L s)) vl wd it mn so sb my we be9 rw fr) := by
          intro h
          rw [if_neg h] at nx
          have eo : nI (leR C s k).1 ||| 0 = nI (leR C s k).1 := Int32.or_zero
          have nx : K 20 [some (.ref 0), some (.int (nI t)), some (.int (nI (leR C s k).1)), some (.int 0), some (.int (nI (s + k) + 1)), some (.int (nI b))] [] (wM bk im kp asd rf qt ab be (nB C) (nI L) (nI e) (nI s) (nI (tkK C L s)) vl wd it mn so sb my we be9 rw fr) := nx
          have lastZ : ∀ v, v = nI (leR C s k).1 → K 85 [some (.ref 0), some (.int (nI t)), some (.int (nI (leR C s k).1)), some (.int 0), some (.int (nI (s + k))), some (.int (nI b))] [.int v] (wM bk im kp asd rf qt ab be (nB C) (nI L) (nI e) (nI s) (nI (tkK C L s)) vl wd it mn so sb my we be9 rw fr) := by
            intro v hv
            subst hv
            exact hK 49 3 85 _ _ _ nx
          refine hK 38 11 69 _ _ _ ?_
          exact ⟨fun _ => lastZ _ eo, fun y => absurd rfl y⟩
        have hnb : b < 31 := by omega
        refine hK 13 11 20 _ _ _ ?_
        refine ⟨fun y => absurd y (nI_ge (a := s + k) (b := e) (by omega) (by omega)), fun _ => ?_⟩
        have mid : K 41 [some (.ref 0), some (.int (nI t)), some (.int (nI (leR C s k).1)), some (.int (b1 (leR C s k).2)), some (.int (nI (s + k))), some (.int (nI b))] [] (wM bk im kp asd rf qt ab be (nB C) (nI L) (nI e) (nI s) (nI (tkK C L s)) vl wd it mn so sb my we be9 rw fr) := by
          refine hK 24 14 41 _ _ _ ?_
          refine ⟨fun y => ?_, fun y => ?_⟩
          · have y := b1_0.mp y
            exact no (by rw [y]; exact Bool.false_ne_true)
          · have y := b1t y
            have ei : inL (nI b).toInt64 0 9 ↔ b ≤ 9 := by
              rw [inL_i, nI_toInt (by omega), show (0 : Int64).toInt = 0 by decide, show (9 : Int64).toInt = 9 by decide]
              omega
            refine ⟨_, _, _, rfl, fun x => ?_, fun x => ?_⟩
            · have x := ei.mp x
              have eh : nI (leR C s k).1 >>> (nI b &&& 31) = nI ((leR C s k).1 / 2 ^ b) := shr_nI (by omega) (by omega)
              have hdl : (leR C s k).1 / 2 ^ b ≤ (leR C s k).1 := Nat.div_le_self _ _
              refine ⟨fun w => absurd w (by decide), fun _ => ⟨fun w => ?_, fun w => ?_⟩⟩
              · rw [eh] at w
                have w : ¬ (leR C s k).1 / 2 ^ b = 0 := fun q => w (by rw [q]; rfl)
                exact no (by rw [decide_eq_false w, Bool.and_false, Bool.and_false]; exact Bool.false_ne_true)
              · rw [eh] at w
                have w : (leR C s k).1 / 2 ^ b = 0 := (nI_eq (b := 0) (by omega) (by omega)).mp w
                exact yes (by rw [decide_eq_true w, decide_eq_true x, y]; rfl)
            · have x : ¬ b ≤ 9 := fun q => x (ei.mpr q)
              exact ⟨fun _ => no (by rw [decide_eq_false x, Bool.false_and, Bool.and_false]; exact Bool.false_ne_true), fun w => absurd rfl w⟩
        rw [← eb] at mid
        exact ⟨s + k, rfl, by omega, hle _ _ _ _ _ (by repeat (first | exact trivial | refine ⟨rfl, ?_⟩)) mid⟩
    have l0 := loop (e - s) 0 none (by omega)
    exact l0
  · have z : tkK C L (tkS C L p) ≠ 4 := fun q => z (by rw [q]; rfl)
    exact ⟨Or.inl rfl, h0 z⟩
abbrev rm_X10_takesLetters : Room := { frames := 3, cells := 0, slots := 0, locals := 67 }
set_option maxRecDepth 100000 in
set_option maxHeartbeats 4000000 in
theorem ct_X10_takesLetters (l : Launch) (D : va_G) (dA : Nat → ClassId) (σ : Nat → Nat) : em_CT l D em_cl dA σ (em_F σ) y_X10_takesLetters c_X10_takesLetters 6 (Option.some ClassFile.FieldType.boolean) rm_X10_takesLetters (sp_X10_takesLetters ) := by
  refine em_CT_of (T := T_X10_takesLetters ) (em_F_ok σ) (by decide) (fun p e s m args below meth c A ρ Q C hFok hF hret hlk hin => ?_) (me_X10_takesLetters )
  unfold T_X10_takesLetters
  refine List.forall_mem_cons.mpr ⟨s_aload_n C (by decide +kernel : decode c_X10_takesLetters 0 = .ok (.aload_n 0, 1)) rfl rfl rfl, ?_⟩
  refine List.forall_mem_cons.mpr ⟨s_getf C (by decide +kernel : decode c_X10_takesLetters 1 = .ok (.getfield 115, 3)) rfl rfl em_cl_X10 (by decide) ew703 rfl, ?_⟩
  refine List.forall_mem_cons.mpr ⟨s_iconst C (by decide +kernel : decode c_X10_takesLetters 4 = .ok (.iconst 4, 1)) rfl rfl (by decide), ?_⟩
  refine List.forall_mem_cons.mpr ⟨s_icmpeq C (by decide +kernel : decode c_X10_takesLetters 5 = .ok (.if_icmp .eq 5, 3)) (by decide) rfl rfl rfl, ?_⟩
  refine List.forall_mem_cons.mpr ⟨s_iconst C (by decide +kernel : decode c_X10_takesLetters 8 = .ok (.iconst 0, 1)) rfl rfl (by decide), ?_⟩
  refine List.forall_mem_cons.mpr ⟨s_zret C (by decide +kernel : decode c_X10_takesLetters 9 = .ok (.ireturn, 1)) hret hlk ⟨Nat.le_refl 0, Nat.le_refl 0⟩, ?_⟩
  refine List.forall_mem_cons.mpr ⟨s_iconst C (by decide +kernel : decode c_X10_takesLetters 10 = .ok (.iconst 0, 1)) rfl rfl (by decide), ?_⟩
  refine List.forall_mem_cons.mpr ⟨s_istore_n C (by decide +kernel : decode c_X10_takesLetters 11 = .ok (.istore_n 2, 1)) rfl rfl rfl (by decide), ?_⟩
  refine List.forall_mem_cons.mpr ⟨s_iconst C (by decide +kernel : decode c_X10_takesLetters 12 = .ok (.iconst 1, 1)) rfl rfl (by decide), ?_⟩
  refine List.forall_mem_cons.mpr ⟨s_istore_n C (by decide +kernel : decode c_X10_takesLetters 13 = .ok (.istore_n 3, 1)) rfl rfl rfl (by decide), ?_⟩
  refine List.forall_mem_cons.mpr ⟨s_aload_n C (by decide +kernel : decode c_X10_takesLetters 14 = .ok (.aload_n 0, 1)) rfl rfl rfl, ?_⟩
  refine List.forall_mem_cons.mpr ⟨s_getf C (by decide +kernel : decode c_X10_takesLetters 15 = .ok (.getfield 112, 3)) rfl rfl em_cl_X10 (by decide) ew702 rfl, ?_⟩
  refine List.forall_mem_cons.mpr ⟨s_istore C (by decide +kernel : decode c_X10_takesLetters 18 = .ok (.istore 4, 2)) rfl rfl (by decide), ?_⟩
  refine List.forall_mem_cons.mpr ⟨s_iload C (by decide +kernel : decode c_X10_takesLetters 20 = .ok (.iload 4, 2)) rfl rfl, ?_⟩
  refine List.forall_mem_cons.mpr ⟨s_aload_n C (by decide +kernel : decode c_X10_takesLetters 22 = .ok (.aload_n 0, 1)) rfl rfl rfl, ?_⟩
  refine List.forall_mem_cons.mpr ⟨s_getf C (by decide +kernel : decode c_X10_takesLetters 23 = .ok (.getfield 106, 3)) rfl rfl em_cl_X10 (by decide) ew701 rfl, ?_⟩
  refine List.forall_mem_cons.mpr ⟨s_icmpge C (by decide +kernel : decode c_X10_takesLetters 26 = .ok (.if_icmp .ge 66, 3)) (by decide) rfl rfl rfl, ?_⟩
  refine List.forall_mem_cons.mpr ⟨s_aload_n C (by decide +kernel : decode c_X10_takesLetters 29 = .ok (.aload_n 0, 1)) rfl rfl rfl, ?_⟩
  refine List.forall_mem_cons.mpr ⟨s_getf C (by decide +kernel : decode c_X10_takesLetters 30 = .ok (.getfield 26, 3)) rfl rfl em_cl_X10 (by decide) ew699 rfl, ?_⟩
  refine List.forall_mem_cons.mpr ⟨s_iload C (by decide +kernel : decode c_X10_takesLetters 33 = .ok (.iload 4, 2)) rfl rfl, ?_⟩
  refine List.forall_mem_cons.mpr ⟨s_iald C (by decide +kernel : decode c_X10_takesLetters 35 = .ok (.iaload, 1)) rfl rfl, ?_⟩
  refine List.forall_mem_cons.mpr ⟨s_bipush C (by decide +kernel : decode c_X10_takesLetters 36 = .ok (.bipush 97, 2)) rfl rfl (by decide), ?_⟩
  refine List.forall_mem_cons.mpr ⟨s_isub C (by decide +kernel : decode c_X10_takesLetters 38 = .ok (.isub, 1)) rfl rfl, ?_⟩
  refine List.forall_mem_cons.mpr ⟨s_istore C (by decide +kernel : decode c_X10_takesLetters 39 = .ok (.istore 5, 2)) rfl rfl (by decide), ?_⟩
  refine List.forall_mem_cons.mpr ⟨s_iload_n C (by decide +kernel : decode c_X10_takesLetters 41 = .ok (.iload_n 3, 1)) rfl rfl rfl, ?_⟩
  refine List.forall_mem_cons.mpr ⟨s_ifeq C (by decide +kernel : decode c_X10_takesLetters 42 = .ok (.ifCond .eq 27, 3)) (by decide) rfl rfl rfl, ?_⟩
  refine List.forall_mem_cons.mpr ⟨s_iload C (by decide +kernel : decode c_X10_takesLetters 45 = .ok (.iload 5, 2)) rfl rfl, ?_⟩
  refine List.forall_mem_cons.mpr ⟨s_i2l C (by decide +kernel : decode c_X10_takesLetters 47 = .ok (.i2l, 1)) rfl rfl, ?_⟩
  refine List.forall_mem_cons.mpr ⟨s_lconst C (by decide +kernel : decode c_X10_takesLetters 48 = .ok (.lconst 0, 1)) rfl rfl (by decide), ?_⟩
  refine List.forall_mem_cons.mpr ⟨s_ldc2 C (by decide +kernel : decode c_X10_takesLetters 49 = .ok (.ldc2_w 138, 3)) rfl rfl ew864, ?_⟩
  refine List.forall_mem_cons.mpr ⟨s_callS C hFok hF (ct_X10_in l D dA σ) ⟨rfl, rfl⟩ ew771 ew769 ew770 ew6 ⟨by decide, by decide, by decide +kernel⟩ ⟨by decide, by decide⟩ (by decide +kernel : decode c_X10_takesLetters 52 = .ok (.invokestatic 69, 3)) rfl rfl ⟨Nat.zero_le _, Nat.zero_le _⟩, ?_⟩
  refine List.forall_mem_cons.mpr ⟨s_ifeq C (by decide +kernel : decode c_X10_takesLetters 55 = .ok (.ifCond .eq 14, 3)) (by decide) rfl rfl rfl, ?_⟩
  refine List.forall_mem_cons.mpr ⟨s_iload_n C (by decide +kernel : decode c_X10_takesLetters 58 = .ok (.iload_n 2, 1)) rfl rfl rfl, ?_⟩
  refine List.forall_mem_cons.mpr ⟨s_iload C (by decide +kernel : decode c_X10_takesLetters 59 = .ok (.iload 5, 2)) rfl rfl, ?_⟩
  refine List.forall_mem_cons.mpr ⟨s_ishr C (by decide +kernel : decode c_X10_takesLetters 61 = .ok (.ishr, 1)) rfl rfl, ?_⟩
  refine List.forall_mem_cons.mpr ⟨s_ifne C (by decide +kernel : decode c_X10_takesLetters 62 = .ok (.ifCond .ne 7, 3)) (by decide) rfl rfl rfl, ?_⟩
  refine List.forall_mem_cons.mpr ⟨s_iconst C (by decide +kernel : decode c_X10_takesLetters 65 = .ok (.iconst 1, 1)) rfl rfl (by decide), ?_⟩
  refine List.forall_mem_cons.mpr ⟨s_goto C (by decide +kernel : decode c_X10_takesLetters 66 = .ok (.goto 4, 3)) (by decide) rfl, ?_⟩
  refine List.forall_mem_cons.mpr ⟨s_iconst C (by decide +kernel : decode c_X10_takesLetters 69 = .ok (.iconst 0, 1)) rfl rfl (by decide), ?_⟩
  refine List.forall_mem_cons.mpr ⟨s_istore_n C (by decide +kernel : decode c_X10_takesLetters 70 = .ok (.istore_n 3, 1)) rfl rfl rfl (by decide), ?_⟩
  refine List.forall_mem_cons.mpr ⟨s_iload_n C (by decide +kernel : decode c_X10_takesLetters 71 = .ok (.iload_n 2, 1)) rfl rfl rfl, ?_⟩
  refine List.forall_mem_cons.mpr ⟨s_iload_n C (by decide +kernel : decode c_X10_takesLetters 72 = .ok (.iload_n 3, 1)) rfl rfl rfl, ?_⟩
  refine List.forall_mem_cons.mpr ⟨s_ifeq C (by decide +kernel : decode c_X10_takesLetters 73 = .ok (.ifCond .eq 10, 3)) (by decide) rfl rfl rfl, ?_⟩
  refine List.forall_mem_cons.mpr ⟨s_iconst C (by decide +kernel : decode c_X10_takesLetters 76 = .ok (.iconst 1, 1)) rfl rfl (by decide), ?_⟩
  refine List.forall_mem_cons.mpr ⟨s_iload C (by decide +kernel : decode c_X10_takesLetters 77 = .ok (.iload 5, 2)) rfl rfl, ?_⟩
  refine List.forall_mem_cons.mpr ⟨s_ishl C (by decide +kernel : decode c_X10_takesLetters 79 = .ok (.ishl, 1)) rfl rfl, ?_⟩
  refine List.forall_mem_cons.mpr ⟨s_goto C (by decide +kernel : decode c_X10_takesLetters 80 = .ok (.goto 4, 3)) (by decide) rfl, ?_⟩
  refine List.forall_mem_cons.mpr ⟨s_iconst C (by decide +kernel : decode c_X10_takesLetters 83 = .ok (.iconst 0, 1)) rfl rfl (by decide), ?_⟩
  refine List.forall_mem_cons.mpr ⟨s_ior C (by decide +kernel : decode c_X10_takesLetters 84 = .ok (.ior, 1)) rfl rfl, ?_⟩
  refine List.forall_mem_cons.mpr ⟨s_istore_n C (by decide +kernel : decode c_X10_takesLetters 85 = .ok (.istore_n 2, 1)) rfl rfl rfl (by decide), ?_⟩
  refine List.forall_mem_cons.mpr ⟨s_iinc C (by decide +kernel : decode c_X10_takesLetters 86 = .ok (.iinc 4 1, 3)) rfl rfl (by decide) (by decide), ?_⟩
  refine List.forall_mem_cons.mpr ⟨s_goto C (by decide +kernel : decode c_X10_takesLetters 89 = .ok (.goto (-69), 3)) (by decide) rfl, ?_⟩
  refine List.forall_mem_cons.mpr ⟨s_aload_n C (by decide +kernel : decode c_X10_takesLetters 92 = .ok (.aload_n 0, 1)) rfl rfl rfl, ?_⟩
  refine List.forall_mem_cons.mpr ⟨s_getf C (by decide +kernel : decode c_X10_takesLetters 93 = .ok (.getfield 106, 3)) rfl rfl em_cl_X10 (by decide) ew701 rfl, ?_⟩
  refine List.forall_mem_cons.mpr ⟨s_aload_n C (by decide +kernel : decode c_X10_takesLetters 96 = .ok (.aload_n 0, 1)) rfl rfl rfl, ?_⟩
  refine List.forall_mem_cons.mpr ⟨s_getf C (by decide +kernel : decode c_X10_takesLetters 97 = .ok (.getfield 112, 3)) rfl rfl em_cl_X10 (by decide) ew702 rfl, ?_⟩
  refine List.forall_mem_cons.mpr ⟨s_isub C (by decide +kernel : decode c_X10_takesLetters 100 = .ok (.isub, 1)) rfl rfl, ?_⟩
  refine List.forall_mem_cons.mpr ⟨s_iconst C (by decide +kernel : decode c_X10_takesLetters 101 = .ok (.iconst 1, 1)) rfl rfl (by decide), ?_⟩
  refine List.forall_mem_cons.mpr ⟨s_icmpne C (by decide +kernel : decode c_X10_takesLetters 102 = .ok (.if_icmp .ne 21, 3)) (by decide) rfl rfl rfl, ?_⟩
  refine List.forall_mem_cons.mpr ⟨s_aload_n C (by decide +kernel : decode c_X10_takesLetters 105 = .ok (.aload_n 0, 1)) rfl rfl rfl, ?_⟩
  refine List.forall_mem_cons.mpr ⟨s_getf C (by decide +kernel : decode c_X10_takesLetters 106 = .ok (.getfield 26, 3)) rfl rfl em_cl_X10 (by decide) ew699 rfl, ?_⟩
  refine List.forall_mem_cons.mpr ⟨s_aload_n C (by decide +kernel : decode c_X10_takesLetters 109 = .ok (.aload_n 0, 1)) rfl rfl rfl, ?_⟩
  refine List.forall_mem_cons.mpr ⟨s_getf C (by decide +kernel : decode c_X10_takesLetters 110 = .ok (.getfield 112, 3)) rfl rfl em_cl_X10 (by decide) ew702 rfl, ?_⟩
  refine List.forall_mem_cons.mpr ⟨s_iald C (by decide +kernel : decode c_X10_takesLetters 113 = .ok (.iaload, 1)) rfl rfl, ?_⟩
  refine List.forall_mem_cons.mpr ⟨s_bipush C (by decide +kernel : decode c_X10_takesLetters 114 = .ok (.bipush 120, 2)) rfl rfl (by decide), ?_⟩
  refine List.forall_mem_cons.mpr ⟨s_icmpne C (by decide +kernel : decode c_X10_takesLetters 116 = .ok (.if_icmp .ne 7, 3)) (by decide) rfl rfl rfl, ?_⟩
  refine List.forall_mem_cons.mpr ⟨s_iconst C (by decide +kernel : decode c_X10_takesLetters 119 = .ok (.iconst 1, 1)) rfl rfl (by decide), ?_⟩
  refine List.forall_mem_cons.mpr ⟨s_goto C (by decide +kernel : decode c_X10_takesLetters 120 = .ok (.goto 4, 3)) (by decide) rfl, ?_⟩
  refine List.forall_mem_cons.mpr ⟨s_iconst C (by decide +kernel : decode c_X10_takesLetters 123 = .ok (.iconst 0, 1)) rfl rfl (by decide), ?_⟩
  refine List.forall_mem_cons.mpr ⟨s_istore C (by decide +kernel : decode c_X10_takesLetters 124 = .ok (.istore 4, 2)) rfl rfl (by decide), ?_⟩
  refine List.forall_mem_cons.mpr ⟨s_iload_n C (by decide +kernel : decode c_X10_takesLetters 126 = .ok (.iload_n 3, 1)) rfl rfl rfl, ?_⟩
  refine List.forall_mem_cons.mpr ⟨s_ifne C (by decide +kernel : decode c_X10_takesLetters 127 = .ok (.ifCond .ne 8, 3)) (by decide) rfl rfl rfl, ?_⟩
  refine List.forall_mem_cons.mpr ⟨s_iload C (by decide +kernel : decode c_X10_takesLetters 130 = .ok (.iload 4, 2)) rfl rfl, ?_⟩
  refine List.forall_mem_cons.mpr ⟨s_ifeq C (by decide +kernel : decode c_X10_takesLetters 132 = .ok (.ifCond .eq 23, 3)) (by decide) rfl rfl rfl, ?_⟩
  refine List.forall_mem_cons.mpr ⟨s_aload_n C (by decide +kernel : decode c_X10_takesLetters 135 = .ok (.aload_n 0, 1)) rfl rfl rfl, ?_⟩
  refine List.forall_mem_cons.mpr ⟨s_getf C (by decide +kernel : decode c_X10_takesLetters 136 = .ok (.getfield 29, 3)) rfl rfl em_cl_X10 (by decide) ew706 rfl, ?_⟩
  refine List.forall_mem_cons.mpr ⟨s_iload_n C (by decide +kernel : decode c_X10_takesLetters 139 = .ok (.iload_n 1, 1)) rfl rfl rfl, ?_⟩
  refine List.forall_mem_cons.mpr ⟨s_iload C (by decide +kernel : decode c_X10_takesLetters 140 = .ok (.iload 4, 2)) rfl rfl, ?_⟩
  refine List.forall_mem_cons.mpr ⟨s_ifeq C (by decide +kernel : decode c_X10_takesLetters 142 = .ok (.ifCond .eq 7, 3)) (by decide) rfl rfl rfl, ?_⟩
  refine List.forall_mem_cons.mpr ⟨s_iconst C (by decide +kernel : decode c_X10_takesLetters 145 = .ok (.iconst 0, 1)) rfl rfl (by decide), ?_⟩
  refine List.forall_mem_cons.mpr ⟨s_goto C (by decide +kernel : decode c_X10_takesLetters 146 = .ok (.goto 4, 3)) (by decide) rfl, ?_⟩
  refine List.forall_mem_cons.mpr ⟨s_iload_n C (by decide +kernel : decode c_X10_takesLetters 149 = .ok (.iload_n 2, 1)) rfl rfl rfl, ?_⟩
  refine List.forall_mem_cons.mpr ⟨s_iast C (by decide +kernel : decode c_X10_takesLetters 150 = .ok (.iastore, 1)) rfl rfl, ?_⟩
  refine List.forall_mem_cons.mpr ⟨s_aload_n C (by decide +kernel : decode c_X10_takesLetters 151 = .ok (.aload_n 0, 1)) rfl rfl rfl, ?_⟩
  refine List.forall_mem_cons.mpr ⟨s_callV C hFok hF (ct_X10_scans l D dA σ) ⟨rfl, rfl⟩ ew845 em_cl_X10 ew842 ew844 ewp20 ew6 ⟨by decide, by decide, by decide +kernel⟩ ⟨by decide, by decide⟩ (by decide +kernel : decode c_X10_takesLetters 152 = .ok (.invokevirtual 140, 3)) rfl rfl ⟨Nat.zero_le _, Nat.zero_le _⟩, ?_⟩
  refine List.forall_mem_cons.mpr ⟨s_iload_n C (by decide +kernel : decode c_X10_takesLetters 155 = .ok (.iload_n 3, 1)) rfl rfl rfl, ?_⟩
  refine List.forall_mem_cons.mpr ⟨s_ifne C (by decide +kernel : decode c_X10_takesLetters 156 = .ok (.ifCond .ne 8, 3)) (by decide) rfl rfl rfl, ?_⟩
  refine List.forall_mem_cons.mpr ⟨s_iload C (by decide +kernel : decode c_X10_takesLetters 159 = .ok (.iload 4, 2)) rfl rfl, ?_⟩
  refine List.forall_mem_cons.mpr ⟨s_ifeq C (by decide +kernel : decode c_X10_takesLetters 161 = .ok (.ifCond .eq 7, 3)) (by decide) rfl rfl rfl, ?_⟩
  refine List.forall_mem_cons.mpr ⟨s_iconst C (by decide +kernel : decode c_X10_takesLetters 164 = .ok (.iconst 1, 1)) rfl rfl (by decide), ?_⟩
  refine List.forall_mem_cons.mpr ⟨s_goto C (by decide +kernel : decode c_X10_takesLetters 165 = .ok (.goto 4, 3)) (by decide) rfl, ?_⟩
  refine List.forall_mem_cons.mpr ⟨s_iconst C (by decide +kernel : decode c_X10_takesLetters 168 = .ok (.iconst 0, 1)) rfl rfl (by decide), ?_⟩
  refine List.forall_mem_cons.mpr ⟨s_zret C (by decide +kernel : decode c_X10_takesLetters 169 = .ok (.ireturn, 1)) hret hlk ⟨Nat.le_refl 0, Nat.le_refl 0⟩, ?_⟩
  exact fun _ h => absurd h List.not_mem_nil
