/-! ===== born; what there is ===== -/
def brM (d : Nat) (x : Int32) (x0 : Int64) : Nat → Int32 × Int64
  | 0 => (x, x0)
  | k + 1 => if d.testBit k = true then ((brM d x x0 k).1 ^^^ (if lg_cmp (lot (nxt (brM d x x0 k).2)) 1 = 0 then nI (2 ^ k) else 0), nxt (brM d x x0 k).2) else brM d x x0 k
def sp_X10_born : em_Sp := fun av hp Q => ∃ B im kp asd rf qt ab be tx ty at9 st9 tk vl wd it mn so sb my we be9 rw fr a b k, av = [.ref 0, .int a, .int b, .int k] ∧ hp = (wM (nB B) im kp asd rf qt ab be tx ty at9 st9 tk vl wd it mn so sb my we be9 rw fr) ∧ GK B ∧ (¬ (h2 (nI (B 0)) a b ∧ sdk k) → Q (some (.int (-2))) (wM (nB B) im kp asd (rfM qt rf 0) qt ab be tx ty at9 st9 tk vl wd it mn so sb my we be9 rw fr)) ∧ (∀ x y, a = nI x → b = nI y → x < B 0 → y < B 0 → x ≠ y → sdk k → Q (some (.int (brM (B (14 + x) ^^^ B (14 + y)) (nI (B (14 + x))) k.toInt64 10).1)) hp)
def T_X10_born : List (Nat × em_Op) := [(0, o_aload 0 1), (1, o_iload 1 2), (2, o_iload 2 3), (3, o_call 3 (some 5) (sp_X10_areTwo) 6), (6, o_ifeq 21 9), (9, o_iload 3 10), (10, o_i2l 11), (11, o_lconst 0 12), (12, o_lconst 999999 15), (15, o_call 3 none (sp_X10_in) 18), (18, o_ifne 26 21), (21, o_aload 0 22), (22, o_call 1 (some 5) (sp_X10_bad) 25), (25, o_iret), (26, o_aload 0 27), (27, o_getf 5 0 30), (30, o_iconst 14 32), (32, o_iload 1 33), (33, o_iadd 34), (34, o_aldI 0 35), (35, o_aload 0 36), (36, o_getf 5 0 39), (39, o_iconst 14 41), (41, o_iload 2 42), (42, o_iadd 43), (43, o_aldI 0 44), (44, o_ixor 45), (45, o_istore 4 47), (47, o_aload 0 48), (48, o_getf 5 0 51), (51, o_iconst 14 53), (53, o_iload 1 54), (54, o_iadd 55), (55, o_aldI 0 56), (56, o_istore 5 58), (58, o_iload 3 59), (59, o_i2l 60), (60, o_lstore 6 62), (62, o_iconst 0 63), (63, o_istore 8 65), (65, o_iload 8 67), (67, o_iconst 10 69), (69, o_icmpge 133 72), (72, o_iload 4 74), (74, o_iload 8 76), (76, o_ishr 77), (77, o_iconst 1 78), (78, o_iand 79), (79, o_iconst 1 80), (80, o_icmpne 127 83), (83, o_lload 6 85), (85, o_lconst 1103515245 88), (88, o_lmul 89), (89, o_lconst 12345 92), (92, o_ladd 93), (93, o_lconst 2147483648 96), (96, o_lrem 97), (97, o_lstore 6 99), (99, o_iload 5 101), (101, o_lload 6 103), (103, o_lconst 65536 106), (106, o_ldiv 107), (107, o_lconst 2 110), (110, o_lrem 111), (111, o_lconst 1 112), (112, o_lcmp 113), (113, o_ifne 123 116), (116, o_iconst 1 117), (117, o_iload 8 119), (119, o_ishl 120), (120, o_goto 124), (123, o_iconst 0 124), (124, o_ixor 125), (125, o_istore 5 127), (127, o_iinc 8 1 130), (130, o_goto 65), (133, o_iload 5 135), (135, o_iret)]
theorem me_X10_born : em_Me T_X10_born 9 sp_X10_born := by
  intro Q K hK hle av hp hs
  obtain ⟨B, im, kp, asd, rf, qt, ab, be, tx, ty, at9, st9, tk, vl, wd, it, mn, so, sb, my, we, be9, rw, fr, a, b, k, rfl, rfl, hB, hbad, hq⟩ := hs
  have h0 := hB.1
  have hT := hB.2.2.2.2.2.2.1
  have bad : ¬ (h2 (nI (B 0)) a b ∧ sdk k) → K 21 [some (.ref 0), some (.int a), some (.int b), some (.int k), none, none, none, none, none] [] (wM (nB B) im kp asd rf qt ab be tx ty at9 st9 tk vl wd it mn so sb my we be9 rw fr) := by
    intro h
    exact hK 11 3 21 _ _ _ ⟨_, _, _, _, _, _, _, _, _, _, _, _, _, _, _, _, _, _, _, _, _, _, _, _, rfl, rfl, hbad h⟩
  have good : ∀ x y, a = nI x → b = nI y → x < B 0 → y < B 0 → x ≠ y → sdk k → K 26 [some (.ref 0), some (.int a), some (.int b), some (.int k), none, none, none, none, none] [] (wM (nB B) im kp asd rf qt ab be tx ty at9 st9 tk vl wd it mn so sb my we be9 rw fr) := by
    intro x y e1 e2 hx hy hxy hk
    subst e1
    subst e2
    have hq := hq x y rfl rfl hx hy hxy hk
    have hd := xor_lt (hT x (by omega)) (hT y (by omega))
    have ed : nI (B (14 + x)) ^^^ nI (B (14 + y)) = nI (B (14 + x) ^^^ B (14 + y)) := nI_xor _ _
    generalize B (14 + x) ^^^ B (14 + y) = d at hq hd ed
    obtain ⟨f, hf⟩ : ∃ f, f = brM d (nI (B (14 + x))) k.toInt64 := ⟨_, rfl⟩
    rw [← hf] at hq
    have loop : ∀ (r s : Nat), s + r = 10 → K 65 [some (.ref 0), some (.int (nI x)), some (.int (nI y)), some (.int k), some (.int (nI d)), some (.int (f s).1), some (.long (f s).2), none, some (.int (nI s))] [] (wM (nB B) im kp asd rf qt ab be tx ty at9 st9 tk vl wd it mn so sb my we be9 rw fr) := by
      intro r
      induction r with
      | zero =>
        intro s hs
        have hs : s = 10 := by omega
        subst hs
        refine hK 40 9999 65 _ _ _ ?_
        exact ⟨fun _ => hq, fun z => absurd (nI_le (a := 10) (b := 10) (by omega) (by omega)) z⟩
      | succ r ih =>
        intro s hs
        have nx : ∀ v w, v = (f (s + 1)).1 → w = (f (s + 1)).2 → K 127 [some (.ref 0), some (.int (nI x)), some (.int (nI y)), some (.int k), some (.int (nI d)), some (.int v), some (.long w), none, some (.int (nI s))] [] (wM (nB B) im kp asd rf qt ab be tx ty at9 st9 tk vl wd it mn so sb my we be9 rw fr) := by
          intro v w h1 h2
          subst h1
          subst h2
          have := ih (s + 1) (by omega)
          rw [← nI_1 s] at this
          exact hK 74 2 127 _ _ _ this
        have fe : f (s + 1) = if d.testBit s = true then ((f s).1 ^^^ (if lg_cmp (lot (nxt (f s).2)) 1 = 0 then nI (2 ^ s) else 0), nxt (f s).2) else f s := by rw [hf, brM]
        refine hK 40 32 65 _ _ _ ?_
        refine ⟨fun z => absurd z (nI_ge (a := s) (b := 10) (by omega) (by omega)), fun _ => ?_⟩
        refine ⟨fun z => ?_, fun z => ?_⟩
        · have z : ¬ d.testBit s = true := fun q => z ((bit1 (by omega) (by omega)).mpr q)
          rw [if_neg z] at fe
          exact nx _ _ (by rw [fe]) (by rw [fe])
        · have z := (bit1 (by omega) (by omega)).mp z
          rw [if_pos z] at fe
          have e1 : (f (s + 1)).1 = (f s).1 ^^^ (if lg_cmp (lot (nxt (f s).2)) 1 = 0 then nI (2 ^ s) else 0) := by rw [fe]
          have e2 : (f (s + 1)).2 = nxt (f s).2 := by rw [fe]
          have last : ∀ v, (f s).1 ^^^ v = (f (s + 1)).1 → K 124 [some (.ref 0), some (.int (nI x)), some (.int (nI y)), some (.int k), some (.int (nI d)), some (.int (f s).1), some (.long (nxt (f s).2)), none, some (.int (nI s))] [.int v, .int (f s).1] (wM (nB B) im kp asd rf qt ab be tx ty at9 st9 tk vl wd it mn so sb my we be9 rw fr) := by
            intro v hv
            exact hK 72 2 124 _ _ _ (nx _ _ hv e2.symm)
          refine ⟨by decide, by decide, by decide, fun y => ?_, fun y => ?_⟩
          · have y : ¬ lg_cmp (lot (nxt (f s).2)) 1 = 0 := y
            rw [if_neg y] at e1
            exact last _ e1.symm
          · have y : lg_cmp (lot (nxt (f s).2)) 1 = 0 := y
            rw [if_pos y, ← shl_nI s (by omega)] at e1
            exact last _ e1.symm
    have l0 := loop 10 0 (by omega)
    have f0 : f 0 = (nI (B (14 + x)), k.toInt64) := by rw [hf]; rfl
    rw [f0, ← ed] at l0
    refine hK 14 26 26 _ _ _ ?_
    exact ⟨14 + x, nI_add 14 x, by omega, 14 + y, nI_add 14 y, by omega, 14 + x, nI_add 14 x, by omega, l0⟩
  refine ⟨Nat.le_of_ble_eq_true rfl, hK 0 11 0 _ _ _ ?_⟩
  refine ⟨_, _, _, _, _, _, _, _, _, _, _, _, _, _, _, _, _, _, _, _, _, _, _, _, _, _, B 0, rfl, rfl, rfl, h0, fun z => ?_, fun z => ?_⟩
  · refine ⟨fun u => absurd u (by decide), fun _ => ?_⟩
    obtain ⟨x, hx, ex⟩ := nI_at rfl z.1
    obtain ⟨y, hy, ey⟩ := nI_at rfl z.2.1
    have hxy : x ≠ y := fun q => z.2.2 (by rw [ex, ey, q])
    refine ⟨_, _, _, rfl, fun z3 => ?_, fun z3 => ?_⟩
    · exact ⟨fun _ => good x y ex ey hx hy hxy (in_seed.mp z3), fun u => absurd u (by decide)⟩
    · exact ⟨fun u => absurd rfl u, fun _ => bad (fun q => z3 (in_seed.mpr q.2))⟩
  · exact ⟨fun _ => bad (fun q => z q.1), fun u => absurd rfl u⟩
abbrev rm_X10_born : Room := { frames := 3, cells := 0, slots := 0, locals := 68 }
set_option maxRecDepth 100000 in
set_option maxHeartbeats 4000000 in
theorem ct_X10_born (l : Launch) (D : va_G) (dA : Nat → ClassId) (σ : Nat → Nat) : em_CT l D em_cl dA σ (em_F σ) y_X10_born c_X10_born 9 (Option.some ClassFile.FieldType.int) rm_X10_born (sp_X10_born ) := by
  refine em_CT_of (T := T_X10_born ) (em_F_ok σ) (by decide) (fun p e s m args below meth c A ρ Q C hFok hF hret hlk hin => ?_) (me_X10_born )
  unfold T_X10_born
  refine List.forall_mem_cons.mpr ⟨s_aload_n C (by decide +kernel : decode c_X10_born 0 = .ok (.aload_n 0, 1)) rfl rfl rfl, ?_⟩
  refine List.forall_mem_cons.mpr ⟨s_iload_n C (by decide +kernel : decode c_X10_born 1 = .ok (.iload_n 1, 1)) rfl rfl rfl, ?_⟩
  refine List.forall_mem_cons.mpr ⟨s_iload_n C (by decide +kernel : decode c_X10_born 2 = .ok (.iload_n 2, 1)) rfl rfl rfl, ?_⟩
  refine List.forall_mem_cons.mpr ⟨s_callV C hFok hF (ct_X10_areTwo l D dA σ) ⟨rfl, rfl⟩ ew820 em_cl_X10 ew817 ew819 ewp18 ew6 ⟨by decide, by decide, by decide +kernel⟩ ⟨by decide, by decide⟩ (by decide +kernel : decode c_X10_born 3 = .ok (.invokevirtual 96, 3)) rfl rfl ⟨Nat.zero_le _, Nat.zero_le _⟩, ?_⟩
  refine List.forall_mem_cons.mpr ⟨s_ifeq C (by decide +kernel : decode c_X10_born 6 = .ok (.ifCond .eq 15, 3)) (by decide) rfl rfl rfl, ?_⟩
  refine List.forall_mem_cons.mpr ⟨s_iload_n C (by decide +kernel : decode c_X10_born 9 = .ok (.iload_n 3, 1)) rfl rfl rfl, ?_⟩
  refine List.forall_mem_cons.mpr ⟨s_i2l C (by decide +kernel : decode c_X10_born 10 = .ok (.i2l, 1)) rfl rfl, ?_⟩
  refine List.forall_mem_cons.mpr ⟨s_lconst C (by decide +kernel : decode c_X10_born 11 = .ok (.lconst 0, 1)) rfl rfl (by decide), ?_⟩
  refine List.forall_mem_cons.mpr ⟨s_ldc2 C (by decide +kernel : decode c_X10_born 12 = .ok (.ldc2_w 243, 3)) rfl rfl ew1040, ?_⟩
  refine List.forall_mem_cons.mpr ⟨s_callS C hFok hF (ct_X10_in l D dA σ) ⟨rfl, rfl⟩ ew771 ew769 ew770 ew6 ⟨by decide, by decide, by decide +kernel⟩ ⟨by decide, by decide⟩ (by decide +kernel : decode c_X10_born 15 = .ok (.invokestatic 69, 3)) rfl rfl ⟨Nat.zero_le _, Nat.zero_le _⟩, ?_⟩
  refine List.forall_mem_cons.mpr ⟨s_ifne C (by decide +kernel : decode c_X10_born 18 = .ok (.ifCond .ne 8, 3)) (by decide) rfl rfl rfl, ?_⟩
  refine List.forall_mem_cons.mpr ⟨s_aload_n C (by decide +kernel : decode c_X10_born 21 = .ok (.aload_n 0, 1)) rfl rfl rfl, ?_⟩
  refine List.forall_mem_cons.mpr ⟨s_callV C hFok hF (ct_X10_bad l D dA σ) ⟨rfl, rfl⟩ ew779 em_cl_X10 ew776 ew778 ewp13 ew6 ⟨by decide, by decide, by decide +kernel⟩ ⟨by decide, by decide⟩ (by decide +kernel : decode c_X10_born 22 = .ok (.invokevirtual 84, 3)) rfl rfl ⟨Nat.zero_le _, Nat.zero_le _⟩, ?_⟩
  refine List.forall_mem_cons.mpr ⟨s_iret C (by decide +kernel : decode c_X10_born 25 = .ok (.ireturn, 1)) hret hlk ⟨Nat.le_refl 0, Nat.le_refl 0⟩, ?_⟩
  refine List.forall_mem_cons.mpr ⟨s_aload_n C (by decide +kernel : decode c_X10_born 26 = .ok (.aload_n 0, 1)) rfl rfl rfl, ?_⟩
  refine List.forall_mem_cons.mpr ⟨s_getf C (by decide +kernel : decode c_X10_born 27 = .ok (.getfield 7, 3)) rfl rfl em_cl_X10 (by decide) ew691 rfl, ?_⟩
  refine List.forall_mem_cons.mpr ⟨s_bipush C (by decide +kernel : decode c_X10_born 30 = .ok (.bipush 14, 2)) rfl rfl (by decide), ?_⟩
  refine List.forall_mem_cons.mpr ⟨s_iload_n C (by decide +kernel : decode c_X10_born 32 = .ok (.iload_n 1, 1)) rfl rfl rfl, ?_⟩
  refine List.forall_mem_cons.mpr ⟨s_iadd C (by decide +kernel : decode c_X10_born 33 = .ok (.iadd, 1)) rfl rfl, ?_⟩
  refine List.forall_mem_cons.mpr ⟨s_iald C (by decide +kernel : decode c_X10_born 34 = .ok (.iaload, 1)) rfl rfl, ?_⟩
  refine List.forall_mem_cons.mpr ⟨s_aload_n C (by decide +kernel : decode c_X10_born 35 = .ok (.aload_n 0, 1)) rfl rfl rfl, ?_⟩
  refine List.forall_mem_cons.mpr ⟨s_getf C (by decide +kernel : decode c_X10_born 36 = .ok (.getfield 7, 3)) rfl rfl em_cl_X10 (by decide) ew691 rfl, ?_⟩
  refine List.forall_mem_cons.mpr ⟨s_bipush C (by decide +kernel : decode c_X10_born 39 = .ok (.bipush 14, 2)) rfl rfl (by decide), ?_⟩
  refine List.forall_mem_cons.mpr ⟨s_iload_n C (by decide +kernel : decode c_X10_born 41 = .ok (.iload_n 2, 1)) rfl rfl rfl, ?_⟩
  refine List.forall_mem_cons.mpr ⟨s_iadd C (by decide +kernel : decode c_X10_born 42 = .ok (.iadd, 1)) rfl rfl, ?_⟩
  refine List.forall_mem_cons.mpr ⟨s_iald C (by decide +kernel : decode c_X10_born 43 = .ok (.iaload, 1)) rfl rfl, ?_⟩
  refine List.forall_mem_cons.mpr ⟨s_ixor C (by decide +kernel : decode c_X10_born 44 = .ok (.ixor, 1)) rfl rfl, ?_⟩
  refine List.forall_mem_cons.mpr ⟨s_istore C (by decide +kernel : decode c_X10_born 45 = .ok (.istore 4, 2)) rfl rfl (by decide), ?_⟩
  refine List.forall_mem_cons.mpr ⟨s_aload_n C (by decide +kernel : decode c_X10_born 47 = .ok (.aload_n 0, 1)) rfl rfl rfl, ?_⟩
  refine List.forall_mem_cons.mpr ⟨s_getf C (by decide +kernel : decode c_X10_born 48 = .ok (.getfield 7, 3)) rfl rfl em_cl_X10 (by decide) ew691 rfl, ?_⟩
  refine List.forall_mem_cons.mpr ⟨s_bipush C (by decide +kernel : decode c_X10_born 51 = .ok (.bipush 14, 2)) rfl rfl (by decide), ?_⟩
  refine List.forall_mem_cons.mpr ⟨s_iload_n C (by decide +kernel : decode c_X10_born 53 = .ok (.iload_n 1, 1)) rfl rfl rfl, ?_⟩
  refine List.forall_mem_cons.mpr ⟨s_iadd C (by decide +kernel : decode c_X10_born 54 = .ok (.iadd, 1)) rfl rfl, ?_⟩
  refine List.forall_mem_cons.mpr ⟨s_iald C (by decide +kernel : decode c_X10_born 55 = .ok (.iaload, 1)) rfl rfl, ?_⟩
  refine List.forall_mem_cons.mpr ⟨s_istore C (by decide +kernel : decode c_X10_born 56 = .ok (.istore 5, 2)) rfl rfl (by decide), ?_⟩
  refine List.forall_mem_cons.mpr ⟨s_iload_n C (by decide +kernel : decode c_X10_born 58 = .ok (.iload_n 3, 1)) rfl rfl rfl, ?_⟩
  refine List.forall_mem_cons.mpr ⟨s_i2l C (by decide +kernel : decode c_X10_born 59 = .ok (.i2l, 1)) rfl rfl, ?_⟩
  refine List.forall_mem_cons.mpr ⟨s_lstore C (by decide +kernel : decode c_X10_born 60 = .ok (.lstore 6, 2)) rfl rfl (by decide), ?_⟩
  refine List.forall_mem_cons.mpr ⟨s_iconst C (by decide +kernel : decode c_X10_born 62 = .ok (.iconst 0, 1)) rfl rfl (by decide), ?_⟩
  refine List.forall_mem_cons.mpr ⟨s_istore C (by decide +kernel : decode c_X10_born 63 = .ok (.istore 8, 2)) rfl rfl (by decide), ?_⟩
  refine List.forall_mem_cons.mpr ⟨s_iload C (by decide +kernel : decode c_X10_born 65 = .ok (.iload 8, 2)) rfl rfl, ?_⟩
  refine List.forall_mem_cons.mpr ⟨s_bipush C (by decide +kernel : decode c_X10_born 67 = .ok (.bipush 10, 2)) rfl rfl (by decide), ?_⟩
  refine List.forall_mem_cons.mpr ⟨s_icmpge C (by decide +kernel : decode c_X10_born 69 = .ok (.if_icmp .ge 64, 3)) (by decide) rfl rfl rfl, ?_⟩
  refine List.forall_mem_cons.mpr ⟨s_iload C (by decide +kernel : decode c_X10_born 72 = .ok (.iload 4, 2)) rfl rfl, ?_⟩
  refine List.forall_mem_cons.mpr ⟨s_iload C (by decide +kernel : decode c_X10_born 74 = .ok (.iload 8, 2)) rfl rfl, ?_⟩
  refine List.forall_mem_cons.mpr ⟨s_ishr C (by decide +kernel : decode c_X10_born 76 = .ok (.ishr, 1)) rfl rfl, ?_⟩
  refine List.forall_mem_cons.mpr ⟨s_iconst C (by decide +kernel : decode c_X10_born 77 = .ok (.iconst 1, 1)) rfl rfl (by decide), ?_⟩
  refine List.forall_mem_cons.mpr ⟨s_iand C (by decide +kernel : decode c_X10_born 78 = .ok (.iand, 1)) rfl rfl, ?_⟩
  refine List.forall_mem_cons.mpr ⟨s_iconst C (by decide +kernel : decode c_X10_born 79 = .ok (.iconst 1, 1)) rfl rfl (by decide), ?_⟩
  refine List.forall_mem_cons.mpr ⟨s_icmpne C (by decide +kernel : decode c_X10_born 80 = .ok (.if_icmp .ne 47, 3)) (by decide) rfl rfl rfl, ?_⟩
  refine List.forall_mem_cons.mpr ⟨s_lload C (by decide +kernel : decode c_X10_born 83 = .ok (.lload 6, 2)) rfl rfl, ?_⟩
  refine List.forall_mem_cons.mpr ⟨s_ldc2 C (by decide +kernel : decode c_X10_born 85 = .ok (.ldc2_w 245, 3)) rfl rfl ew1041, ?_⟩
  refine List.forall_mem_cons.mpr ⟨s_lmul C (by decide +kernel : decode c_X10_born 88 = .ok (.lmul, 1)) rfl rfl, ?_⟩
  refine List.forall_mem_cons.mpr ⟨s_ldc2 C (by decide +kernel : decode c_X10_born 89 = .ok (.ldc2_w 247, 3)) rfl rfl ew1042, ?_⟩
  refine List.forall_mem_cons.mpr ⟨s_ladd C (by decide +kernel : decode c_X10_born 92 = .ok (.ladd, 1)) rfl rfl, ?_⟩
  refine List.forall_mem_cons.mpr ⟨s_ldc2 C (by decide +kernel : decode c_X10_born 93 = .ok (.ldc2_w 249, 3)) rfl rfl ew1043, ?_⟩
  refine List.forall_mem_cons.mpr ⟨s_lrem C (by decide +kernel : decode c_X10_born 96 = .ok (.lrem, 1)) rfl rfl, ?_⟩
  refine List.forall_mem_cons.mpr ⟨s_lstore C (by decide +kernel : decode c_X10_born 97 = .ok (.lstore 6, 2)) rfl rfl (by decide), ?_⟩
  refine List.forall_mem_cons.mpr ⟨s_iload C (by decide +kernel : decode c_X10_born 99 = .ok (.iload 5, 2)) rfl rfl, ?_⟩
  refine List.forall_mem_cons.mpr ⟨s_lload C (by decide +kernel : decode c_X10_born 101 = .ok (.lload 6, 2)) rfl rfl, ?_⟩
  refine List.forall_mem_cons.mpr ⟨s_ldc2 C (by decide +kernel : decode c_X10_born 103 = .ok (.ldc2_w 251, 3)) rfl rfl ew1044, ?_⟩
  refine List.forall_mem_cons.mpr ⟨s_ldiv C (by decide +kernel : decode c_X10_born 106 = .ok (.ldiv, 1)) rfl rfl, ?_⟩
  refine List.forall_mem_cons.mpr ⟨s_ldc2 C (by decide +kernel : decode c_X10_born 107 = .ok (.ldc2_w 253, 3)) rfl rfl ew1045, ?_⟩
  refine List.forall_mem_cons.mpr ⟨s_lrem C (by decide +kernel : decode c_X10_born 110 = .ok (.lrem, 1)) rfl rfl, ?_⟩
  refine List.forall_mem_cons.mpr ⟨s_lconst C (by decide +kernel : decode c_X10_born 111 = .ok (.lconst 1, 1)) rfl rfl (by decide), ?_⟩
  refine List.forall_mem_cons.mpr ⟨s_lcmp C (by decide +kernel : decode c_X10_born 112 = .ok (.lcmp, 1)) rfl rfl, ?_⟩
  refine List.forall_mem_cons.mpr ⟨s_ifne C (by decide +kernel : decode c_X10_born 113 = .ok (.ifCond .ne 10, 3)) (by decide) rfl rfl rfl, ?_⟩
  refine List.forall_mem_cons.mpr ⟨s_iconst C (by decide +kernel : decode c_X10_born 116 = .ok (.iconst 1, 1)) rfl rfl (by decide), ?_⟩
  refine List.forall_mem_cons.mpr ⟨s_iload C (by decide +kernel : decode c_X10_born 117 = .ok (.iload 8, 2)) rfl rfl, ?_⟩
  refine List.forall_mem_cons.mpr ⟨s_ishl C (by decide +kernel : decode c_X10_born 119 = .ok (.ishl, 1)) rfl rfl, ?_⟩
  refine List.forall_mem_cons.mpr ⟨s_goto C (by decide +kernel : decode c_X10_born 120 = .ok (.goto 4, 3)) (by decide) rfl, ?_⟩
  refine List.forall_mem_cons.mpr ⟨s_iconst C (by decide +kernel : decode c_X10_born 123 = .ok (.iconst 0, 1)) rfl rfl (by decide), ?_⟩
  refine List.forall_mem_cons.mpr ⟨s_ixor C (by decide +kernel : decode c_X10_born 124 = .ok (.ixor, 1)) rfl rfl, ?_⟩
  refine List.forall_mem_cons.mpr ⟨s_istore C (by decide +kernel : decode c_X10_born 125 = .ok (.istore 5, 2)) rfl rfl (by decide), ?_⟩
  refine List.forall_mem_cons.mpr ⟨s_iinc C (by decide +kernel : decode c_X10_born 127 = .ok (.iinc 8 1, 3)) rfl rfl (by decide) (by decide), ?_⟩
  refine List.forall_mem_cons.mpr ⟨s_goto C (by decide +kernel : decode c_X10_born 130 = .ok (.goto (-65), 3)) (by decide) rfl, ?_⟩
  refine List.forall_mem_cons.mpr ⟨s_iload C (by decide +kernel : decode c_X10_born 133 = .ok (.iload 5, 2)) rfl rfl, ?_⟩
  refine List.forall_mem_cons.mpr ⟨s_iret C (by decide +kernel : decode c_X10_born 135 = .ok (.ireturn, 1)) hret hlk ⟨Nat.le_refl 0, Nat.le_refl 0⟩, ?_⟩
  exact fun _ h => absurd h List.not_mem_nil
def sp_X10_part : em_Sp := fun av hp Q => ∃ bk im kp asd rf qt ab be tx ty at9 st9 tk vl wd it mn so sb my we be9 rw fr k, av = [.ref 0, .int k] ∧ hp = (wM bk im kp asd rf qt ab be tx ty at9 st9 tk vl wd it mn so sb my we be9 rw fr) ∧ (¬ k = 0 → ¬ k = 1 → Q (some (.long (Int32.toInt64 (-2)))) (wM bk im kp asd (rfM qt rf 0) qt ab be tx ty at9 st9 tk vl wd it mn so sb my we be9 rw fr)) ∧ (k = 0 → Q (some (.long ab)) hp) ∧ (k = 1 → Q (some (.long be)) hp)
def T_X10_part : List (Nat × em_Op) := [(0, o_iload 1 1), (1, o_ifne 11 4), (4, o_aload 0 5), (5, o_getf 5 6 8), (8, o_goto 28), (11, o_iload 1 12), (12, o_iconst 1 13), (13, o_icmpne 23 16), (16, o_aload 0 17), (17, o_getf 5 7 20), (20, o_goto 28), (23, o_aload 0 24), (24, o_call 1 (some 5) (sp_X10_bad) 27), (27, o_i2l 28), (28, o_lret)]
theorem me_X10_part : em_Me T_X10_part 2 sp_X10_part := by
  intro Q K hK hle av hp hs
  obtain ⟨bk, im, kp, asd, rf, qt, ab, be, tx, ty, at9, st9, tk, vl, wd, it, mn, so, sb, my, we, be9, rw, fr, k, rfl, rfl, hbad, hq0, hq1⟩ := hs
  refine ⟨Nat.le_of_ble_eq_true rfl, hK 0 9999 0 _ _ _ ?_⟩
  exact ⟨fun z => ⟨fun y => ⟨_, _, _, _, _, _, _, _, _, _, _, _, _, _, _, _, _, _, _, _, _, _, _, _, rfl, rfl, hbad z y⟩, fun y => hq1 y⟩, fun z => hq0 z⟩
abbrev rm_X10_part : Room := { frames := 2, cells := 0, slots := 0, locals := 42 }
set_option maxRecDepth 100000 in
set_option maxHeartbeats 4000000 in
theorem ct_X10_part (l : Launch) (D : va_G) (dA : Nat → ClassId) (σ : Nat → Nat) : em_CT l D em_cl dA σ (em_F σ) y_X10_part c_X10_part 2 (Option.some ClassFile.FieldType.long) rm_X10_part (sp_X10_part ) := by
  refine em_CT_of (T := T_X10_part ) (em_F_ok σ) (by decide) (fun p e s m args below meth c A ρ Q C hFok hF hret hlk hin => ?_) (me_X10_part )
  unfold T_X10_part
  refine List.forall_mem_cons.mpr ⟨s_iload_n C (by decide +kernel : decode c_X10_part 0 = .ok (.iload_n 1, 1)) rfl rfl rfl, ?_⟩
  refine List.forall_mem_cons.mpr ⟨s_ifne C (by decide +kernel : decode c_X10_part 1 = .ok (.ifCond .ne 10, 3)) (by decide) rfl rfl rfl, ?_⟩
  refine List.forall_mem_cons.mpr ⟨s_aload_n C (by decide +kernel : decode c_X10_part 4 = .ok (.aload_n 0, 1)) rfl rfl rfl, ?_⟩
  refine List.forall_mem_cons.mpr ⟨s_getf C (by decide +kernel : decode c_X10_part 5 = .ok (.getfield 240, 3)) rfl rfl em_cl_X10 (by decide) ew697 rfl, ?_⟩
  refine List.forall_mem_cons.mpr ⟨s_goto C (by decide +kernel : decode c_X10_part 8 = .ok (.goto 20, 3)) (by decide) rfl, ?_⟩
  refine List.forall_mem_cons.mpr ⟨s_iload_n C (by decide +kernel : decode c_X10_part 11 = .ok (.iload_n 1, 1)) rfl rfl rfl, ?_⟩
  refine List.forall_mem_cons.mpr ⟨s_iconst C (by decide +kernel : decode c_X10_part 12 = .ok (.iconst 1, 1)) rfl rfl (by decide), ?_⟩
  refine List.forall_mem_cons.mpr ⟨s_icmpne C (by decide +kernel : decode c_X10_part 13 = .ok (.if_icmp .ne 10, 3)) (by decide) rfl rfl rfl, ?_⟩
  refine List.forall_mem_cons.mpr ⟨s_aload_n C (by decide +kernel : decode c_X10_part 16 = .ok (.aload_n 0, 1)) rfl rfl rfl, ?_⟩
  refine List.forall_mem_cons.mpr ⟨s_getf C (by decide +kernel : decode c_X10_part 17 = .ok (.getfield 54, 3)) rfl rfl em_cl_X10 (by decide) ew698 rfl, ?_⟩
  refine List.forall_mem_cons.mpr ⟨s_goto C (by decide +kernel : decode c_X10_part 20 = .ok (.goto 8, 3)) (by decide) rfl, ?_⟩
  refine List.forall_mem_cons.mpr ⟨s_aload_n C (by decide +kernel : decode c_X10_part 23 = .ok (.aload_n 0, 1)) rfl rfl rfl, ?_⟩
  refine List.forall_mem_cons.mpr ⟨s_callV C hFok hF (ct_X10_bad l D dA σ) ⟨rfl, rfl⟩ ew779 em_cl_X10 ew776 ew778 ewp13 ew6 ⟨by decide, by decide, by decide +kernel⟩ ⟨by decide, by decide⟩ (by decide +kernel : decode c_X10_part 24 = .ok (.invokevirtual 84, 3)) rfl rfl ⟨Nat.zero_le _, Nat.zero_le _⟩, ?_⟩
  refine List.forall_mem_cons.mpr ⟨s_i2l C (by decide +kernel : decode c_X10_part 27 = .ok (.i2l, 1)) rfl rfl, ?_⟩
  refine List.forall_mem_cons.mpr ⟨s_lret C (by decide +kernel : decode c_X10_part 28 = .ok (.lreturn, 1)) hret hlk ⟨Nat.le_refl 0, Nat.le_refl 0⟩, ?_⟩
  exact fun _ h => absurd h List.not_mem_nil
def sp_X10_status : em_Sp := fun av hp Q => ∃ bk im kp asd rf qt ab be tx ty at9 st9 tk vl wd it mn so sb my we be9 rw fr k, av = [.ref 0, .int k] ∧ hp = (wM bk im kp asd rf qt ab be tx ty at9 st9 tk vl wd it mn so sb my we be9 rw fr) ∧ (¬ (¬ k < 0 ∧ k < 3) → Q (some (.int (-1))) (wM bk im kp asd (rfM qt rf 0) qt ab be tx ty at9 st9 tk vl wd it mn so sb my we be9 rw fr)) ∧ (∀ j, k = nI j → j < 3 → Q (some (.int (rf j))) hp)
def T_X10_status : List (Nat × em_Op) := [(0, o_iload 1 1), (1, o_i2l 2), (2, o_lconst 0 3), (3, o_lconst 2 6), (6, o_call 3 none (sp_X10_in) 9), (9, o_ifeq 21 12), (12, o_aload 0 13), (13, o_getf 5 4 16), (16, o_iload 1 17), (17, o_aldI 0 18), (18, o_goto 27), (21, o_aload 0 22), (22, o_iconst 0 23), (23, o_iconst (-1) 24), (24, o_call 3 (some 5) (sp_X10_refuses) 27), (27, o_iret)]
theorem me_X10_status : em_Me T_X10_status 2 sp_X10_status := by
  intro Q K hK hle av hp hs
  obtain ⟨bk, im, kp, asd, rf, qt, ab, be, tx, ty, at9, st9, tk, vl, wd, it, mn, so, sb, my, we, be9, rw, fr, k, rfl, rfl, hbad, hq⟩ := hs
  refine ⟨Nat.le_of_ble_eq_true rfl, hK 0 9999 0 _ _ _ ?_⟩
  refine ⟨_, _, _, rfl, fun z => ?_, fun z => ?_⟩
  · have z := in_02.mp z
    obtain ⟨j, hj, e⟩ := nI_of z.1
    subst e
    have h3 : j < 3 := by
      rcases Nat.lt_or_ge j 3 with q | q
      · exact q
      · exact absurd z.2 (nI_nlt (b := 3) q hj)
    exact ⟨fun u => absurd u (by decide), fun _ => ⟨j, rfl, h3, hq j rfl h3⟩⟩
  · exact ⟨fun _ => ⟨_, _, _, _, _, _, _, _, _, _, _, _, _, _, _, _, _, _, _, _, _, _, _, _, 0, _, rfl, rfl, by decide, hbad (fun q => z (in_02.mpr q))⟩, fun u => absurd rfl u⟩
abbrev rm_X10_status : Room := { frames := 1, cells := 0, slots := 0, locals := 25 }
set_option maxRecDepth 100000 in
set_option maxHeartbeats 4000000 in
theorem ct_X10_status (l : Launch) (D : va_G) (dA : Nat → ClassId) (σ : Nat → Nat) : em_CT l D em_cl dA σ (em_F σ) y_X10_status c_X10_status 2 (Option.some ClassFile.FieldType.int) rm_X10_status (sp_X10_status ) := by
  refine em_CT_of (T := T_X10_status ) (em_F_ok σ) (by decide) (fun p e s m args below meth c A ρ Q C hFok hF hret hlk hin => ?_) (me_X10_status )
  unfold T_X10_status
  refine List.forall_mem_cons.mpr ⟨s_iload_n C (by decide +kernel : decode c_X10_status 0 = .ok (.iload_n 1, 1)) rfl rfl rfl, ?_⟩
  refine List.forall_mem_cons.mpr ⟨s_i2l C (by decide +kernel : decode c_X10_status 1 = .ok (.i2l, 1)) rfl rfl, ?_⟩
  refine List.forall_mem_cons.mpr ⟨s_lconst C (by decide +kernel : decode c_X10_status 2 = .ok (.lconst 0, 1)) rfl rfl (by decide), ?_⟩
  refine List.forall_mem_cons.mpr ⟨s_ldc2 C (by decide +kernel : decode c_X10_status 3 = .ok (.ldc2_w 253, 3)) rfl rfl ew1045, ?_⟩
  refine List.forall_mem_cons.mpr ⟨s_callS C hFok hF (ct_X10_in l D dA σ) ⟨rfl, rfl⟩ ew771 ew769 ew770 ew6 ⟨by decide, by decide, by decide +kernel⟩ ⟨by decide, by decide⟩ (by decide +kernel : decode c_X10_status 6 = .ok (.invokestatic 69, 3)) rfl rfl ⟨Nat.zero_le _, Nat.zero_le _⟩, ?_⟩
  refine List.forall_mem_cons.mpr ⟨s_ifeq C (by decide +kernel : decode c_X10_status 9 = .ok (.ifCond .eq 12, 3)) (by decide) rfl rfl rfl, ?_⟩
  refine List.forall_mem_cons.mpr ⟨s_aload_n C (by decide +kernel : decode c_X10_status 12 = .ok (.aload_n 0, 1)) rfl rfl rfl, ?_⟩
  refine List.forall_mem_cons.mpr ⟨s_getf C (by decide +kernel : decode c_X10_status 13 = .ok (.getfield 23, 3)) rfl rfl em_cl_X10 (by decide) ew695 rfl, ?_⟩
  refine List.forall_mem_cons.mpr ⟨s_iload_n C (by decide +kernel : decode c_X10_status 16 = .ok (.iload_n 1, 1)) rfl rfl rfl, ?_⟩
  refine List.forall_mem_cons.mpr ⟨s_iald C (by decide +kernel : decode c_X10_status 17 = .ok (.iaload, 1)) rfl rfl, ?_⟩
  refine List.forall_mem_cons.mpr ⟨s_goto C (by decide +kernel : decode c_X10_status 18 = .ok (.goto 9, 3)) (by decide) rfl, ?_⟩
  refine List.forall_mem_cons.mpr ⟨s_aload_n C (by decide +kernel : decode c_X10_status 21 = .ok (.aload_n 0, 1)) rfl rfl rfl, ?_⟩
  refine List.forall_mem_cons.mpr ⟨s_iconst C (by decide +kernel : decode c_X10_status 22 = .ok (.iconst 0, 1)) rfl rfl (by decide), ?_⟩
  refine List.forall_mem_cons.mpr ⟨s_iconst C (by decide +kernel : decode c_X10_status 23 = .ok (.iconst (-1), 1)) rfl rfl (by decide), ?_⟩
  refine List.forall_mem_cons.mpr ⟨s_callV C hFok hF (ct_X10_refuses l D dA σ) ⟨rfl, rfl⟩ ew783 em_cl_X10 ew780 ew782 ewp14 ew6 ⟨by decide, by decide, by decide +kernel⟩ ⟨by decide, by decide⟩ (by decide +kernel : decode c_X10_status 24 = .ok (.invokevirtual 65, 3)) rfl rfl ⟨Nat.zero_le _, Nat.zero_le _⟩, ?_⟩
  refine List.forall_mem_cons.mpr ⟨s_iret C (by decide +kernel : decode c_X10_status 27 = .ok (.ireturn, 1)) hret hlk ⟨Nat.le_refl 0, Nat.le_refl 0⟩, ?_⟩
  exact fun _ h => absurd h List.not_mem_nil
def hmM (bk : Nat → Int32) (ty : Int32) (k : Nat) : Int32 := if k < 5 then bk k else ty
def sp_X10_countOf : em_Sp := fun av hp Q => ∃ bk im kp asd rf qt ab be tx ty at9 st9 tk vl wd it mn so sb my we be9 rw fr k, av = [.ref 0, .int (nI k)] ∧ hp = (wM bk im kp asd rf qt ab be tx ty at9 st9 tk vl wd it mn so sb my we be9 rw fr) ∧ k < 6 ∧ Q (some (.int (hmM bk ty k))) hp
def T_X10_countOf : List (Nat × em_Op) := [(0, o_iload 1 1), (1, o_iconst 5 2), (2, o_icmpge 14 5), (5, o_aload 0 6), (6, o_getf 5 0 9), (9, o_iload 1 10), (10, o_aldI 0 11), (11, o_goto 18), (14, o_aload 0 15), (15, o_getf 5 9 18), (18, o_iret)]
theorem me_X10_countOf : em_Me T_X10_countOf 2 sp_X10_countOf := by
  intro Q K hK hle av hp hs
  obtain ⟨bk, im, kp, asd, rf, qt, ab, be, tx, ty, at9, st9, tk, vl, wd, it, mn, so, sb, my, we, be9, rw, fr, k, rfl, rfl, hk, hq⟩ := hs
  refine ⟨Nat.le_of_ble_eq_true rfl, hK 0 9999 0 _ _ _ ?_⟩
  refine ⟨fun z => ?_, fun z => ?_⟩
  · have z := (nI_leI (a := 5) (b := k) (by omega) (by omega)).mp z
    rw [hmM, if_neg (by omega)] at hq
    exact hq
  · have z : k < 5 := by
      rcases Nat.lt_or_ge k 5 with q | q
      · exact q
      · exact absurd (nI_le (a := 5) q (by omega)) z
    rw [hmM, if_pos z] at hq
    exact ⟨k, rfl, by omega, hq⟩
abbrev rm_X10_countOf : Room := { frames := 0, cells := 0, slots := 0, locals := 0 }
set_option maxRecDepth 100000 in
set_option maxHeartbeats 4000000 in
theorem ct_X10_countOf (l : Launch) (D : va_G) (dA : Nat → ClassId) (σ : Nat → Nat) : em_CT l D em_cl dA σ (em_F σ) y_X10_countOf c_X10_countOf 2 (Option.some ClassFile.FieldType.int) rm_X10_countOf (sp_X10_countOf ) := by
  refine em_CT_of (T := T_X10_countOf ) (em_F_ok σ) (by decide) (fun p e s m args below meth c A ρ Q C hFok hF hret hlk hin => ?_) (me_X10_countOf )
  unfold T_X10_countOf
  refine List.forall_mem_cons.mpr ⟨s_iload_n C (by decide +kernel : decode c_X10_countOf 0 = .ok (.iload_n 1, 1)) rfl rfl rfl, ?_⟩
  refine List.forall_mem_cons.mpr ⟨s_iconst C (by decide +kernel : decode c_X10_countOf 1 = .ok (.iconst 5, 1)) rfl rfl (by decide), ?_⟩
  refine List.forall_mem_cons.mpr ⟨s_icmpge C (by decide +kernel : decode c_X10_countOf 2 = .ok (.if_icmp .ge 12, 3)) (by decide) rfl rfl rfl, ?_⟩
  refine List.forall_mem_cons.mpr ⟨s_aload_n C (by decide +kernel : decode c_X10_countOf 5 = .ok (.aload_n 0, 1)) rfl rfl rfl, ?_⟩
  refine List.forall_mem_cons.mpr ⟨s_getf C (by decide +kernel : decode c_X10_countOf 6 = .ok (.getfield 7, 3)) rfl rfl em_cl_X10 (by decide) ew691 rfl, ?_⟩
  refine List.forall_mem_cons.mpr ⟨s_iload_n C (by decide +kernel : decode c_X10_countOf 9 = .ok (.iload_n 1, 1)) rfl rfl rfl, ?_⟩
  refine List.forall_mem_cons.mpr ⟨s_iald C (by decide +kernel : decode c_X10_countOf 10 = .ok (.iaload, 1)) rfl rfl, ?_⟩
  refine List.forall_mem_cons.mpr ⟨s_goto C (by decide +kernel : decode c_X10_countOf 11 = .ok (.goto 7, 3)) (by decide) rfl, ?_⟩
  refine List.forall_mem_cons.mpr ⟨s_aload_n C (by decide +kernel : decode c_X10_countOf 14 = .ok (.aload_n 0, 1)) rfl rfl rfl, ?_⟩
  refine List.forall_mem_cons.mpr ⟨s_getf C (by decide +kernel : decode c_X10_countOf 15 = .ok (.getfield 102, 3)) rfl rfl em_cl_X10 (by decide) ew700 rfl, ?_⟩
  refine List.forall_mem_cons.mpr ⟨s_iret C (by decide +kernel : decode c_X10_countOf 18 = .ok (.ireturn, 1)) hret hlk ⟨Nat.le_refl 0, Nat.le_refl 0⟩, ?_⟩
  exact fun _ h => absurd h List.not_mem_nil
def sp_X10_count : em_Sp := fun av hp Q => ∃ bk im kp asd rf qt ab be tx ty at9 st9 tk vl wd it mn so sb my we be9 rw fr k, av = [.ref 0, .int k] ∧ hp = (wM bk im kp asd rf qt ab be tx ty at9 st9 tk vl wd it mn so sb my we be9 rw fr) ∧ (¬ (¬ k < 0 ∧ k ≤ 5) → Q (some (.int (-2))) (wM bk im kp asd (rfM qt rf 0) qt ab be tx ty at9 st9 tk vl wd it mn so sb my we be9 rw fr)) ∧ (∀ j, k = nI j → j < 6 → Q (some (.int (hmM bk ty j))) hp)
def T_X10_count : List (Nat × em_Op) := [(0, o_iload 1 1), (1, o_i2l 2), (2, o_lconst 0 3), (3, o_lconst 5 6), (6, o_call 3 none (sp_X10_in) 9), (9, o_ifeq 20 12), (12, o_aload 0 13), (13, o_iload 1 14), (14, o_call 2 (some 5) (sp_X10_countOf) 17), (17, o_goto 24), (20, o_aload 0 21), (21, o_call 1 (some 5) (sp_X10_bad) 24), (24, o_iret)]
theorem me_X10_count : em_Me T_X10_count 2 sp_X10_count := by
  intro Q K hK hle av hp hs
  obtain ⟨bk, im, kp, asd, rf, qt, ab, be, tx, ty, at9, st9, tk, vl, wd, it, mn, so, sb, my, we, be9, rw, fr, k, rfl, rfl, hbad, hq⟩ := hs
  refine ⟨Nat.le_of_ble_eq_true rfl, hK 0 9999 0 _ _ _ ?_⟩
  refine ⟨_, _, _, rfl, fun z => ?_, fun z => ?_⟩
  · have z := in_05.mp z
    obtain ⟨j, hj, e⟩ := nI_of z.1
    subst e
    have h3 : j ≤ 5 := (nI_leI (a := j) (b := 5) (by omega) (by omega)).mp z.2
    exact ⟨fun u => absurd u (by decide), fun _ => ⟨_, _, _, _, _, _, _, _, _, _, _, _, _, _, _, _, _, _, _, _, _, _, _, _, j, rfl, rfl, by omega, hq j rfl (by omega)⟩⟩
  · exact ⟨fun _ => ⟨_, _, _, _, _, _, _, _, _, _, _, _, _, _, _, _, _, _, _, _, _, _, _, _, rfl, rfl, hbad (fun q => z (in_05.mpr q))⟩, fun u => absurd rfl u⟩
abbrev rm_X10_count : Room := { frames := 2, cells := 0, slots := 0, locals := 42 }
set_option maxRecDepth 100000 in
set_option maxHeartbeats 4000000 in
theorem ct_X10_count (l : Launch) (D : va_G) (dA : Nat → ClassId) (σ : Nat → Nat) : em_CT l D em_cl dA σ (em_F σ) y_X10_count c_X10_count 2 (Option.some ClassFile.FieldType.int) rm_X10_count (sp_X10_count ) := by
  refine em_CT_of (T := T_X10_count ) (em_F_ok σ) (by decide) (fun p e s m args below meth c A ρ Q C hFok hF hret hlk hin => ?_) (me_X10_count )
  unfold T_X10_count
  refine List.forall_mem_cons.mpr ⟨s_iload_n C (by decide +kernel : decode c_X10_count 0 = .ok (.iload_n 1, 1)) rfl rfl rfl, ?_⟩
  refine List.forall_mem_cons.mpr ⟨s_i2l C (by decide +kernel : decode c_X10_count 1 = .ok (.i2l, 1)) rfl rfl, ?_⟩
  refine List.forall_mem_cons.mpr ⟨s_lconst C (by decide +kernel : decode c_X10_count 2 = .ok (.lconst 0, 1)) rfl rfl (by decide), ?_⟩
  refine List.forall_mem_cons.mpr ⟨s_ldc2 C (by decide +kernel : decode c_X10_count 3 = .ok (.ldc2_w 79, 3)) rfl rfl ew768, ?_⟩
  refine List.forall_mem_cons.mpr ⟨s_callS C hFok hF (ct_X10_in l D dA σ) ⟨rfl, rfl⟩ ew771 ew769 ew770 ew6 ⟨by decide, by decide, by decide +kernel⟩ ⟨by decide, by decide⟩ (by decide +kernel : decode c_X10_count 6 = .ok (.invokestatic 69, 3)) rfl rfl ⟨Nat.zero_le _, Nat.zero_le _⟩, ?_⟩
  refine List.forall_mem_cons.mpr ⟨s_ifeq C (by decide +kernel : decode c_X10_count 9 = .ok (.ifCond .eq 11, 3)) (by decide) rfl rfl rfl, ?_⟩
  refine List.forall_mem_cons.mpr ⟨s_aload_n C (by decide +kernel : decode c_X10_count 12 = .ok (.aload_n 0, 1)) rfl rfl rfl, ?_⟩
  refine List.forall_mem_cons.mpr ⟨s_iload_n C (by decide +kernel : decode c_X10_count 13 = .ok (.iload_n 1, 1)) rfl rfl rfl, ?_⟩
  refine List.forall_mem_cons.mpr ⟨s_callV C hFok hF (ct_X10_countOf l D dA σ) ⟨rfl, rfl⟩ ew1069 em_cl_X10 ew1066 ew1068 ewp39 ew6 ⟨by decide, by decide, by decide +kernel⟩ ⟨by decide, by decide⟩ (by decide +kernel : decode c_X10_count 14 = .ok (.invokevirtual 255, 3)) rfl rfl ⟨Nat.zero_le _, Nat.zero_le _⟩, ?_⟩
  refine List.forall_mem_cons.mpr ⟨s_goto C (by decide +kernel : decode c_X10_count 17 = .ok (.goto 7, 3)) (by decide) rfl, ?_⟩
  refine List.forall_mem_cons.mpr ⟨s_aload_n C (by decide +kernel : decode c_X10_count 20 = .ok (.aload_n 0, 1)) rfl rfl rfl, ?_⟩
  refine List.forall_mem_cons.mpr ⟨s_callV C hFok hF (ct_X10_bad l D dA σ) ⟨rfl, rfl⟩ ew779 em_cl_X10 ew776 ew778 ewp13 ew6 ⟨by decide, by decide, by decide +kernel⟩ ⟨by decide, by decide⟩ (by decide +kernel : decode c_X10_count 21 = .ok (.invokevirtual 84, 3)) rfl rfl ⟨Nat.zero_le _, Nat.zero_le _⟩, ?_⟩
  refine List.forall_mem_cons.mpr ⟨s_iret C (by decide +kernel : decode c_X10_count 24 = .ok (.ireturn, 1)) hret hlk ⟨Nat.le_refl 0, Nat.le_refl 0⟩, ?_⟩
  exact fun _ h => absurd h List.not_mem_nil
def mxM (bk : Nat → Int32) (h : Int64) (a : Nat) : Nat → Int64
  | 0 => h
  | k + 1 => hx (mxM bk h a k) (bk (a + k))
def sp_X10_mixed : em_Sp := fun av hp Q => ∃ bk im kp asd rf qt ab be tx ty at9 st9 tk vl wd it mn so sb my we be9 rw fr h a n, av = [.ref 0, .long h, .int (nI a), .int (nI n)] ∧ hp = (wM bk im kp asd rf qt ab be tx ty at9 st9 tk vl wd it mn so sb my we be9 rw fr) ∧ a + n ≤ 146 ∧ Q (some (.long (mxM bk h a n))) hp
def T_X10_mixed : List (Nat × em_Op) := [(0, o_lload 1 1), (1, o_lstore 5 3), (3, o_iconst 0 4), (4, o_istore 7 6), (6, o_iload 7 8), (8, o_iload 4 10), (10, o_icmpge 38 13), (13, o_lconst 31 16), (16, o_lload 5 18), (18, o_lmul 19), (19, o_aload 0 20), (20, o_getf 5 0 23), (23, o_iload 3 24), (24, o_iload 7 26), (26, o_iadd 27), (27, o_aldI 0 28), (28, o_i2l 29), (29, o_ladd 30), (30, o_lstore 5 32), (32, o_iinc 7 1 35), (35, o_goto 6), (38, o_lload 5 40), (40, o_lret)]
theorem me_X10_mixed : em_Me T_X10_mixed 8 sp_X10_mixed := by
  intro Q K hK hle av hp hs
  obtain ⟨bk, im, kp, asd, rf, qt, ab, be, tx, ty, at9, st9, tk, vl, wd, it, mn, so, sb, my, we, be9, rw, fr, h, a, n, rfl, rfl, han, hq⟩ := hs
  refine ⟨Nat.le_of_ble_eq_true rfl, ?_⟩
  have loop : ∀ (r k : Nat), k + r = n → K 6 [some (.ref 0), some (.long h), none, some (.int (nI a)), some (.int (nI n)), some (.long (mxM bk h a k)), none, some (.int (nI k))] [] (wM bk im kp asd rf qt ab be tx ty at9 st9 tk vl wd it mn so sb my we be9 rw fr) := by
    intro r
    induction r with
    | zero =>
      intro k hk
      have hk : k = n := by omega
      subst hk
      refine hK 4 9999 6 _ _ _ ?_
      exact ⟨fun _ => hq, fun z => absurd (nI_le (Nat.le_refl k) (by omega)) z⟩
    | succ r ih =>
      intro k hk
      have := ih (k + 1) (by omega)
      rw [← nI_1 k] at this
      refine hK 4 9999 6 _ _ _ ?_
      refine ⟨fun z => absurd z (nI_ge (by omega) (by omega)), fun _ => ?_⟩
      exact ⟨a + k, nI_add a k, by omega, this⟩
  exact hK 0 4 0 _ _ _ (loop n 0 (by omega))
abbrev rm_X10_mixed : Room := { frames := 0, cells := 0, slots := 0, locals := 0 }
set_option maxRecDepth 100000 in
set_option maxHeartbeats 4000000 in
theorem ct_X10_mixed (l : Launch) (D : va_G) (dA : Nat → ClassId) (σ : Nat → Nat) : em_CT l D em_cl dA σ (em_F σ) y_X10_mixed c_X10_mixed 8 (Option.some ClassFile.FieldType.long) rm_X10_mixed (sp_X10_mixed ) := by
  refine em_CT_of (T := T_X10_mixed ) (em_F_ok σ) (by decide) (fun p e s m args below meth c A ρ Q C hFok hF hret hlk hin => ?_) (me_X10_mixed )
  unfold T_X10_mixed
  refine List.forall_mem_cons.mpr ⟨s_lload_n C (by decide +kernel : decode c_X10_mixed 0 = .ok (.lload_n 1, 1)) rfl rfl rfl, ?_⟩
  refine List.forall_mem_cons.mpr ⟨s_lstore C (by decide +kernel : decode c_X10_mixed 1 = .ok (.lstore 5, 2)) rfl rfl (by decide), ?_⟩
  refine List.forall_mem_cons.mpr ⟨s_iconst C (by decide +kernel : decode c_X10_mixed 3 = .ok (.iconst 0, 1)) rfl rfl (by decide), ?_⟩
  refine List.forall_mem_cons.mpr ⟨s_istore C (by decide +kernel : decode c_X10_mixed 4 = .ok (.istore 7, 2)) rfl rfl (by decide), ?_⟩
  refine List.forall_mem_cons.mpr ⟨s_iload C (by decide +kernel : decode c_X10_mixed 6 = .ok (.iload 7, 2)) rfl rfl, ?_⟩
  refine List.forall_mem_cons.mpr ⟨s_iload C (by decide +kernel : decode c_X10_mixed 8 = .ok (.iload 4, 2)) rfl rfl, ?_⟩
  refine List.forall_mem_cons.mpr ⟨s_icmpge C (by decide +kernel : decode c_X10_mixed 10 = .ok (.if_icmp .ge 28, 3)) (by decide) rfl rfl rfl, ?_⟩
  refine List.forall_mem_cons.mpr ⟨s_ldc2 C (by decide +kernel : decode c_X10_mixed 13 = .ok (.ldc2_w 258, 3)) rfl rfl ew1075, ?_⟩
  refine List.forall_mem_cons.mpr ⟨s_lload C (by decide +kernel : decode c_X10_mixed 16 = .ok (.lload 5, 2)) rfl rfl, ?_⟩
  refine List.forall_mem_cons.mpr ⟨s_lmul C (by decide +kernel : decode c_X10_mixed 18 = .ok (.lmul, 1)) rfl rfl, ?_⟩
  refine List.forall_mem_cons.mpr ⟨s_aload_n C (by decide +kernel : decode c_X10_mixed 19 = .ok (.aload_n 0, 1)) rfl rfl rfl, ?_⟩
  refine List.forall_mem_cons.mpr ⟨s_getf C (by decide +kernel : decode c_X10_mixed 20 = .ok (.getfield 7, 3)) rfl rfl em_cl_X10 (by decide) ew691 rfl, ?_⟩
  refine List.forall_mem_cons.mpr ⟨s_iload_n C (by decide +kernel : decode c_X10_mixed 23 = .ok (.iload_n 3, 1)) rfl rfl rfl, ?_⟩
  refine List.forall_mem_cons.mpr ⟨s_iload C (by decide +kernel : decode c_X10_mixed 24 = .ok (.iload 7, 2)) rfl rfl, ?_⟩
  refine List.forall_mem_cons.mpr ⟨s_iadd C (by decide +kernel : decode c_X10_mixed 26 = .ok (.iadd, 1)) rfl rfl, ?_⟩
  refine List.forall_mem_cons.mpr ⟨s_iald C (by decide +kernel : decode c_X10_mixed 27 = .ok (.iaload, 1)) rfl rfl, ?_⟩
  refine List.forall_mem_cons.mpr ⟨s_i2l C (by decide +kernel : decode c_X10_mixed 28 = .ok (.i2l, 1)) rfl rfl, ?_⟩
  refine List.forall_mem_cons.mpr ⟨s_ladd C (by decide +kernel : decode c_X10_mixed 29 = .ok (.ladd, 1)) rfl rfl, ?_⟩
  refine List.forall_mem_cons.mpr ⟨s_lstore C (by decide +kernel : decode c_X10_mixed 30 = .ok (.lstore 5, 2)) rfl rfl (by decide), ?_⟩
  refine List.forall_mem_cons.mpr ⟨s_iinc C (by decide +kernel : decode c_X10_mixed 32 = .ok (.iinc 7 1, 3)) rfl rfl (by decide) (by decide), ?_⟩
  refine List.forall_mem_cons.mpr ⟨s_goto C (by decide +kernel : decode c_X10_mixed 35 = .ok (.goto (-29), 3)) (by decide) rfl, ?_⟩
  refine List.forall_mem_cons.mpr ⟨s_lload C (by decide +kernel : decode c_X10_mixed 38 = .ok (.lload 5, 2)) rfl rfl, ?_⟩
  refine List.forall_mem_cons.mpr ⟨s_lret C (by decide +kernel : decode c_X10_mixed 40 = .ok (.lreturn, 1)) hret hlk ⟨Nat.le_refl 0, Nat.le_refl 0⟩, ?_⟩
  exact fun _ h => absurd h List.not_mem_nil
def dgM (bk : Nat → Int32) (ty : Int32) : Nat → Int64
  | 0 => 839
  | k + 1 => hx (dgM bk ty k) (hmM bk ty k)
def dpM (bk : Nat → Int32) (h : Int64) : Nat → Int64
  | 0 => h
  | p + 1 => hx (hx (hx (dpM bk h p) (bk (8 + p))) (bk (14 + p))) (bk (20 + p))
def sp_X10_digest : em_Sp := fun av hp Q => ∃ bk im kp asd rf qt ab be tx ty at9 st9 tk vl wd it mn so sb my we be9 rw fr n np nc, av = [.ref 0] ∧ hp = (wM bk im kp asd rf qt ab be tx ty at9 st9 tk vl wd it mn so sb my we be9 rw fr) ∧ bk 0 = nI n ∧ n ≤ 6 ∧ bk 1 = nI np ∧ np ≤ 8 ∧ bk 4 = nI nc ∧ nc ≤ 10 ∧ Q (some (.long (31 * (31 * mxM bk (mxM bk (dpM bk (mxM bk (dgM bk ty 6) 5 3) n) 26 (2 * np)) 42 (2 * nc) + ab) + be))) hp
def T_X10_digest : List (Nat × em_Op) := [(0, o_lconst 839 3), (3, o_lstore 1 4), (4, o_iconst 0 5), (5, o_istore 3 6), (6, o_iload 3 7), (7, o_iconst 6 9), (9, o_icmpge 31 12), (12, o_lconst 31 15), (15, o_lload 1 16), (16, o_lmul 17), (17, o_aload 0 18), (18, o_iload 3 19), (19, o_call 2 (some 5) (sp_X10_countOf) 22), (22, o_i2l 23), (23, o_ladd 24), (24, o_lstore 1 25), (25, o_iinc 3 1 28), (28, o_goto 6), (31, o_aload 0 32), (32, o_lload 1 33), (33, o_iconst 5 34), (34, o_iconst 3 35), (35, o_call 4 (some 5) (sp_X10_mixed) 38), (38, o_lstore 1 39), (39, o_iconst 0 40), (40, o_istore 3 41), (41, o_iload 3 42), (42, o_aload 0 43), (43, o_getf 5 0 46), (46, o_iconst 0 47), (47, o_aldI 0 48), (48, o_icmpge 104 51), (51, o_lconst 31 54), (54, o_lconst 31 57), (57, o_lconst 31 60), (60, o_lload 1 61), (61, o_lmul 62), (62, o_aload 0 63), (63, o_getf 5 0 66), (66, o_iconst 8 68), (68, o_iload 3 69), (69, o_iadd 70), (70, o_aldI 0 71), (71, o_i2l 72), (72, o_ladd 73), (73, o_lmul 74), (74, o_aload 0 75), (75, o_getf 5 0 78), (78, o_iconst 14 80), (80, o_iload 3 81), (81, o_iadd 82), (82, o_aldI 0 83), (83, o_i2l 84), (84, o_ladd 85), (85, o_lmul 86), (86, o_aload 0 87), (87, o_getf 5 0 90), (90, o_iconst 20 92), (92, o_iload 3 93), (93, o_iadd 94), (94, o_aldI 0 95), (95, o_i2l 96), (96, o_ladd 97), (97, o_lstore 1 98), (98, o_iinc 3 1 101), (101, o_goto 41), (104, o_aload 0 105), (105, o_lload 1 106), (106, o_iconst 26 108), (108, o_iconst 2 109), (109, o_aload 0 110), (110, o_getf 5 0 113), (113, o_iconst 1 114), (114, o_aldI 0 115), (115, o_imul 116), (116, o_call 4 (some 5) (sp_X10_mixed) 119), (119, o_lstore 1 120), (120, o_aload 0 121), (121, o_lload 1 122), (122, o_iconst 42 124), (124, o_iconst 2 125), (125, o_aload 0 126), (126, o_getf 5 0 129), (129, o_iconst 4 130), (130, o_aldI 0 131), (131, o_imul 132), (132, o_call 4 (some 5) (sp_X10_mixed) 135), (135, o_lstore 1 136), (136, o_lconst 31 139), (139, o_lconst 31 142), (142, o_lload 1 143), (143, o_lmul 144), (144, o_aload 0 145), (145, o_getf 5 6 148), (148, o_ladd 149), (149, o_lmul 150), (150, o_aload 0 151), (151, o_getf 5 7 154), (154, o_ladd 155), (155, o_lret)]
theorem me_X10_digest : em_Me T_X10_digest 4 sp_X10_digest := by
  intro Q K hK hle av hp hs
  obtain ⟨bk, im, kp, asd, rf, qt, ab, be, tx, ty, at9, st9, tk, vl, wd, it, mn, so, sb, my, we, be9, rw, fr, n, np, nc, rfl, rfl, hb, hn, hb1, hnp, hb4, hnc, hq⟩ := hs
  refine ⟨Nat.le_of_ble_eq_true rfl, ?_⟩
  have e1 : (2 : Int32) * bk 1 = nI (2 * np) := by rw [hb1]; exact pk_mul 2 np
  have e4 : (2 : Int32) * bk 4 = nI (2 * nc) := by rw [hb4]; exact pk_mul 2 nc
  have two : ∀ (r p : Nat), p + r = n → K 41 [some (.ref 0), some (.long (dpM bk (mxM bk (dgM bk ty 6) 5 3) p)), none, some (.int (nI p))] [] (wM bk im kp asd rf qt ab be tx ty at9 st9 tk vl wd it mn so sb my we be9 rw fr) := by
    intro r
    induction r with
    | zero =>
      intro p hp
      have hp : p = n := by omega
      subst hp
      refine hK 26 9999 41 _ _ _ ?_
      refine ⟨0, rfl, by decide, fun _ => ?_, fun z => absurd (by rw [hb]; exact nI_le (Nat.le_refl p) (by omega)) z⟩
      refine ⟨1, rfl, by decide, _, _, _, _, _, _, _, _, _, _, _, _, _, _, _, _, _, _, _, _, _, _, _, _, _, 26, 2 * np, (by show [Value.ref 0, Value.long _, Value.int 26, Value.int (2 * bk 1)] = _; rw [e1]; rfl), rfl, by omega, ?_⟩
      exact ⟨4, rfl, by decide, _, _, _, _, _, _, _, _, _, _, _, _, _, _, _, _, _, _, _, _, _, _, _, _, _, 42, 2 * nc, (by show [Value.ref 0, Value.long _, Value.int 42, Value.int (2 * bk 4)] = _; rw [e4]; rfl), rfl, by omega, hq⟩
    | succ r ih =>
      intro p hp
      have := ih (p + 1) (by omega)
      rw [← nI_1 p] at this
      refine hK 26 9999 41 _ _ _ ?_
      refine ⟨0, rfl, by decide, fun z => absurd z (by show ¬ bk 0 ≤ nI p; rw [hb]; exact nI_ge (by omega) (by omega)), fun _ => ?_⟩
      exact ⟨8 + p, nI_add 8 p, by omega, 14 + p, nI_add 14 p, by omega, 20 + p, nI_add 20 p, by omega, this⟩
  have one : ∀ (r k : Nat), k + r = 6 → K 6 [some (.ref 0), some (.long (dgM bk ty k)), none, some (.int (nI k))] [] (wM bk im kp asd rf qt ab be tx ty at9 st9 tk vl wd it mn so sb my we be9 rw fr) := by
    intro r
    induction r with
    | zero =>
      intro k hk
      have hk : k = 6 := by omega
      subst hk
      refine hK 4 22 6 _ _ _ ?_
      refine ⟨fun _ => ?_, fun z => absurd (nI_le (a := 6) (b := 6) (by omega) (by omega)) z⟩
      exact ⟨_, _, _, _, _, _, _, _, _, _, _, _, _, _, _, _, _, _, _, _, _, _, _, _, _, 5, 3, rfl, rfl, by decide, hle _ _ _ _ _ (by repeat (first | exact trivial | refine ⟨rfl, ?_⟩)) (two n 0 (by omega))⟩
    | succ r ih =>
      intro k hk
      have := ih (k + 1) (by omega)
      rw [← nI_1 k] at this
      refine hK 4 22 6 _ _ _ ?_
      refine ⟨fun z => absurd z (nI_ge (a := k) (b := 6) (by omega) (by omega)), fun _ => ?_⟩
      exact ⟨_, _, _, _, _, _, _, _, _, _, _, _, _, _, _, _, _, _, _, _, _, _, _, _, k, rfl, rfl, by omega, this⟩
  exact hK 0 4 0 _ _ _ (one 6 0 (by omega))
abbrev rm_X10_digest : Room := { frames := 1, cells := 0, slots := 0, locals := 27 }
set_option maxRecDepth 100000 in
set_option maxHeartbeats 4000000 in
theorem ct_X10_digest (l : Launch) (D : va_G) (dA : Nat → ClassId) (σ : Nat → Nat) : em_CT l D em_cl dA σ (em_F σ) y_X10_digest c_X10_digest 4 (Option.some ClassFile.FieldType.long) rm_X10_digest (sp_X10_digest ) := by
  refine em_CT_of (T := T_X10_digest ) (em_F_ok σ) (by decide) (fun p e s m args below meth c A ρ Q C hFok hF hret hlk hin => ?_) (me_X10_digest )
  unfold T_X10_digest
  refine List.forall_mem_cons.mpr ⟨s_ldc2 C (by decide +kernel : decode c_X10_digest 0 = .ok (.ldc2_w 260, 3)) rfl rfl ew1074, ?_⟩
  refine List.forall_mem_cons.mpr ⟨s_lstore_n C (by decide +kernel : decode c_X10_digest 3 = .ok (.lstore_n 1, 1)) rfl rfl rfl (by decide), ?_⟩
  refine List.forall_mem_cons.mpr ⟨s_iconst C (by decide +kernel : decode c_X10_digest 4 = .ok (.iconst 0, 1)) rfl rfl (by decide), ?_⟩
  refine List.forall_mem_cons.mpr ⟨s_istore_n C (by decide +kernel : decode c_X10_digest 5 = .ok (.istore_n 3, 1)) rfl rfl rfl (by decide), ?_⟩
  refine List.forall_mem_cons.mpr ⟨s_iload_n C (by decide +kernel : decode c_X10_digest 6 = .ok (.iload_n 3, 1)) rfl rfl rfl, ?_⟩
  refine List.forall_mem_cons.mpr ⟨s_bipush C (by decide +kernel : decode c_X10_digest 7 = .ok (.bipush 6, 2)) rfl rfl (by decide), ?_⟩
  refine List.forall_mem_cons.mpr ⟨s_icmpge C (by decide +kernel : decode c_X10_digest 9 = .ok (.if_icmp .ge 22, 3)) (by decide) rfl rfl rfl, ?_⟩
  refine List.forall_mem_cons.mpr ⟨s_ldc2 C (by decide +kernel : decode c_X10_digest 12 = .ok (.ldc2_w 258, 3)) rfl rfl ew1075, ?_⟩
  refine List.forall_mem_cons.mpr ⟨s_lload_n C (by decide +kernel : decode c_X10_digest 15 = .ok (.lload_n 1, 1)) rfl rfl rfl, ?_⟩
  refine List.forall_mem_cons.mpr ⟨s_lmul C (by decide +kernel : decode c_X10_digest 16 = .ok (.lmul, 1)) rfl rfl, ?_⟩
  refine List.forall_mem_cons.mpr ⟨s_aload_n C (by decide +kernel : decode c_X10_digest 17 = .ok (.aload_n 0, 1)) rfl rfl rfl, ?_⟩
  refine List.forall_mem_cons.mpr ⟨s_iload_n C (by decide +kernel : decode c_X10_digest 18 = .ok (.iload_n 3, 1)) rfl rfl rfl, ?_⟩
  refine List.forall_mem_cons.mpr ⟨s_callV C hFok hF (ct_X10_countOf l D dA σ) ⟨rfl, rfl⟩ ew1069 em_cl_X10 ew1066 ew1068 ewp39 ew6 ⟨by decide, by decide, by decide +kernel⟩ ⟨by decide, by decide⟩ (by decide +kernel : decode c_X10_digest 19 = .ok (.invokevirtual 255, 3)) rfl rfl ⟨Nat.zero_le _, Nat.zero_le _⟩, ?_⟩
  refine List.forall_mem_cons.mpr ⟨s_i2l C (by decide +kernel : decode c_X10_digest 22 = .ok (.i2l, 1)) rfl rfl, ?_⟩
  refine List.forall_mem_cons.mpr ⟨s_ladd C (by decide +kernel : decode c_X10_digest 23 = .ok (.ladd, 1)) rfl rfl, ?_⟩
  refine List.forall_mem_cons.mpr ⟨s_lstore_n C (by decide +kernel : decode c_X10_digest 24 = .ok (.lstore_n 1, 1)) rfl rfl rfl (by decide), ?_⟩
  refine List.forall_mem_cons.mpr ⟨s_iinc C (by decide +kernel : decode c_X10_digest 25 = .ok (.iinc 3 1, 3)) rfl rfl (by decide) (by decide), ?_⟩
  refine List.forall_mem_cons.mpr ⟨s_goto C (by decide +kernel : decode c_X10_digest 28 = .ok (.goto (-22), 3)) (by decide) rfl, ?_⟩
  refine List.forall_mem_cons.mpr ⟨s_aload_n C (by decide +kernel : decode c_X10_digest 31 = .ok (.aload_n 0, 1)) rfl rfl rfl, ?_⟩
  refine List.forall_mem_cons.mpr ⟨s_lload_n C (by decide +kernel : decode c_X10_digest 32 = .ok (.lload_n 1, 1)) rfl rfl rfl, ?_⟩
  refine List.forall_mem_cons.mpr ⟨s_iconst C (by decide +kernel : decode c_X10_digest 33 = .ok (.iconst 5, 1)) rfl rfl (by decide), ?_⟩
  refine List.forall_mem_cons.mpr ⟨s_iconst C (by decide +kernel : decode c_X10_digest 34 = .ok (.iconst 3, 1)) rfl rfl (by decide), ?_⟩
  refine List.forall_mem_cons.mpr ⟨s_callV C hFok hF (ct_X10_mixed l D dA σ) ⟨rfl, rfl⟩ ew1079 em_cl_X10 ew1076 ew1078 ewp40 ew6 ⟨by decide, by decide, by decide +kernel⟩ ⟨by decide, by decide⟩ (by decide +kernel : decode c_X10_digest 35 = .ok (.invokevirtual 262, 3)) rfl rfl ⟨Nat.zero_le _, Nat.zero_le _⟩, ?_⟩
  refine List.forall_mem_cons.mpr ⟨s_lstore_n C (by decide +kernel : decode c_X10_digest 38 = .ok (.lstore_n 1, 1)) rfl rfl rfl (by decide), ?_⟩
  refine List.forall_mem_cons.mpr ⟨s_iconst C (by decide +kernel : decode c_X10_digest 39 = .ok (.iconst 0, 1)) rfl rfl (by decide), ?_⟩
  refine List.forall_mem_cons.mpr ⟨s_istore_n C (by decide +kernel : decode c_X10_digest 40 = .ok (.istore_n 3, 1)) rfl rfl rfl (by decide), ?_⟩
  refine List.forall_mem_cons.mpr ⟨s_iload_n C (by decide +kernel : decode c_X10_digest 41 = .ok (.iload_n 3, 1)) rfl rfl rfl, ?_⟩
  refine List.forall_mem_cons.mpr ⟨s_aload_n C (by decide +kernel : decode c_X10_digest 42 = .ok (.aload_n 0, 1)) rfl rfl rfl, ?_⟩
  refine List.forall_mem_cons.mpr ⟨s_getf C (by decide +kernel : decode c_X10_digest 43 = .ok (.getfield 7, 3)) rfl rfl em_cl_X10 (by decide) ew691 rfl, ?_⟩
  refine List.forall_mem_cons.mpr ⟨s_iconst C (by decide +kernel : decode c_X10_digest 46 = .ok (.iconst 0, 1)) rfl rfl (by decide), ?_⟩
  refine List.forall_mem_cons.mpr ⟨s_iald C (by decide +kernel : decode c_X10_digest 47 = .ok (.iaload, 1)) rfl rfl, ?_⟩
  refine List.forall_mem_cons.mpr ⟨s_icmpge C (by decide +kernel : decode c_X10_digest 48 = .ok (.if_icmp .ge 56, 3)) (by decide) rfl rfl rfl, ?_⟩
  refine List.forall_mem_cons.mpr ⟨s_ldc2 C (by decide +kernel : decode c_X10_digest 51 = .ok (.ldc2_w 258, 3)) rfl rfl ew1075, ?_⟩
  refine List.forall_mem_cons.mpr ⟨s_ldc2 C (by decide +kernel : decode c_X10_digest 54 = .ok (.ldc2_w 258, 3)) rfl rfl ew1075, ?_⟩
  refine List.forall_mem_cons.mpr ⟨s_ldc2 C (by decide +kernel : decode c_X10_digest 57 = .ok (.ldc2_w 258, 3)) rfl rfl ew1075, ?_⟩
  refine List.forall_mem_cons.mpr ⟨s_lload_n C (by decide +kernel : decode c_X10_digest 60 = .ok (.lload_n 1, 1)) rfl rfl rfl, ?_⟩
  refine List.forall_mem_cons.mpr ⟨s_lmul C (by decide +kernel : decode c_X10_digest 61 = .ok (.lmul, 1)) rfl rfl, ?_⟩
  refine List.forall_mem_cons.mpr ⟨s_aload_n C (by decide +kernel : decode c_X10_digest 62 = .ok (.aload_n 0, 1)) rfl rfl rfl, ?_⟩
  refine List.forall_mem_cons.mpr ⟨s_getf C (by decide +kernel : decode c_X10_digest 63 = .ok (.getfield 7, 3)) rfl rfl em_cl_X10 (by decide) ew691 rfl, ?_⟩
  refine List.forall_mem_cons.mpr ⟨s_bipush C (by decide +kernel : decode c_X10_digest 66 = .ok (.bipush 8, 2)) rfl rfl (by decide), ?_⟩
  refine List.forall_mem_cons.mpr ⟨s_iload_n C (by decide +kernel : decode c_X10_digest 68 = .ok (.iload_n 3, 1)) rfl rfl rfl, ?_⟩
  refine List.forall_mem_cons.mpr ⟨s_iadd C (by decide +kernel : decode c_X10_digest 69 = .ok (.iadd, 1)) rfl rfl, ?_⟩
  refine List.forall_mem_cons.mpr ⟨s_iald C (by decide +kernel : decode c_X10_digest 70 = .ok (.iaload, 1)) rfl rfl, ?_⟩
  refine List.forall_mem_cons.mpr ⟨s_i2l C (by decide +kernel : decode c_X10_digest 71 = .ok (.i2l, 1)) rfl rfl, ?_⟩
  refine List.forall_mem_cons.mpr ⟨s_ladd C (by decide +kernel : decode c_X10_digest 72 = .ok (.ladd, 1)) rfl rfl, ?_⟩
  refine List.forall_mem_cons.mpr ⟨s_lmul C (by decide +kernel : decode c_X10_digest 73 = .ok (.lmul, 1)) rfl rfl, ?_⟩
  refine List.forall_mem_cons.mpr ⟨s_aload_n C (by decide +kernel : decode c_X10_digest 74 = .ok (.aload_n 0, 1)) rfl rfl rfl, ?_⟩
  refine List.forall_mem_cons.mpr ⟨s_getf C (by decide +kernel : decode c_X10_digest 75 = .ok (.getfield 7, 3)) rfl rfl em_cl_X10 (by decide) ew691 rfl, ?_⟩
  refine List.forall_mem_cons.mpr ⟨s_bipush C (by decide +kernel : decode c_X10_digest 78 = .ok (.bipush 14, 2)) rfl rfl (by decide), ?_⟩
  refine List.forall_mem_cons.mpr ⟨s_iload_n C (by decide +kernel : decode c_X10_digest 80 = .ok (.iload_n 3, 1)) rfl rfl rfl, ?_⟩
  refine List.forall_mem_cons.mpr ⟨s_iadd C (by decide +kernel : decode c_X10_digest 81 = .ok (.iadd, 1)) rfl rfl, ?_⟩
  refine List.forall_mem_cons.mpr ⟨s_iald C (by decide +kernel : decode c_X10_digest 82 = .ok (.iaload, 1)) rfl rfl, ?_⟩
  refine List.forall_mem_cons.mpr ⟨s_i2l C (by decide +kernel : decode c_X10_digest 83 = .ok (.i2l, 1)) rfl rfl, ?_⟩
  refine List.forall_mem_cons.mpr ⟨s_ladd C (by decide +kernel : decode c_X10_digest 84 = .ok (.ladd, 1)) rfl rfl, ?_⟩
  refine List.forall_mem_cons.mpr ⟨s_lmul C (by decide +kernel : decode c_X10_digest 85 = .ok (.lmul, 1)) rfl rfl, ?_⟩
  refine List.forall_mem_cons.mpr ⟨s_aload_n C (by decide +kernel : decode c_X10_digest 86 = .ok (.aload_n 0, 1)) rfl rfl rfl, ?_⟩
  refine List.forall_mem_cons.mpr ⟨s_getf C (by decide +kernel : decode c_X10_digest 87 = .ok (.getfield 7, 3)) rfl rfl em_cl_X10 (by decide) ew691 rfl, ?_⟩
  refine List.forall_mem_cons.mpr ⟨s_bipush C (by decide +kernel : decode c_X10_digest 90 = .ok (.bipush 20, 2)) rfl rfl (by decide), ?_⟩
  refine List.forall_mem_cons.mpr ⟨s_iload_n C (by decide +kernel : decode c_X10_digest 92 = .ok (.iload_n 3, 1)) rfl rfl rfl, ?_⟩
  refine List.forall_mem_cons.mpr ⟨s_iadd C (by decide +kernel : decode c_X10_digest 93 = .ok (.iadd, 1)) rfl rfl, ?_⟩
  refine List.forall_mem_cons.mpr ⟨s_iald C (by decide +kernel : decode c_X10_digest 94 = .ok (.iaload, 1)) rfl rfl, ?_⟩
  refine List.forall_mem_cons.mpr ⟨s_i2l C (by decide +kernel : decode c_X10_digest 95 = .ok (.i2l, 1)) rfl rfl, ?_⟩
  refine List.forall_mem_cons.mpr ⟨s_ladd C (by decide +kernel : decode c_X10_digest 96 = .ok (.ladd, 1)) rfl rfl, ?_⟩
  refine List.forall_mem_cons.mpr ⟨s_lstore_n C (by decide +kernel : decode c_X10_digest 97 = .ok (.lstore_n 1, 1)) rfl rfl rfl (by decide), ?_⟩
  refine List.forall_mem_cons.mpr ⟨s_iinc C (by decide +kernel : decode c_X10_digest 98 = .ok (.iinc 3 1, 3)) rfl rfl (by decide) (by decide), ?_⟩
  refine List.forall_mem_cons.mpr ⟨s_goto C (by decide +kernel : decode c_X10_digest 101 = .ok (.goto (-60), 3)) (by decide) rfl, ?_⟩
  refine List.forall_mem_cons.mpr ⟨s_aload_n C (by decide +kernel : decode c_X10_digest 104 = .ok (.aload_n 0, 1)) rfl rfl rfl, ?_⟩
  refine List.forall_mem_cons.mpr ⟨s_lload_n C (by decide +kernel : decode c_X10_digest 105 = .ok (.lload_n 1, 1)) rfl rfl rfl, ?_⟩
  refine List.forall_mem_cons.mpr ⟨s_bipush C (by decide +kernel : decode c_X10_digest 106 = .ok (.bipush 26, 2)) rfl rfl (by decide), ?_⟩
  refine List.forall_mem_cons.mpr ⟨s_iconst C (by decide +kernel : decode c_X10_digest 108 = .ok (.iconst 2, 1)) rfl rfl (by decide), ?_⟩
  refine List.forall_mem_cons.mpr ⟨s_aload_n C (by decide +kernel : decode c_X10_digest 109 = .ok (.aload_n 0, 1)) rfl rfl rfl, ?_⟩
  refine List.forall_mem_cons.mpr ⟨s_getf C (by decide +kernel : decode c_X10_digest 110 = .ok (.getfield 7, 3)) rfl rfl em_cl_X10 (by decide) ew691 rfl, ?_⟩
  refine List.forall_mem_cons.mpr ⟨s_iconst C (by decide +kernel : decode c_X10_digest 113 = .ok (.iconst 1, 1)) rfl rfl (by decide), ?_⟩
  refine List.forall_mem_cons.mpr ⟨s_iald C (by decide +kernel : decode c_X10_digest 114 = .ok (.iaload, 1)) rfl rfl, ?_⟩
  refine List.forall_mem_cons.mpr ⟨s_imul C (by decide +kernel : decode c_X10_digest 115 = .ok (.imul, 1)) rfl rfl, ?_⟩
  refine List.forall_mem_cons.mpr ⟨s_callV C hFok hF (ct_X10_mixed l D dA σ) ⟨rfl, rfl⟩ ew1079 em_cl_X10 ew1076 ew1078 ewp40 ew6 ⟨by decide, by decide, by decide +kernel⟩ ⟨by decide, by decide⟩ (by decide +kernel : decode c_X10_digest 116 = .ok (.invokevirtual 262, 3)) rfl rfl ⟨Nat.zero_le _, Nat.zero_le _⟩, ?_⟩
  refine List.forall_mem_cons.mpr ⟨s_lstore_n C (by decide +kernel : decode c_X10_digest 119 = .ok (.lstore_n 1, 1)) rfl rfl rfl (by decide), ?_⟩
  refine List.forall_mem_cons.mpr ⟨s_aload_n C (by decide +kernel : decode c_X10_digest 120 = .ok (.aload_n 0, 1)) rfl rfl rfl, ?_⟩
  refine List.forall_mem_cons.mpr ⟨s_lload_n C (by decide +kernel : decode c_X10_digest 121 = .ok (.lload_n 1, 1)) rfl rfl rfl, ?_⟩
  refine List.forall_mem_cons.mpr ⟨s_bipush C (by decide +kernel : decode c_X10_digest 122 = .ok (.bipush 42, 2)) rfl rfl (by decide), ?_⟩
  refine List.forall_mem_cons.mpr ⟨s_iconst C (by decide +kernel : decode c_X10_digest 124 = .ok (.iconst 2, 1)) rfl rfl (by decide), ?_⟩
  refine List.forall_mem_cons.mpr ⟨s_aload_n C (by decide +kernel : decode c_X10_digest 125 = .ok (.aload_n 0, 1)) rfl rfl rfl, ?_⟩
  refine List.forall_mem_cons.mpr ⟨s_getf C (by decide +kernel : decode c_X10_digest 126 = .ok (.getfield 7, 3)) rfl rfl em_cl_X10 (by decide) ew691 rfl, ?_⟩
  refine List.forall_mem_cons.mpr ⟨s_iconst C (by decide +kernel : decode c_X10_digest 129 = .ok (.iconst 4, 1)) rfl rfl (by decide), ?_⟩
  refine List.forall_mem_cons.mpr ⟨s_iald C (by decide +kernel : decode c_X10_digest 130 = .ok (.iaload, 1)) rfl rfl, ?_⟩
  refine List.forall_mem_cons.mpr ⟨s_imul C (by decide +kernel : decode c_X10_digest 131 = .ok (.imul, 1)) rfl rfl, ?_⟩
  refine List.forall_mem_cons.mpr ⟨s_callV C hFok hF (ct_X10_mixed l D dA σ) ⟨rfl, rfl⟩ ew1079 em_cl_X10 ew1076 ew1078 ewp40 ew6 ⟨by decide, by decide, by decide +kernel⟩ ⟨by decide, by decide⟩ (by decide +kernel : decode c_X10_digest 132 = .ok (.invokevirtual 262, 3)) rfl rfl ⟨Nat.zero_le _, Nat.zero_le _⟩, ?_⟩
  refine List.forall_mem_cons.mpr ⟨s_lstore_n C (by decide +kernel : decode c_X10_digest 135 = .ok (.lstore_n 1, 1)) rfl rfl rfl (by decide), ?_⟩
  refine List.forall_mem_cons.mpr ⟨s_ldc2 C (by decide +kernel : decode c_X10_digest 136 = .ok (.ldc2_w 258, 3)) rfl rfl ew1075, ?_⟩
  refine List.forall_mem_cons.mpr ⟨s_ldc2 C (by decide +kernel : decode c_X10_digest 139 = .ok (.ldc2_w 258, 3)) rfl rfl ew1075, ?_⟩
  refine List.forall_mem_cons.mpr ⟨s_lload_n C (by decide +kernel : decode c_X10_digest 142 = .ok (.lload_n 1, 1)) rfl rfl rfl, ?_⟩
  refine List.forall_mem_cons.mpr ⟨s_lmul C (by decide +kernel : decode c_X10_digest 143 = .ok (.lmul, 1)) rfl rfl, ?_⟩
  refine List.forall_mem_cons.mpr ⟨s_aload_n C (by decide +kernel : decode c_X10_digest 144 = .ok (.aload_n 0, 1)) rfl rfl rfl, ?_⟩
  refine List.forall_mem_cons.mpr ⟨s_getf C (by decide +kernel : decode c_X10_digest 145 = .ok (.getfield 240, 3)) rfl rfl em_cl_X10 (by decide) ew697 rfl, ?_⟩
  refine List.forall_mem_cons.mpr ⟨s_ladd C (by decide +kernel : decode c_X10_digest 148 = .ok (.ladd, 1)) rfl rfl, ?_⟩
  refine List.forall_mem_cons.mpr ⟨s_lmul C (by decide +kernel : decode c_X10_digest 149 = .ok (.lmul, 1)) rfl rfl, ?_⟩
  refine List.forall_mem_cons.mpr ⟨s_aload_n C (by decide +kernel : decode c_X10_digest 150 = .ok (.aload_n 0, 1)) rfl rfl rfl, ?_⟩
  refine List.forall_mem_cons.mpr ⟨s_getf C (by decide +kernel : decode c_X10_digest 151 = .ok (.getfield 54, 3)) rfl rfl em_cl_X10 (by decide) ew698 rfl, ?_⟩
  refine List.forall_mem_cons.mpr ⟨s_ladd C (by decide +kernel : decode c_X10_digest 154 = .ok (.ladd, 1)) rfl rfl, ?_⟩
  refine List.forall_mem_cons.mpr ⟨s_lret C (by decide +kernel : decode c_X10_digest 155 = .ok (.lreturn, 1)) hret hlk ⟨Nat.le_refl 0, Nat.le_refl 0⟩, ?_⟩
  exact fun _ h => absurd h List.not_mem_nil
/-! images; an empty book -/
def imI (bk im : Nat → Int32) (i k : Nat) : Nat → Int32 := fun j => if 146 * i ≤ j ∧ j < 146 * i + k then bk (j - 146 * i) else im j
theorem imI_0 (bk im : Nat → Int32) (i : Nat) : imI bk im i 0 = im := by
  funext j; exact if_neg (by omega)
theorem imI_s (bk im : Nat → Int32) (i k : Nat) : upd (imI bk im i k) (146 * i + k) (bk k) = imI bk im i (k + 1) := by
  funext j
  by_cases h : j = 146 * i + k
  · subst h; rw [pk_us]; unfold imI; rw [if_pos (by omega)]; congr 1; omega
  · rw [pk_un h]; unfold imI
    by_cases h2 : 146 * i ≤ j ∧ j < 146 * i + k
    · rw [if_pos h2, if_pos (by omega)]
    · rw [if_neg h2, if_neg (by omega)]
def frI (bk im : Nat → Int32) (i k : Nat) : Nat → Int32 := fun j => if j < k then im (146 * i + j) else bk j
theorem frI_0 (bk im : Nat → Int32) (i : Nat) : frI bk im i 0 = bk := by
  funext j; exact if_neg (by omega)
theorem frI_s (bk im : Nat → Int32) (i k : Nat) : upd (frI bk im i k) k (im (146 * i + k)) = frI bk im i (k + 1) := by
  funext j
  by_cases h : j = k
  · subst h; rw [pk_us]; unfold frI; rw [if_pos (by omega)]
  · rw [pk_un h]; unfold frI
    by_cases h2 : j < k
    · rw [if_pos h2, if_pos (by omega)]
    · rw [if_neg h2, if_neg (by omega)]
theorem i146 (i k : Nat) : (146 : Int32) * nI i + nI k = nI (146 * i + k) := by
  rw [show (146 : Int32) = nI 146 from rfl, pk_mul, nI_add]
theorem n01 {k : Int32} (h : k = 0 ∨ k = 1) : ∃ i, i < 2 ∧ k = nI i := h.elim (fun q => ⟨0, by omega, q⟩) (fun q => ⟨1, by omega, q⟩)
def sp_X10_image : em_Sp := fun av hp Q => ∃ bk im kp asd rf qt ab be tx ty at9 st9 tk vl wd it mn so sb my we be9 rw fr k, av = [.ref 0, .int k] ∧ hp = (wM bk im kp asd rf qt ab be tx ty at9 st9 tk vl wd it mn so sb my we be9 rw fr) ∧ (¬ k = 0 → ¬ k = 1 → Q (some (.int (-2))) (wM bk im kp asd (rfM qt rf 0) qt ab be tx ty at9 st9 tk vl wd it mn so sb my we be9 rw fr)) ∧ (∀ i, k = nI i → i < 2 → Q (some (.int 1)) (wM bk (imI bk im i 146) (upd kp i 1) asd rf qt ab be tx ty at9 st9 tk vl wd it mn so sb my we be9 rw fr))
def T_X10_image : List (Nat × em_Op) := [(0, o_iload 1 1), (1, o_i2l 2), (2, o_lconst 0 3), (3, o_lconst 1 4), (4, o_call 3 none (sp_X10_in) 7), (7, o_ifne 15 10), (10, o_aload 0 11), (11, o_call 1 (some 5) (sp_X10_bad) 14), (14, o_iret), (15, o_iconst 0 16), (16, o_istore 2 17), (17, o_iload 2 18), (18, o_iconst 146 21), (21, o_icmpge 48 24), (24, o_aload 0 25), (25, o_getf 5 1 28), (28, o_iconst 146 31), (31, o_iload 1 32), (32, o_imul 33), (33, o_iload 2 34), (34, o_iadd 35), (35, o_aload 0 36), (36, o_getf 5 0 39), (39, o_iload 2 40), (40, o_aldI 0 41), (41, o_iast 42), (42, o_iinc 2 1 45), (45, o_goto 17), (48, o_aload 0 49), (49, o_getf 5 2 52), (52, o_iload 1 53), (53, o_iconst 1 54), (54, o_zast 55), (55, o_iconst 1 56), (56, o_iret)]
theorem me_X10_image : em_Me T_X10_image 3 sp_X10_image := by
  intro Q K hK hle av hp hs
  obtain ⟨bk, im, kp, asd, rf, qt, ab, be, tx, ty, at9, st9, tk, vl, wd, it, mn, so, sb, my, we, be9, rw, fr, k, rfl, rfl, hbad, hq⟩ := hs
  refine ⟨Nat.le_of_ble_eq_true rfl, hK 0 11 0 _ _ _ ?_⟩
  refine ⟨_, _, _, rfl, fun z => ?_, fun z => ?_⟩
  · refine ⟨fun _ => ?_, fun u => absurd u (by decide)⟩
    obtain ⟨i, hi, e⟩ := n01 (in_01.mp z)
    subst e
    have hq := hq i rfl hi
    have loop : ∀ (r j : Nat), j + r = 146 → K 17 [some (.ref 0), some (.int (nI i)), some (.int (nI j))] [] (wM bk (imI bk im i j) kp asd rf qt ab be tx ty at9 st9 tk vl wd it mn so sb my we be9 rw fr) := by
      intro r
      induction r with
      | zero =>
        intro j hj
        have hj : j = 146 := by omega
        subst hj
        refine hK 11 9999 17 _ _ _ ?_
        exact ⟨fun _ => ⟨i, rfl, hi, hq⟩, fun z => absurd (nI_le (a := 146) (b := 146) (by omega) (by omega)) z⟩
      | succ r ih =>
        intro j hj
        have := ih (j + 1) (by omega)
        rw [← imI_s, ← nI_1 j] at this
        refine hK 11 9999 17 _ _ _ ?_
        refine ⟨fun z => absurd z (nI_ge (a := j) (b := 146) (by omega) (by omega)), fun _ => ?_⟩
        exact ⟨j, rfl, by omega, 146 * i + j, i146 i j, by omega, this⟩
    have l0 := loop 146 0 (by omega)
    rw [imI_0] at l0
    exact l0
  · exact ⟨fun u => absurd rfl u, fun _ => ⟨_, _, _, _, _, _, _, _, _, _, _, _, _, _, _, _, _, _, _, _, _, _, _, _, rfl, rfl, hbad (fun q => z (in_01.mpr (Or.inl q))) (fun q => z (in_01.mpr (Or.inr q)))⟩⟩
abbrev rm_X10_image : Room := { frames := 2, cells := 0, slots := 0, locals := 42 }
set_option maxRecDepth 100000 in
set_option maxHeartbeats 4000000 in
theorem ct_X10_image (l : Launch) (D : va_G) (dA : Nat → ClassId) (σ : Nat → Nat) : em_CT l D em_cl dA σ (em_F σ) y_X10_image c_X10_image 3 (Option.some ClassFile.FieldType.int) rm_X10_image (sp_X10_image ) := by
  refine em_CT_of (T := T_X10_image ) (em_F_ok σ) (by decide) (fun p e s m args below meth c A ρ Q C hFok hF hret hlk hin => ?_) (me_X10_image )
  unfold T_X10_image
  refine List.forall_mem_cons.mpr ⟨s_iload_n C (by decide +kernel : decode c_X10_image 0 = .ok (.iload_n 1, 1)) rfl rfl rfl, ?_⟩
  refine List.forall_mem_cons.mpr ⟨s_i2l C (by decide +kernel : decode c_X10_image 1 = .ok (.i2l, 1)) rfl rfl, ?_⟩
  refine List.forall_mem_cons.mpr ⟨s_lconst C (by decide +kernel : decode c_X10_image 2 = .ok (.lconst 0, 1)) rfl rfl (by decide), ?_⟩
  refine List.forall_mem_cons.mpr ⟨s_lconst C (by decide +kernel : decode c_X10_image 3 = .ok (.lconst 1, 1)) rfl rfl (by decide), ?_⟩
  refine List.forall_mem_cons.mpr ⟨s_callS C hFok hF (ct_X10_in l D dA σ) ⟨rfl, rfl⟩ ew771 ew769 ew770 ew6 ⟨by decide, by decide, by decide +kernel⟩ ⟨by decide, by decide⟩ (by decide +kernel : decode c_X10_image 4 = .ok (.invokestatic 69, 3)) rfl rfl ⟨Nat.zero_le _, Nat.zero_le _⟩, ?_⟩
  refine List.forall_mem_cons.mpr ⟨s_ifne C (by decide +kernel : decode c_X10_image 7 = .ok (.ifCond .ne 8, 3)) (by decide) rfl rfl rfl, ?_⟩
  refine List.forall_mem_cons.mpr ⟨s_aload_n C (by decide +kernel : decode c_X10_image 10 = .ok (.aload_n 0, 1)) rfl rfl rfl, ?_⟩
  refine List.forall_mem_cons.mpr ⟨s_callV C hFok hF (ct_X10_bad l D dA σ) ⟨rfl, rfl⟩ ew779 em_cl_X10 ew776 ew778 ewp13 ew6 ⟨by decide, by decide, by decide +kernel⟩ ⟨by decide, by decide⟩ (by decide +kernel : decode c_X10_image 11 = .ok (.invokevirtual 84, 3)) rfl rfl ⟨Nat.zero_le _, Nat.zero_le _⟩, ?_⟩
  refine List.forall_mem_cons.mpr ⟨s_iret C (by decide +kernel : decode c_X10_image 14 = .ok (.ireturn, 1)) hret hlk ⟨Nat.le_refl 0, Nat.le_refl 0⟩, ?_⟩
  refine List.forall_mem_cons.mpr ⟨s_iconst C (by decide +kernel : decode c_X10_image 15 = .ok (.iconst 0, 1)) rfl rfl (by decide), ?_⟩
  refine List.forall_mem_cons.mpr ⟨s_istore_n C (by decide +kernel : decode c_X10_image 16 = .ok (.istore_n 2, 1)) rfl rfl rfl (by decide), ?_⟩
  refine List.forall_mem_cons.mpr ⟨s_iload_n C (by decide +kernel : decode c_X10_image 17 = .ok (.iload_n 2, 1)) rfl rfl rfl, ?_⟩
  refine List.forall_mem_cons.mpr ⟨s_sipush C (by decide +kernel : decode c_X10_image 18 = .ok (.sipush 146, 3)) rfl rfl (by decide), ?_⟩
  refine List.forall_mem_cons.mpr ⟨s_icmpge C (by decide +kernel : decode c_X10_image 21 = .ok (.if_icmp .ge 27, 3)) (by decide) rfl rfl rfl, ?_⟩
  refine List.forall_mem_cons.mpr ⟨s_aload_n C (by decide +kernel : decode c_X10_image 24 = .ok (.aload_n 0, 1)) rfl rfl rfl, ?_⟩
  refine List.forall_mem_cons.mpr ⟨s_getf C (by decide +kernel : decode c_X10_image 25 = .ok (.getfield 13, 3)) rfl rfl em_cl_X10 (by decide) ew692 rfl, ?_⟩
  refine List.forall_mem_cons.mpr ⟨s_sipush C (by decide +kernel : decode c_X10_image 28 = .ok (.sipush 146, 3)) rfl rfl (by decide), ?_⟩
  refine List.forall_mem_cons.mpr ⟨s_iload_n C (by decide +kernel : decode c_X10_image 31 = .ok (.iload_n 1, 1)) rfl rfl rfl, ?_⟩
  refine List.forall_mem_cons.mpr ⟨s_imul C (by decide +kernel : decode c_X10_image 32 = .ok (.imul, 1)) rfl rfl, ?_⟩
  refine List.forall_mem_cons.mpr ⟨s_iload_n C (by decide +kernel : decode c_X10_image 33 = .ok (.iload_n 2, 1)) rfl rfl rfl, ?_⟩
  refine List.forall_mem_cons.mpr ⟨s_iadd C (by decide +kernel : decode c_X10_image 34 = .ok (.iadd, 1)) rfl rfl, ?_⟩
  refine List.forall_mem_cons.mpr ⟨s_aload_n C (by decide +kernel : decode c_X10_image 35 = .ok (.aload_n 0, 1)) rfl rfl rfl, ?_⟩
  refine List.forall_mem_cons.mpr ⟨s_getf C (by decide +kernel : decode c_X10_image 36 = .ok (.getfield 7, 3)) rfl rfl em_cl_X10 (by decide) ew691 rfl, ?_⟩
  refine List.forall_mem_cons.mpr ⟨s_iload_n C (by decide +kernel : decode c_X10_image 39 = .ok (.iload_n 2, 1)) rfl rfl rfl, ?_⟩
  refine List.forall_mem_cons.mpr ⟨s_iald C (by decide +kernel : decode c_X10_image 40 = .ok (.iaload, 1)) rfl rfl, ?_⟩
  refine List.forall_mem_cons.mpr ⟨s_iast C (by decide +kernel : decode c_X10_image 41 = .ok (.iastore, 1)) rfl rfl, ?_⟩
  refine List.forall_mem_cons.mpr ⟨s_iinc C (by decide +kernel : decode c_X10_image 42 = .ok (.iinc 2 1, 3)) rfl rfl (by decide) (by decide), ?_⟩
  refine List.forall_mem_cons.mpr ⟨s_goto C (by decide +kernel : decode c_X10_image 45 = .ok (.goto (-28), 3)) (by decide) rfl, ?_⟩
  refine List.forall_mem_cons.mpr ⟨s_aload_n C (by decide +kernel : decode c_X10_image 48 = .ok (.aload_n 0, 1)) rfl rfl rfl, ?_⟩
  refine List.forall_mem_cons.mpr ⟨s_getf C (by decide +kernel : decode c_X10_image 49 = .ok (.getfield 16, 3)) rfl rfl em_cl_X10 (by decide) ew693 rfl, ?_⟩
  refine List.forall_mem_cons.mpr ⟨s_iload_n C (by decide +kernel : decode c_X10_image 52 = .ok (.iload_n 1, 1)) rfl rfl rfl, ?_⟩
  refine List.forall_mem_cons.mpr ⟨s_iconst C (by decide +kernel : decode c_X10_image 53 = .ok (.iconst 1, 1)) rfl rfl (by decide), ?_⟩
  refine List.forall_mem_cons.mpr ⟨s_zast C (by decide +kernel : decode c_X10_image 54 = .ok (.bastore, 1)) rfl rfl, ?_⟩
  refine List.forall_mem_cons.mpr ⟨s_iconst C (by decide +kernel : decode c_X10_image 55 = .ok (.iconst 1, 1)) rfl rfl (by decide), ?_⟩
  refine List.forall_mem_cons.mpr ⟨s_iret C (by decide +kernel : decode c_X10_image 56 = .ok (.ireturn, 1)) hret hlk ⟨Nat.le_refl 0, Nat.le_refl 0⟩, ?_⟩
  exact fun _ h => absurd h List.not_mem_nil
def sp_X10_from : em_Sp := fun av hp Q => ∃ bk im kp asd rf qt ab be tx ty at9 st9 tk vl wd it mn so sb my we be9 rw fr k, av = [.ref 0, .int k] ∧ hp = (wM bk im kp asd rf qt ab be tx ty at9 st9 tk vl wd it mn so sb my we be9 rw fr) ∧ (¬ k = 0 → ¬ k = 1 → Q (some (.int (-2))) (wM bk im kp asd (rfM qt rf 0) qt ab be tx ty at9 st9 tk vl wd it mn so sb my we be9 rw fr)) ∧ (∀ i, k = nI i → i < 2 → kp i = 0 → Q (some (.int (-3))) (wM bk im kp asd (rfM qt rf 1) qt ab be tx ty at9 st9 tk vl wd it mn so sb my we be9 rw fr)) ∧ (∀ i, k = nI i → i < 2 → ¬ kp i = 0 → Q (some (.int 1)) (wM (frI bk im i 146) im kp asd rf qt ab be tx ty at9 st9 tk vl wd it mn so sb my we be9 rw fr))
def T_X10_from : List (Nat × em_Op) := [(0, o_iload 1 1), (1, o_i2l 2), (2, o_lconst 0 3), (3, o_lconst 1 4), (4, o_call 3 none (sp_X10_in) 7), (7, o_ifne 15 10), (10, o_aload 0 11), (11, o_call 1 (some 5) (sp_X10_bad) 14), (14, o_iret), (15, o_aload 0 16), (16, o_getf 5 2 19), (19, o_iload 1 20), (20, o_aldI 3 21), (21, o_ifne 29 24), (24, o_aload 0 25), (25, o_call 1 (some 5) (sp_X10_no) 28), (28, o_iret), (29, o_iconst 0 30), (30, o_istore 2 31), (31, o_iload 2 32), (32, o_iconst 146 35), (35, o_icmpge 62 38), (38, o_aload 0 39), (39, o_getf 5 0 42), (42, o_iload 2 43), (43, o_aload 0 44), (44, o_getf 5 1 47), (47, o_iconst 146 50), (50, o_iload 1 51), (51, o_imul 52), (52, o_iload 2 53), (53, o_iadd 54), (54, o_aldI 0 55), (55, o_iast 56), (56, o_iinc 2 1 59), (59, o_goto 31), (62, o_iconst 1 63), (63, o_iret)]
theorem me_X10_from : em_Me T_X10_from 3 sp_X10_from := by
  intro Q K hK hle av hp hs
  obtain ⟨bk, im, kp, asd, rf, qt, ab, be, tx, ty, at9, st9, tk, vl, wd, it, mn, so, sb, my, we, be9, rw, fr, k, rfl, rfl, hbad, hno, hq⟩ := hs
  refine ⟨Nat.le_of_ble_eq_true rfl, hK 0 19 0 _ _ _ ?_⟩
  refine ⟨_, _, _, rfl, fun z => ?_, fun z => ?_⟩
  · refine ⟨fun _ => ?_, fun u => absurd u (by decide)⟩
    obtain ⟨i, hi, e⟩ := n01 (in_01.mp z)
    subst e
    refine ⟨i, rfl, hi, fun y => ?_, fun y => ⟨_, _, _, _, _, _, _, _, _, _, _, _, _, _, _, _, _, _, _, _, _, _, _, _, rfl, rfl, hno i rfl hi y⟩⟩
    have hq := hq i rfl hi y
    have loop : ∀ (r j : Nat), j + r = 146 → K 31 [some (.ref 0), some (.int (nI i)), some (.int (nI j))] [] (wM (frI bk im i j) im kp asd rf qt ab be tx ty at9 st9 tk vl wd it mn so sb my we be9 rw fr) := by
      intro r
      induction r with
      | zero =>
        intro j hj
        have hj : j = 146 := by omega
        subst hj
        refine hK 19 9999 31 _ _ _ ?_
        exact ⟨fun _ => hq, fun z => absurd (nI_le (a := 146) (b := 146) (by omega) (by omega)) z⟩
      | succ r ih =>
        intro j hj
        have := ih (j + 1) (by omega)
        rw [← frI_s, ← nI_1 j] at this
        refine hK 19 9999 31 _ _ _ ?_
        refine ⟨fun z => absurd z (nI_ge (a := j) (b := 146) (by omega) (by omega)), fun _ => ?_⟩
        exact ⟨146 * i + j, i146 i j, by omega, j, rfl, by omega, this⟩
    have l0 := loop 146 0 (by omega)
    rw [frI_0] at l0
    exact l0
  · exact ⟨fun u => absurd rfl u, fun _ => ⟨_, _, _, _, _, _, _, _, _, _, _, _, _, _, _, _, _, _, _, _, _, _, _, _, rfl, rfl, hbad (fun q => z (in_01.mpr (Or.inl q))) (fun q => z (in_01.mpr (Or.inr q)))⟩⟩
abbrev rm_X10_from : Room := { frames := 2, cells := 0, slots := 0, locals := 42 }
set_option maxRecDepth 100000 in
set_option maxHeartbeats 4000000 in
theorem ct_X10_from (l : Launch) (D : va_G) (dA : Nat → ClassId) (σ : Nat → Nat) : em_CT l D em_cl dA σ (em_F σ) y_X10_from c_X10_from 3 (Option.some ClassFile.FieldType.int) rm_X10_from (sp_X10_from ) := by
  refine em_CT_of (T := T_X10_from ) (em_F_ok σ) (by decide) (fun p e s m args below meth c A ρ Q C hFok hF hret hlk hin => ?_) (me_X10_from )
  unfold T_X10_from
  refine List.forall_mem_cons.mpr ⟨s_iload_n C (by decide +kernel : decode c_X10_from 0 = .ok (.iload_n 1, 1)) rfl rfl rfl, ?_⟩
  refine List.forall_mem_cons.mpr ⟨s_i2l C (by decide +kernel : decode c_X10_from 1 = .ok (.i2l, 1)) rfl rfl, ?_⟩
  refine List.forall_mem_cons.mpr ⟨s_lconst C (by decide +kernel : decode c_X10_from 2 = .ok (.lconst 0, 1)) rfl rfl (by decide), ?_⟩
  refine List.forall_mem_cons.mpr ⟨s_lconst C (by decide +kernel : decode c_X10_from 3 = .ok (.lconst 1, 1)) rfl rfl (by decide), ?_⟩
  refine List.forall_mem_cons.mpr ⟨s_callS C hFok hF (ct_X10_in l D dA σ) ⟨rfl, rfl⟩ ew771 ew769 ew770 ew6 ⟨by decide, by decide, by decide +kernel⟩ ⟨by decide, by decide⟩ (by decide +kernel : decode c_X10_from 4 = .ok (.invokestatic 69, 3)) rfl rfl ⟨Nat.zero_le _, Nat.zero_le _⟩, ?_⟩
  refine List.forall_mem_cons.mpr ⟨s_ifne C (by decide +kernel : decode c_X10_from 7 = .ok (.ifCond .ne 8, 3)) (by decide) rfl rfl rfl, ?_⟩
  refine List.forall_mem_cons.mpr ⟨s_aload_n C (by decide +kernel : decode c_X10_from 10 = .ok (.aload_n 0, 1)) rfl rfl rfl, ?_⟩
  refine List.forall_mem_cons.mpr ⟨s_callV C hFok hF (ct_X10_bad l D dA σ) ⟨rfl, rfl⟩ ew779 em_cl_X10 ew776 ew778 ewp13 ew6 ⟨by decide, by decide, by decide +kernel⟩ ⟨by decide, by decide⟩ (by decide +kernel : decode c_X10_from 11 = .ok (.invokevirtual 84, 3)) rfl rfl ⟨Nat.zero_le _, Nat.zero_le _⟩, ?_⟩
  refine List.forall_mem_cons.mpr ⟨s_iret C (by decide +kernel : decode c_X10_from 14 = .ok (.ireturn, 1)) hret hlk ⟨Nat.le_refl 0, Nat.le_refl 0⟩, ?_⟩
  refine List.forall_mem_cons.mpr ⟨s_aload_n C (by decide +kernel : decode c_X10_from 15 = .ok (.aload_n 0, 1)) rfl rfl rfl, ?_⟩
  refine List.forall_mem_cons.mpr ⟨s_getf C (by decide +kernel : decode c_X10_from 16 = .ok (.getfield 16, 3)) rfl rfl em_cl_X10 (by decide) ew693 rfl, ?_⟩
  refine List.forall_mem_cons.mpr ⟨s_iload_n C (by decide +kernel : decode c_X10_from 19 = .ok (.iload_n 1, 1)) rfl rfl rfl, ?_⟩
  refine List.forall_mem_cons.mpr ⟨s_zald C (by decide +kernel : decode c_X10_from 20 = .ok (.baload, 1)) rfl rfl, ?_⟩
  refine List.forall_mem_cons.mpr ⟨s_ifne C (by decide +kernel : decode c_X10_from 21 = .ok (.ifCond .ne 8, 3)) (by decide) rfl rfl rfl, ?_⟩
  refine List.forall_mem_cons.mpr ⟨s_aload_n C (by decide +kernel : decode c_X10_from 24 = .ok (.aload_n 0, 1)) rfl rfl rfl, ?_⟩
  refine List.forall_mem_cons.mpr ⟨s_callV C hFok hF (ct_X10_no l D dA σ) ⟨rfl, rfl⟩ ew947 em_cl_X10 ew944 ew946 ewp33 ew6 ⟨by decide, by decide, by decide +kernel⟩ ⟨by decide, by decide⟩ (by decide +kernel : decode c_X10_from 25 = .ok (.invokevirtual 206, 3)) rfl rfl ⟨Nat.zero_le _, Nat.zero_le _⟩, ?_⟩
  refine List.forall_mem_cons.mpr ⟨s_iret C (by decide +kernel : decode c_X10_from 28 = .ok (.ireturn, 1)) hret hlk ⟨Nat.le_refl 0, Nat.le_refl 0⟩, ?_⟩
  refine List.forall_mem_cons.mpr ⟨s_iconst C (by decide +kernel : decode c_X10_from 29 = .ok (.iconst 0, 1)) rfl rfl (by decide), ?_⟩
  refine List.forall_mem_cons.mpr ⟨s_istore_n C (by decide +kernel : decode c_X10_from 30 = .ok (.istore_n 2, 1)) rfl rfl rfl (by decide), ?_⟩
  refine List.forall_mem_cons.mpr ⟨s_iload_n C (by decide +kernel : decode c_X10_from 31 = .ok (.iload_n 2, 1)) rfl rfl rfl, ?_⟩
  refine List.forall_mem_cons.mpr ⟨s_sipush C (by decide +kernel : decode c_X10_from 32 = .ok (.sipush 146, 3)) rfl rfl (by decide), ?_⟩
  refine List.forall_mem_cons.mpr ⟨s_icmpge C (by decide +kernel : decode c_X10_from 35 = .ok (.if_icmp .ge 27, 3)) (by decide) rfl rfl rfl, ?_⟩
  refine List.forall_mem_cons.mpr ⟨s_aload_n C (by decide +kernel : decode c_X10_from 38 = .ok (.aload_n 0, 1)) rfl rfl rfl, ?_⟩
  refine List.forall_mem_cons.mpr ⟨s_getf C (by decide +kernel : decode c_X10_from 39 = .ok (.getfield 7, 3)) rfl rfl em_cl_X10 (by decide) ew691 rfl, ?_⟩
  refine List.forall_mem_cons.mpr ⟨s_iload_n C (by decide +kernel : decode c_X10_from 42 = .ok (.iload_n 2, 1)) rfl rfl rfl, ?_⟩
  refine List.forall_mem_cons.mpr ⟨s_aload_n C (by decide +kernel : decode c_X10_from 43 = .ok (.aload_n 0, 1)) rfl rfl rfl, ?_⟩
  refine List.forall_mem_cons.mpr ⟨s_getf C (by decide +kernel : decode c_X10_from 44 = .ok (.getfield 13, 3)) rfl rfl em_cl_X10 (by decide) ew692 rfl, ?_⟩
  refine List.forall_mem_cons.mpr ⟨s_sipush C (by decide +kernel : decode c_X10_from 47 = .ok (.sipush 146, 3)) rfl rfl (by decide), ?_⟩
  refine List.forall_mem_cons.mpr ⟨s_iload_n C (by decide +kernel : decode c_X10_from 50 = .ok (.iload_n 1, 1)) rfl rfl rfl, ?_⟩
  refine List.forall_mem_cons.mpr ⟨s_imul C (by decide +kernel : decode c_X10_from 51 = .ok (.imul, 1)) rfl rfl, ?_⟩
  refine List.forall_mem_cons.mpr ⟨s_iload_n C (by decide +kernel : decode c_X10_from 52 = .ok (.iload_n 2, 1)) rfl rfl rfl, ?_⟩
  refine List.forall_mem_cons.mpr ⟨s_iadd C (by decide +kernel : decode c_X10_from 53 = .ok (.iadd, 1)) rfl rfl, ?_⟩
  refine List.forall_mem_cons.mpr ⟨s_iald C (by decide +kernel : decode c_X10_from 54 = .ok (.iaload, 1)) rfl rfl, ?_⟩
  refine List.forall_mem_cons.mpr ⟨s_iast C (by decide +kernel : decode c_X10_from 55 = .ok (.iastore, 1)) rfl rfl, ?_⟩
  refine List.forall_mem_cons.mpr ⟨s_iinc C (by decide +kernel : decode c_X10_from 56 = .ok (.iinc 2 1, 3)) rfl rfl (by decide) (by decide), ?_⟩
  refine List.forall_mem_cons.mpr ⟨s_goto C (by decide +kernel : decode c_X10_from 59 = .ok (.goto (-28), 3)) (by decide) rfl, ?_⟩
  refine List.forall_mem_cons.mpr ⟨s_iconst C (by decide +kernel : decode c_X10_from 62 = .ok (.iconst 1, 1)) rfl rfl (by decide), ?_⟩
  refine List.forall_mem_cons.mpr ⟨s_iret C (by decide +kernel : decode c_X10_from 63 = .ok (.ireturn, 1)) hret hlk ⟨Nat.le_refl 0, Nat.le_refl 0⟩, ?_⟩
  exact fun _ h => absurd h List.not_mem_nil
def em0 (j : Nat) : Nat := if j = 6 then 2 else if j = 7 then 4 else 0
def emI (bk : Nat → Int32) (k : Nat) : Nat → Int32 := fun j => if j < k then nI (em0 j) else bk j
theorem emI_0 (bk : Nat → Int32) : emI bk 0 = bk := by
  funext j; exact if_neg (by omega)
theorem emI_s (bk : Nat → Int32) (k : Nat) : upd (emI bk k) k (nI (em0 k)) = emI bk (k + 1) := by
  funext j
  by_cases h : j = k
  · subst h; rw [pk_us]; unfold emI; rw [if_pos (by omega)]
  · rw [pk_un h]; unfold emI
    by_cases h2 : j < k
    · rw [if_pos h2, if_pos (by omega)]
    · rw [if_neg h2, if_neg (by omega)]
def sp_X10_empties : em_Sp := fun av hp Q => ∃ bk im kp asd rf qt ab be tx ty at9 st9 tk vl wd it mn so sb my we be9 rw fr, av = [.ref 0] ∧ hp = (wM bk im kp asd rf qt ab be tx ty at9 st9 tk vl wd it mn so sb my we be9 rw fr) ∧ Q none (wM (emI bk 146) im kp asd rf qt ab be tx ty at9 st9 tk vl wd it mn so sb my we be9 rw fr)
def T_X10_empties : List (Nat × em_Op) := [(0, o_iconst 0 1), (1, o_istore 1 2), (2, o_iload 1 3), (3, o_iconst 146 6), (6, o_icmpge 42 9), (9, o_aload 0 10), (10, o_getf 5 0 13), (13, o_iload 1 14), (14, o_iload 1 15), (15, o_iconst 6 17), (17, o_icmpne 24 20), (20, o_iconst 2 21), (21, o_goto 35), (24, o_iload 1 25), (25, o_iconst 7 27), (27, o_icmpne 34 30), (30, o_iconst 4 31), (31, o_goto 35), (34, o_iconst 0 35), (35, o_iast 36), (36, o_iinc 1 1 39), (39, o_goto 2), (42, o_vret)]
theorem me_X10_empties : em_Me T_X10_empties 2 sp_X10_empties := by
  intro Q K hK hle av hp hs
  obtain ⟨bk, im, kp, asd, rf, qt, ab, be, tx, ty, at9, st9, tk, vl, wd, it, mn, so, sb, my, we, be9, rw, fr, rfl, rfl, hq⟩ := hs
  refine ⟨Nat.le_of_ble_eq_true rfl, ?_⟩
  have loop : ∀ (r j : Nat), j + r = 146 → K 2 [some (.ref 0), some (.int (nI j))] [] (wM (emI bk j) im kp asd rf qt ab be tx ty at9 st9 tk vl wd it mn so sb my we be9 rw fr) := by
    intro r
    induction r with
    | zero =>
      intro j hj
      have hj : j = 146 := by omega
      subst hj
      refine hK 2 9999 2 _ _ _ ?_
      exact ⟨fun _ => hq, fun z => absurd (nI_le (a := 146) (b := 146) (by omega) (by omega)) z⟩
    | succ r ih =>
      intro j hj
      have nx : ∀ v, v = nI (em0 j) → K 35 [some (.ref 0), some (.int (nI j))] [.int v, .int (nI j), .ref 1] (wM (emI bk j) im kp asd rf qt ab be tx ty at9 st9 tk vl wd it mn so sb my we be9 rw fr) := by
        intro v hv
        subst hv
        have := ih (j + 1) (by omega)
        rw [← emI_s, ← nI_1 j] at this
        refine hK 19 3 35 _ _ _ ?_
        exact ⟨j, rfl, by omega, this⟩
      refine hK 2 17 2 _ _ _ ?_
      refine ⟨fun z => absurd z (nI_ge (a := j) (b := 146) (by omega) (by omega)), fun _ => ⟨fun z => ⟨fun y => ?_, fun y => ?_⟩, fun z => ?_⟩⟩
      · have z : ¬ j = 6 := fun q => z (by rw [q]; rfl)
        have y : ¬ j = 7 := fun q => y (by rw [q]; rfl)
        exact nx _ (by rw [em0, if_neg z, if_neg y]; rfl)
      · have z : ¬ j = 6 := fun q => z (by rw [q]; rfl)
        have y : j = 7 := (nI_eq (b := 7) (by omega) (by omega)).mp y
        exact nx _ (by rw [em0, if_neg z, if_pos y]; rfl)
      · have z : j = 6 := (nI_eq (b := 6) (by omega) (by omega)).mp z
        exact nx _ (by rw [em0, if_pos z]; rfl)
  have l0 := loop 146 0 (by omega)
  rw [emI_0] at l0
  exact hK 0 2 0 _ _ _ l0
abbrev rm_X10_empties : Room := { frames := 0, cells := 0, slots := 0, locals := 0 }
set_option maxRecDepth 100000 in
set_option maxHeartbeats 4000000 in
theorem ct_X10_empties (l : Launch) (D : va_G) (dA : Nat → ClassId) (σ : Nat → Nat) : em_CT l D em_cl dA σ (em_F σ) y_X10_empties c_X10_empties 2 (Option.none : Option ClassFile.FieldType) rm_X10_empties (sp_X10_empties ) := by
  refine em_CT_of (T := T_X10_empties ) (em_F_ok σ) (by decide) (fun p e s m args below meth c A ρ Q C hFok hF hret hlk hin => ?_) (me_X10_empties )
  unfold T_X10_empties
  refine List.forall_mem_cons.mpr ⟨s_iconst C (by decide +kernel : decode c_X10_empties 0 = .ok (.iconst 0, 1)) rfl rfl (by decide), ?_⟩
  refine List.forall_mem_cons.mpr ⟨s_istore_n C (by decide +kernel : decode c_X10_empties 1 = .ok (.istore_n 1, 1)) rfl rfl rfl (by decide), ?_⟩
  refine List.forall_mem_cons.mpr ⟨s_iload_n C (by decide +kernel : decode c_X10_empties 2 = .ok (.iload_n 1, 1)) rfl rfl rfl, ?_⟩
  refine List.forall_mem_cons.mpr ⟨s_sipush C (by decide +kernel : decode c_X10_empties 3 = .ok (.sipush 146, 3)) rfl rfl (by decide), ?_⟩
  refine List.forall_mem_cons.mpr ⟨s_icmpge C (by decide +kernel : decode c_X10_empties 6 = .ok (.if_icmp .ge 36, 3)) (by decide) rfl rfl rfl, ?_⟩
  refine List.forall_mem_cons.mpr ⟨s_aload_n C (by decide +kernel : decode c_X10_empties 9 = .ok (.aload_n 0, 1)) rfl rfl rfl, ?_⟩
  refine List.forall_mem_cons.mpr ⟨s_getf C (by decide +kernel : decode c_X10_empties 10 = .ok (.getfield 7, 3)) rfl rfl em_cl_X10 (by decide) ew691 rfl, ?_⟩
  refine List.forall_mem_cons.mpr ⟨s_iload_n C (by decide +kernel : decode c_X10_empties 13 = .ok (.iload_n 1, 1)) rfl rfl rfl, ?_⟩
  refine List.forall_mem_cons.mpr ⟨s_iload_n C (by decide +kernel : decode c_X10_empties 14 = .ok (.iload_n 1, 1)) rfl rfl rfl, ?_⟩
  refine List.forall_mem_cons.mpr ⟨s_bipush C (by decide +kernel : decode c_X10_empties 15 = .ok (.bipush 6, 2)) rfl rfl (by decide), ?_⟩
  refine List.forall_mem_cons.mpr ⟨s_icmpne C (by decide +kernel : decode c_X10_empties 17 = .ok (.if_icmp .ne 7, 3)) (by decide) rfl rfl rfl, ?_⟩
  refine List.forall_mem_cons.mpr ⟨s_iconst C (by decide +kernel : decode c_X10_empties 20 = .ok (.iconst 2, 1)) rfl rfl (by decide), ?_⟩
  refine List.forall_mem_cons.mpr ⟨s_goto C (by decide +kernel : decode c_X10_empties 21 = .ok (.goto 14, 3)) (by decide) rfl, ?_⟩
  refine List.forall_mem_cons.mpr ⟨s_iload_n C (by decide +kernel : decode c_X10_empties 24 = .ok (.iload_n 1, 1)) rfl rfl rfl, ?_⟩
  refine List.forall_mem_cons.mpr ⟨s_bipush C (by decide +kernel : decode c_X10_empties 25 = .ok (.bipush 7, 2)) rfl rfl (by decide), ?_⟩
  refine List.forall_mem_cons.mpr ⟨s_icmpne C (by decide +kernel : decode c_X10_empties 27 = .ok (.if_icmp .ne 7, 3)) (by decide) rfl rfl rfl, ?_⟩
  refine List.forall_mem_cons.mpr ⟨s_iconst C (by decide +kernel : decode c_X10_empties 30 = .ok (.iconst 4, 1)) rfl rfl (by decide), ?_⟩
  refine List.forall_mem_cons.mpr ⟨s_goto C (by decide +kernel : decode c_X10_empties 31 = .ok (.goto 4, 3)) (by decide) rfl, ?_⟩
  refine List.forall_mem_cons.mpr ⟨s_iconst C (by decide +kernel : decode c_X10_empties 34 = .ok (.iconst 0, 1)) rfl rfl (by decide), ?_⟩
  refine List.forall_mem_cons.mpr ⟨s_iast C (by decide +kernel : decode c_X10_empties 35 = .ok (.iastore, 1)) rfl rfl, ?_⟩
  refine List.forall_mem_cons.mpr ⟨s_iinc C (by decide +kernel : decode c_X10_empties 36 = .ok (.iinc 1 1, 3)) rfl rfl (by decide) (by decide), ?_⟩
  refine List.forall_mem_cons.mpr ⟨s_goto C (by decide +kernel : decode c_X10_empties 39 = .ok (.goto (-37), 3)) (by decide) rfl, ?_⟩
  refine List.forall_mem_cons.mpr ⟨s_vret C (by decide +kernel : decode c_X10_empties 42 = .ok (.return_, 1)) hret hlk ⟨Nat.le_refl 0, Nat.le_refl 0⟩, ?_⟩
  exact fun _ h => absurd h List.not_mem_nil
