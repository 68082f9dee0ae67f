/-! ===== Table ===== -/
def tbL (n : Nat) (s : Int32) (g : Nat → Int32) : Nat → Int32
  | 0 => 0
  | k + 1 => if (s >>> (nI (k + 1) &&& 31)) &&& 1 = 0 then mxI (tbL n s g k) (g (k + 1)) else tbL n s g k
def tbm (n : Nat) (ki : Nat → Int32) (we lea mst : Int32) : Nat → Int32 → Nat → Int64 → Int32
  | 0, _, la, m => nI (cU2 (mwB we lea mst (btN n ki we m la 0)) n n)
  | d + 1, s, la, m => tbL n s (fun x => tbm n ki we lea mst d (bor s x) x (btN n ki we m la x)) (n - 1)
def sp_X6_most (d : Nat) : em_Sp := fun av hp Q => ∃ pe ki mi se we lea mst pa fi sd ev un ma ea co ca clt m s la pl n, av = [.ref 0, .long m, .int s, .int (nI la), .int (nI pl)] ∧ hp = (wT pe ki mi se we lea mst pa fi sd ev un ma ea co ca clt) ∧ pe = nI n ∧ n ≤ 6 ∧ la < 6 ∧ pl ≤ 7 ∧ n ≤ pl + d ∧ Q (some (.int (tbm n ki we lea mst (n - pl) s la m))) hp
def sp_X6_mostP : Nat → em_Sp
  | 0 => spF
  | d + 1 => sp_X6_most d
def T_X6_most (sp : em_Sp) : List (Nat × em_Op) := [(0, o_iload 5 2), (2, o_aload 0 3), (3, o_getf 2 0 6), (6, o_icmplt 22 9), (9, o_aload 0 10), (10, o_aload 0 11), (11, o_lload 1 12), (12, o_iload 4 14), (14, o_iconst 0 15), (15, o_call 4 (some 2) (sp_X7_behindTalk2) 18), (18, o_call 2 (some 2) (sp_X7_lawfulPairs) 21), (21, o_iret), (22, o_iconst 0 23), (23, o_istore 6 25), (25, o_iconst 1 26), (26, o_istore 7 28), (28, o_iload 7 30), (30, o_aload 0 31), (31, o_getf 2 0 34), (34, o_icmpge 88 37), (37, o_iload 3 38), (38, o_iload 7 40), (40, o_ishr 41), (41, o_iconst 1 42), (42, o_iand 43), (43, o_ifne 82 46), (46, o_aload 0 47), (47, o_lload 1 48), (48, o_iload 4 50), (50, o_iload 7 52), (52, o_call 4 (some 2) (sp_X7_behindTalk2) 55), (55, o_lstore 8 57), (57, o_iload 6 59), (59, o_aload 0 60), (60, o_lload 8 62), (62, o_iload 3 63), (63, o_iconst 1 64), (64, o_iload 7 66), (66, o_ishl 67), (67, o_ior 68), (68, o_iload 7 70), (70, o_iload 5 72), (72, o_iconst 1 73), (73, o_iadd 74), (74, o_call 5 none (sp) 77), (77, o_max 80), (80, o_istore 6 82), (82, o_iinc 7 1 85), (85, o_goto 28), (88, o_iload 6 90), (90, o_iret)]
theorem me_X6_most : ∀ d, em_Me (T_X6_most (sp_X6_mostP d)) 10 (sp_X6_most d) := by
  intro d Q K hK hle av hp hs
  obtain ⟨pe, ki, mi, se, we, lea, mst, pa, fi, sd, ev, un, ma, ea, co, ca, clt, m, s, la, pl, n, rfl, rfl, rfl, hn, hla, hpl, hd, hq⟩ := hs
  refine ⟨Nat.le_of_ble_eq_true rfl, ?_⟩
  refine hK 0 16 0 _ _ _ ?_
  refine ⟨fun h => ?_, fun h => ?_⟩
  · have h6 : pl < n := (nI_ltI (by omega) (by omega)).mp h
    obtain ⟨d, rfl⟩ : ∃ d', d = d' + 1 := ⟨d - 1, by omega⟩
    obtain ⟨k, hk⟩ : ∃ k, n - pl = k + 1 := ⟨n - pl - 1, by omega⟩
    rw [hk, tbm] at hq
    generalize hG : (fun x => tbm n ki we lea mst k (bor s x) x (btN n ki we m la x)) = g at hq
    have loop : ∀ (r j : Nat), j + r = n - 1 → K 28 [some (.ref 0), some (.long m), none, some (.int s), some (.int (nI la)), some (.int (nI pl)), some (.int (tbL n s g j)), some (.int (nI (1 + j))), none, none] [] (wT (nI n) ki mi se we lea mst pa fi sd ev un ma ea co ca clt) := by
      intro r
      induction r with
      | zero =>
        intro j hj
        have hj : j = n - 1 := by omega
        subst hj
        refine hK 16 9999 28 _ _ _ ?_
        exact ⟨fun _ => hq, fun z => absurd (nI_le (a := n) (b := 1 + (n - 1)) (by omega) (by omega)) z⟩
      | succ r ih =>
        intro j hj
        have next : ∀ x y v, v = tbL n s g (j + 1) → K 82 [some (.ref 0), some (.long m), none, some (.int s), some (.int (nI la)), some (.int (nI pl)), some (.int v), some (.int (nI (1 + j))), x, y] [] (wT (nI n) ki mi se we lea mst pa fi sd ev un ma ea co ca clt) := by
          intro x y v hv
          subst hv
          have := ih (j + 1) (by omega)
          rw [show 1 + (j + 1) = (1 + j) + 1 by omega, ← nI_1] at this
          exact hK 47 2 82 _ _ _ (hle _ _ _ _ _ (by repeat (first | exact trivial | refine ⟨rfl, ?_⟩)) this)
        refine hK 16 31 28 _ _ _ ?_
        refine ⟨fun z => absurd z (nI_ge (a := 1 + j) (b := n) (by omega) (by omega)), fun _ => ?_⟩
        refine ⟨fun z => ?_, fun z => ?_⟩
        · exact next _ _ _ (by rw [tbL, if_neg (by rw [Nat.add_comm j 1]; exact z)])
        · refine ⟨_, _, _, _, _, _, _, _, _, _, _, _, _, _, _, _, _, m, la, 1 + j, n, rfl, rfl, rfl, hn, by omega, by omega, ?_⟩
          refine ⟨_, _, _, _, _, _, _, _, _, _, _, _, _, _, _, _, _, _, bor s (1 + j), 1 + j, pl + 1, n, by rw [nI_1]; rfl, rfl, rfl, hn, by omega, by omega, by omega, ?_⟩
          refine next _ _ _ ?_
          have e : tbL n s g (j + 1) = mxI (tbL n s g j) (g (j + 1)) := by rw [tbL, if_pos (by rw [Nat.add_comm j 1]; exact z)]
          rw [e]
          show mxI _ _ = mxI _ _
          rw [show n - (pl + 1) = k by omega, Nat.add_comm 1 j, ← hG]
    have := loop (n - 1) 0 (by omega)
    exact hle _ _ _ _ _ (by repeat (first | exact trivial | refine ⟨rfl, ?_⟩)) this
  · have h6 : ¬ pl < n := fun y => h (nI_lt y (by omega))
    rw [show n - pl = 0 by omega, tbm] at hq
    exact ⟨_, _, _, _, _, _, _, _, _, _, _, _, _, _, _, _, _, m, la, 0, n, rfl, rfl, rfl, hn, by omega, by omega, _, _, _, _, _, _, _, _, _, _, _, _, _, _, _, _, _, _, n, rfl, rfl, rfl, hn, hq⟩
def rm_X6_most (d : Nat) : Room := { frames := 4 + d, cells := 0, slots := 0, locals := 92 + d * 29 }
set_option maxRecDepth 100000 in
set_option maxHeartbeats 4000000 in
theorem snd_X6_most (l : Launch) (D : va_G) (dA : Nat → ClassId) (σ : Nat → Nat) (sp : em_Sp) (rmc rm : Room) (hrec : em_CT l D em_cl dA σ (em_F σ) y_X6_most c_X6_most 10 (Option.some ClassFile.FieldType.int) rmc sp) (hrz : rmc.cells = 0 ∧ rmc.slots = 0) (hR : rmc.frames + 1 ≤ rm.frames ∧ 8 + (10 + 11) + rmc.locals ≤ rm.locals) (hR2 : 4 ≤ rm.frames ∧ 92 ≤ rm.locals) (p : Program) (e : Env) (s : State) (m : MethodId) (args : Array Value) (below : List Frame) (meth : Method) (c : Code) (A : Nat → Prop) (ρ : Nat → Nat) (Q : em_Q) (C : em_Cx p s m args c D em_cl A 10 (em_tys dA) c_X6_most y_X6_most.cls) (hFok : em_Fok (em_F σ)) (hF : em_F σ A s s.heap) (hret : meth.sig.returnType = (Option.some ClassFile.FieldType.int)) (hlk : meth.locks = false) : ∀ q ∈ T_X6_most sp, em_Snd p l e rm s m args below meth c D em_cl dA σ A 10 (fun _ => (0, 0)) (fun ρ' => ρ' = ρ) (MQ below (em_Qc D em_cl dA σ (fun ρ' => ρ' = ρ) Q A) args s 0 0 A) Q q.1 q.2 := by
  unfold T_X6_most
  refine List.forall_mem_cons.mpr ⟨s_iload C (by decide +kernel : decode c_X6_most 0 = .ok (.iload 5, 2)) rfl rfl, ?_⟩
  refine List.forall_mem_cons.mpr ⟨s_aload_n C (by decide +kernel : decode c_X6_most 2 = .ok (.aload_n 0, 1)) rfl rfl rfl, ?_⟩
  refine List.forall_mem_cons.mpr ⟨s_getf C (by decide +kernel : decode c_X6_most 3 = .ok (.getfield 7, 3)) rfl rfl em_cl_X7 (by decide) ew86 rfl, ?_⟩
  refine List.forall_mem_cons.mpr ⟨s_icmplt C (by decide +kernel : decode c_X6_most 6 = .ok (.if_icmp .lt 16, 3)) (by decide) rfl rfl rfl, ?_⟩
  refine List.forall_mem_cons.mpr ⟨s_aload_n C (by decide +kernel : decode c_X6_most 9 = .ok (.aload_n 0, 1)) rfl rfl rfl, ?_⟩
  refine List.forall_mem_cons.mpr ⟨s_aload_n C (by decide +kernel : decode c_X6_most 10 = .ok (.aload_n 0, 1)) rfl rfl rfl, ?_⟩
  refine List.forall_mem_cons.mpr ⟨s_lload_n C (by decide +kernel : decode c_X6_most 11 = .ok (.lload_n 1, 1)) rfl rfl rfl, ?_⟩
  refine List.forall_mem_cons.mpr ⟨s_iload C (by decide +kernel : decode c_X6_most 12 = .ok (.iload 4, 2)) rfl rfl, ?_⟩
  refine List.forall_mem_cons.mpr ⟨s_iconst C (by decide +kernel : decode c_X6_most 14 = .ok (.iconst 0, 1)) rfl rfl (by decide), ?_⟩
  refine List.forall_mem_cons.mpr ⟨s_callV C hFok hF (ct_X7_behindTalk2 l D dA σ) ⟨rfl, rfl⟩ ew438 em_cl_X7 ew591 ew436 ew437 ew5 ⟨by decide, by decide, by decide +kernel⟩ ⟨Nat.le_trans (by decide) hR2.1, Nat.le_trans (by decide) hR2.2⟩ (by decide +kernel : decode c_X6_most 15 = .ok (.invokevirtual 13, 3)) rfl rfl ⟨Nat.zero_le _, Nat.zero_le _⟩, ?_⟩
  refine List.forall_mem_cons.mpr ⟨s_callV C hFok hF (ct_X7_lawfulPairs l D dA σ) ⟨rfl, rfl⟩ ew595 em_cl_X7 ew592 ew593 ew594 ew5 ⟨by decide, by decide, by decide +kernel⟩ ⟨Nat.le_trans (by decide) hR2.1, Nat.le_trans (by decide) hR2.2⟩ (by decide +kernel : decode c_X6_most 18 = .ok (.invokevirtual 17, 3)) rfl rfl ⟨Nat.zero_le _, Nat.zero_le _⟩, ?_⟩
  refine List.forall_mem_cons.mpr ⟨s_iret C (by decide +kernel : decode c_X6_most 21 = .ok (.ireturn, 1)) hret hlk ⟨Nat.le_refl 0, Nat.le_refl 0⟩, ?_⟩
  refine List.forall_mem_cons.mpr ⟨s_iconst C (by decide +kernel : decode c_X6_most 22 = .ok (.iconst 0, 1)) rfl rfl (by decide), ?_⟩
  refine List.forall_mem_cons.mpr ⟨s_istore C (by decide +kernel : decode c_X6_most 23 = .ok (.istore 6, 2)) rfl rfl (by decide), ?_⟩
  refine List.forall_mem_cons.mpr ⟨s_iconst C (by decide +kernel : decode c_X6_most 25 = .ok (.iconst 1, 1)) rfl rfl (by decide), ?_⟩
  refine List.forall_mem_cons.mpr ⟨s_istore C (by decide +kernel : decode c_X6_most 26 = .ok (.istore 7, 2)) rfl rfl (by decide), ?_⟩
  refine List.forall_mem_cons.mpr ⟨s_iload C (by decide +kernel : decode c_X6_most 28 = .ok (.iload 7, 2)) rfl rfl, ?_⟩
  refine List.forall_mem_cons.mpr ⟨s_aload_n C (by decide +kernel : decode c_X6_most 30 = .ok (.aload_n 0, 1)) rfl rfl rfl, ?_⟩
  refine List.forall_mem_cons.mpr ⟨s_getf C (by decide +kernel : decode c_X6_most 31 = .ok (.getfield 7, 3)) rfl rfl em_cl_X7 (by decide) ew86 rfl, ?_⟩
  refine List.forall_mem_cons.mpr ⟨s_icmpge C (by decide +kernel : decode c_X6_most 34 = .ok (.if_icmp .ge 54, 3)) (by decide) rfl rfl rfl, ?_⟩
  refine List.forall_mem_cons.mpr ⟨s_iload_n C (by decide +kernel : decode c_X6_most 37 = .ok (.iload_n 3, 1)) rfl rfl rfl, ?_⟩
  refine List.forall_mem_cons.mpr ⟨s_iload C (by decide +kernel : decode c_X6_most 38 = .ok (.iload 7, 2)) rfl rfl, ?_⟩
  refine List.forall_mem_cons.mpr ⟨s_ishr C (by decide +kernel : decode c_X6_most 40 = .ok (.ishr, 1)) rfl rfl, ?_⟩
  refine List.forall_mem_cons.mpr ⟨s_iconst C (by decide +kernel : decode c_X6_most 41 = .ok (.iconst 1, 1)) rfl rfl (by decide), ?_⟩
  refine List.forall_mem_cons.mpr ⟨s_iand C (by decide +kernel : decode c_X6_most 42 = .ok (.iand, 1)) rfl rfl, ?_⟩
  refine List.forall_mem_cons.mpr ⟨s_ifne C (by decide +kernel : decode c_X6_most 43 = .ok (.ifCond .ne 39, 3)) (by decide) rfl rfl rfl, ?_⟩
  refine List.forall_mem_cons.mpr ⟨s_aload_n C (by decide +kernel : decode c_X6_most 46 = .ok (.aload_n 0, 1)) rfl rfl rfl, ?_⟩
  refine List.forall_mem_cons.mpr ⟨s_lload_n C (by decide +kernel : decode c_X6_most 47 = .ok (.lload_n 1, 1)) rfl rfl rfl, ?_⟩
  refine List.forall_mem_cons.mpr ⟨s_iload C (by decide +kernel : decode c_X6_most 48 = .ok (.iload 4, 2)) rfl rfl, ?_⟩
  refine List.forall_mem_cons.mpr ⟨s_iload C (by decide +kernel : decode c_X6_most 50 = .ok (.iload 7, 2)) rfl rfl, ?_⟩
  refine List.forall_mem_cons.mpr ⟨s_callV C hFok hF (ct_X7_behindTalk2 l D dA σ) ⟨rfl, rfl⟩ ew438 em_cl_X7 ew591 ew436 ew437 ew5 ⟨by decide, by decide, by decide +kernel⟩ ⟨Nat.le_trans (by decide) hR2.1, Nat.le_trans (by decide) hR2.2⟩ (by decide +kernel : decode c_X6_most 52 = .ok (.invokevirtual 13, 3)) rfl rfl ⟨Nat.zero_le _, Nat.zero_le _⟩, ?_⟩
  refine List.forall_mem_cons.mpr ⟨s_lstore C (by decide +kernel : decode c_X6_most 55 = .ok (.lstore 8, 2)) rfl rfl (by decide), ?_⟩
  refine List.forall_mem_cons.mpr ⟨s_iload C (by decide +kernel : decode c_X6_most 57 = .ok (.iload 6, 2)) rfl rfl, ?_⟩
  refine List.forall_mem_cons.mpr ⟨s_aload_n C (by decide +kernel : decode c_X6_most 59 = .ok (.aload_n 0, 1)) rfl rfl rfl, ?_⟩
  refine List.forall_mem_cons.mpr ⟨s_lload C (by decide +kernel : decode c_X6_most 60 = .ok (.lload 8, 2)) rfl rfl, ?_⟩
  refine List.forall_mem_cons.mpr ⟨s_iload_n C (by decide +kernel : decode c_X6_most 62 = .ok (.iload_n 3, 1)) rfl rfl rfl, ?_⟩
  refine List.forall_mem_cons.mpr ⟨s_iconst C (by decide +kernel : decode c_X6_most 63 = .ok (.iconst 1, 1)) rfl rfl (by decide), ?_⟩
  refine List.forall_mem_cons.mpr ⟨s_iload C (by decide +kernel : decode c_X6_most 64 = .ok (.iload 7, 2)) rfl rfl, ?_⟩
  refine List.forall_mem_cons.mpr ⟨s_ishl C (by decide +kernel : decode c_X6_most 66 = .ok (.ishl, 1)) rfl rfl, ?_⟩
  refine List.forall_mem_cons.mpr ⟨s_ior C (by decide +kernel : decode c_X6_most 67 = .ok (.ior, 1)) rfl rfl, ?_⟩
  refine List.forall_mem_cons.mpr ⟨s_iload C (by decide +kernel : decode c_X6_most 68 = .ok (.iload 7, 2)) rfl rfl, ?_⟩
  refine List.forall_mem_cons.mpr ⟨s_iload C (by decide +kernel : decode c_X6_most 70 = .ok (.iload 5, 2)) rfl rfl, ?_⟩
  refine List.forall_mem_cons.mpr ⟨s_iconst C (by decide +kernel : decode c_X6_most 72 = .ok (.iconst 1, 1)) rfl rfl (by decide), ?_⟩
  refine List.forall_mem_cons.mpr ⟨s_iadd C (by decide +kernel : decode c_X6_most 73 = .ok (.iadd, 1)) rfl rfl, ?_⟩
  refine List.forall_mem_cons.mpr ⟨s_callS C hFok hF (hrec) hrz ew590 ew596 ew589 ew18 ⟨by decide, by decide, by decide +kernel⟩ hR (by decide +kernel : decode c_X6_most 74 = .ok (.invokestatic 21, 3)) rfl rfl ⟨Nat.zero_le _, Nat.zero_le _⟩, ?_⟩
  refine List.forall_mem_cons.mpr ⟨s_max C ew597 ew495 ew15 ew496 ⟨Nat.le_trans (by decide) hR2.1, Nat.le_trans (by decide) hR2.2⟩ ⟨Nat.zero_le _, Nat.zero_le _⟩ (by decide +kernel : decode c_X6_most 77 = .ok (.invokestatic 27, 3)) rfl rfl, ?_⟩
  refine List.forall_mem_cons.mpr ⟨s_istore C (by decide +kernel : decode c_X6_most 80 = .ok (.istore 6, 2)) rfl rfl (by decide), ?_⟩
  refine List.forall_mem_cons.mpr ⟨s_iinc C (by decide +kernel : decode c_X6_most 82 = .ok (.iinc 7 1, 3)) rfl rfl (by decide) (by decide), ?_⟩
  refine List.forall_mem_cons.mpr ⟨s_goto C (by decide +kernel : decode c_X6_most 85 = .ok (.goto (-57), 3)) (by decide) rfl, ?_⟩
  refine List.forall_mem_cons.mpr ⟨s_iload C (by decide +kernel : decode c_X6_most 88 = .ok (.iload 6, 2)) rfl rfl, ?_⟩
  refine List.forall_mem_cons.mpr ⟨s_iret C (by decide +kernel : decode c_X6_most 90 = .ok (.ireturn, 1)) hret hlk ⟨Nat.le_refl 0, Nat.le_refl 0⟩, ?_⟩
  exact fun _ h => absurd h List.not_mem_nil
theorem ct_X6_most (l : Launch) (D : va_G) (dA : Nat → ClassId) (σ : Nat → Nat) : ∀ d : Nat, em_CT l D em_cl dA σ (em_F σ) y_X6_most c_X6_most 10 (Option.some ClassFile.FieldType.int) (rm_X6_most d) (sp_X6_most d)
  | 0 => em_CT_of (T := T_X6_most spF) (em_F_ok σ) (by decide) (fun p e s m args below meth c A ρ Q C hFok hF hret hlk hin => snd_X6_most l D dA σ spF ⟨0, 0, 0, 0⟩ _ em_CT_F ⟨rfl, rfl⟩ ⟨by decide, by decide⟩ ⟨by decide, by decide⟩ p e s m args below meth c A ρ Q C hFok hF hret hlk) (me_X6_most 0)
  | d + 1 => em_CT_of (T := T_X6_most (sp_X6_most d)) (em_F_ok σ) (by decide) (fun p e s m args below meth c A ρ Q C hFok hF hret hlk hin => snd_X6_most l D dA σ (sp_X6_most d) (rm_X6_most d) _ (ct_X6_most l D dA σ d) ⟨rfl, rfl⟩ ⟨by show 4 + d + 1 ≤ 4 + (d + 1); omega, by show 8 + (10 + 11) + (92 + d * 29) ≤ 92 + (d + 1) * 29; omega⟩ ⟨by show 4 ≤ 4 + (d + 1); omega, by show 92 ≤ 92 + (d + 1) * 29; omega⟩ p e s m args below meth c A ρ Q C hFok hF hret hlk) (me_X6_most (d + 1))
def tfL (n : Nat) (s : Int32) (g : Nat → Int32) (best : Int32) : Nat → Nat
  | 0 => 0
  | r + 1 => if (s >>> (nI (n - (r + 1)) &&& 31)) &&& 1 = 0 ∧ g (n - (r + 1)) = best then n - (r + 1) else tfL n s g best r
/-- who sits at place pl, n - pl = d + 1 -/
def tfc (n : Nat) (ki : Nat → Int32) (we lea mst : Int32) (d : Nat) (s : Int32) (la : Nat) (m : Int64) : Nat :=
  tfL n s (fun x => tbm n ki we lea mst d (bor s x) x (btN n ki we m la x)) (tbm n ki we lea mst (d + 1) s la m) (n - 1)
def sp_X6_firstChoice : em_Sp := fun av hp Q => ∃ pe ki mi se we lea mst pa fi sd ev un ma ea co ca clt m s la pl n d, av = [.ref 0, .long m, .int s, .int (nI la), .int (nI pl)] ∧ hp = (wT pe ki mi se we lea mst pa fi sd ev un ma ea co ca clt) ∧ pe = nI n ∧ n ≤ 6 ∧ la < 6 ∧ pl + d + 1 = n ∧ Q (some (.int (nI (tfc n ki we lea mst d s la m)))) hp
def T_X6_firstChoice : List (Nat × em_Op) := [(0, o_aload 0 1), (1, o_lload 1 2), (2, o_iload 3 3), (3, o_iload 4 5), (5, o_iload 5 7), (7, o_call 5 none (sp_X6_most 6) 10), (10, o_istore 6 12), (12, o_iconst 1 13), (13, o_istore 7 15), (15, o_iload 7 17), (17, o_aload 0 18), (18, o_getf 2 0 21), (21, o_icmpge 76 24), (24, o_iload 3 25), (25, o_iload 7 27), (27, o_ishr 28), (28, o_iconst 1 29), (29, o_iand 30), (30, o_ifne 70 33), (33, o_aload 0 34), (34, o_lload 1 35), (35, o_iload 4 37), (37, o_iload 7 39), (39, o_call 4 (some 2) (sp_X7_behindTalk2) 42), (42, o_lstore 8 44), (44, o_aload 0 45), (45, o_lload 8 47), (47, o_iload 3 48), (48, o_iconst 1 49), (49, o_iload 7 51), (51, o_ishl 52), (52, o_ior 53), (53, o_iload 7 55), (55, o_iload 5 57), (57, o_iconst 1 58), (58, o_iadd 59), (59, o_call 5 none (sp_X6_most 6) 62), (62, o_iload 6 64), (64, o_icmpne 70 67), (67, o_iload 7 69), (69, o_iret), (70, o_iinc 7 1 73), (73, o_goto 15), (76, o_iconst 0 77), (77, o_iret)]
theorem me_X6_firstChoice : em_Me T_X6_firstChoice 10 sp_X6_firstChoice := by
  intro Q K hK hle av hp hs
  obtain ⟨pe, ki, mi, se, we, lea, mst, pa, fi, sd, ev, un, ma, ea, co, ca, clt, m, s, la, pl, n, d, rfl, rfl, rfl, hn, hla, hd, hq⟩ := hs
  refine ⟨Nat.le_of_ble_eq_true rfl, ?_⟩
  refine hK 0 9 0 _ _ _ ?_
  refine ⟨_, _, _, _, _, _, _, _, _, _, _, _, _, _, _, _, _, _, _, la, pl, n, rfl, rfl, rfl, hn, hla, by omega, by omega, ?_⟩
  rw [show n - pl = d + 1 by omega]
  rw [tfc] at hq
  generalize hG : (fun x => tbm n ki we lea mst d (bor s x) x (btN n ki we m la x)) = g at hq
  generalize hB : tbm n ki we lea mst (d + 1) s la m = best at hq ⊢
  obtain ⟨V, hV⟩ : ∃ V, V = tfL n s g best (n - 1) := ⟨_, rfl⟩
  rw [← hV] at hq
  have loop : ∀ (r : Nat), r ≤ n - 1 → V = tfL n s g best r → K 15 [some (.ref 0), some (.long m), none, some (.int s), some (.int (nI la)), some (.int (nI pl)), some (.int best), some (.int (nI (n - r))), none, none] [] (wT (nI n) ki mi se we lea mst pa fi sd ev un ma ea co ca clt) := by
    intro r
    induction r with
    | zero =>
      intro hr hv
      rw [hv] at hq
      refine hK 9 9999 15 _ _ _ ?_
      exact ⟨fun _ => hq, fun z => absurd (nI_le (a := n) (b := n - 0) (by omega) (by omega)) z⟩
    | succ r ih =>
      intro hr hv
      have next : ¬ ((s >>> (nI (n - (r + 1)) &&& 31)) &&& 1 = 0 ∧ g (n - (r + 1)) = best) → ∀ x y, K 70 [some (.ref 0), some (.long m), none, some (.int s), some (.int (nI la)), some (.int (nI pl)), some (.int best), some (.int (nI (n - (r + 1)))), x, y] [] (wT (nI n) ki mi se we lea mst pa fi sd ev un ma ea co ca clt) := by
        intro hz x y
        have := ih (by omega) (by rw [hv, tfL, if_neg hz])
        rw [show n - r = (n - (r + 1)) + 1 by omega, ← nI_1] at this
        exact hK 41 2 70 _ _ _ (hle _ _ _ _ _ (by repeat (first | exact trivial | refine ⟨rfl, ?_⟩)) this)
      refine hK 9 32 15 _ _ _ ?_
      refine ⟨fun z => absurd z (nI_ge (a := n - (r + 1)) (b := n) (by omega) (by omega)), fun _ => ?_⟩
      refine ⟨fun z => ?_, fun z => ?_⟩
      · exact next (fun y => z y.1) _ _
      · refine ⟨_, _, _, _, _, _, _, _, _, _, _, _, _, _, _, _, _, m, la, n - (r + 1), n, rfl, rfl, rfl, hn, by omega, by omega, ?_⟩
        refine ⟨_, _, _, _, _, _, _, _, _, _, _, _, _, _, _, _, _, _, bor s (n - (r + 1)), n - (r + 1), pl + 1, n, by rw [nI_1]; rfl, rfl, rfl, hn, by omega, by omega, by omega, ?_⟩
        rw [show n - (pl + 1) = d by omega]
        have eg : tbm n ki we lea mst d (bor s (n - (r + 1))) (n - (r + 1)) (btN n ki we m la (n - (r + 1))) = g (n - (r + 1)) := by rw [← hG]
        rw [eg]
        refine ⟨fun z2 => ?_, fun z2 => ?_⟩
        · exact next (fun y => z2 y.2) _ _
        · rw [hv, tfL, if_pos ⟨z, z2⟩] at hq
          exact hq
  have := loop (n - 1) (Nat.le_refl _) hV
  rw [show n - (n - 1) = 1 by omega] at this
  exact hle _ _ _ _ _ (by repeat (first | exact trivial | refine ⟨rfl, ?_⟩)) this
abbrev rm_X6_firstChoice : Room := { frames := 11, cells := 0, slots := 0, locals := 295 }
set_option maxRecDepth 100000 in
set_option maxHeartbeats 4000000 in
theorem ct_X6_firstChoice (l : Launch) (D : va_G) (dA : Nat → ClassId) (σ : Nat → Nat) : em_CT l D em_cl dA σ (em_F σ) y_X6_firstChoice c_X6_firstChoice 10 (Option.some ClassFile.FieldType.int) rm_X6_firstChoice (sp_X6_firstChoice ) := by
  refine em_CT_of (T := T_X6_firstChoice ) (em_F_ok σ) (by decide) (fun p e s m args below meth c A ρ Q C hFok hF hret hlk hin => ?_) (me_X6_firstChoice )
  unfold T_X6_firstChoice
  refine List.forall_mem_cons.mpr ⟨s_aload_n C (by decide +kernel : decode c_X6_firstChoice 0 = .ok (.aload_n 0, 1)) rfl rfl rfl, ?_⟩
  refine List.forall_mem_cons.mpr ⟨s_lload_n C (by decide +kernel : decode c_X6_firstChoice 1 = .ok (.lload_n 1, 1)) rfl rfl rfl, ?_⟩
  refine List.forall_mem_cons.mpr ⟨s_iload_n C (by decide +kernel : decode c_X6_firstChoice 2 = .ok (.iload_n 3, 1)) rfl rfl rfl, ?_⟩
  refine List.forall_mem_cons.mpr ⟨s_iload C (by decide +kernel : decode c_X6_firstChoice 3 = .ok (.iload 4, 2)) rfl rfl, ?_⟩
  refine List.forall_mem_cons.mpr ⟨s_iload C (by decide +kernel : decode c_X6_firstChoice 5 = .ok (.iload 5, 2)) rfl rfl, ?_⟩
  refine List.forall_mem_cons.mpr ⟨s_callS C hFok hF (ct_X6_most l D dA σ 6) ⟨rfl, rfl⟩ ew590 ew596 ew589 ew18 ⟨by decide, by decide, by decide +kernel⟩ ⟨by decide, by decide⟩ (by decide +kernel : decode c_X6_firstChoice 7 = .ok (.invokestatic 21, 3)) rfl rfl ⟨Nat.zero_le _, Nat.zero_le _⟩, ?_⟩
  refine List.forall_mem_cons.mpr ⟨s_istore C (by decide +kernel : decode c_X6_firstChoice 10 = .ok (.istore 6, 2)) rfl rfl (by decide), ?_⟩
  refine List.forall_mem_cons.mpr ⟨s_iconst C (by decide +kernel : decode c_X6_firstChoice 12 = .ok (.iconst 1, 1)) rfl rfl (by decide), ?_⟩
  refine List.forall_mem_cons.mpr ⟨s_istore C (by decide +kernel : decode c_X6_firstChoice 13 = .ok (.istore 7, 2)) rfl rfl (by decide), ?_⟩
  refine List.forall_mem_cons.mpr ⟨s_iload C (by decide +kernel : decode c_X6_firstChoice 15 = .ok (.iload 7, 2)) rfl rfl, ?_⟩
  refine List.forall_mem_cons.mpr ⟨s_aload_n C (by decide +kernel : decode c_X6_firstChoice 17 = .ok (.aload_n 0, 1)) rfl rfl rfl, ?_⟩
  refine List.forall_mem_cons.mpr ⟨s_getf C (by decide +kernel : decode c_X6_firstChoice 18 = .ok (.getfield 7, 3)) rfl rfl em_cl_X7 (by decide) ew86 rfl, ?_⟩
  refine List.forall_mem_cons.mpr ⟨s_icmpge C (by decide +kernel : decode c_X6_firstChoice 21 = .ok (.if_icmp .ge 55, 3)) (by decide) rfl rfl rfl, ?_⟩
  refine List.forall_mem_cons.mpr ⟨s_iload_n C (by decide +kernel : decode c_X6_firstChoice 24 = .ok (.iload_n 3, 1)) rfl rfl rfl, ?_⟩
  refine List.forall_mem_cons.mpr ⟨s_iload C (by decide +kernel : decode c_X6_firstChoice 25 = .ok (.iload 7, 2)) rfl rfl, ?_⟩
  refine List.forall_mem_cons.mpr ⟨s_ishr C (by decide +kernel : decode c_X6_firstChoice 27 = .ok (.ishr, 1)) rfl rfl, ?_⟩
  refine List.forall_mem_cons.mpr ⟨s_iconst C (by decide +kernel : decode c_X6_firstChoice 28 = .ok (.iconst 1, 1)) rfl rfl (by decide), ?_⟩
  refine List.forall_mem_cons.mpr ⟨s_iand C (by decide +kernel : decode c_X6_firstChoice 29 = .ok (.iand, 1)) rfl rfl, ?_⟩
  refine List.forall_mem_cons.mpr ⟨s_ifne C (by decide +kernel : decode c_X6_firstChoice 30 = .ok (.ifCond .ne 40, 3)) (by decide) rfl rfl rfl, ?_⟩
  refine List.forall_mem_cons.mpr ⟨s_aload_n C (by decide +kernel : decode c_X6_firstChoice 33 = .ok (.aload_n 0, 1)) rfl rfl rfl, ?_⟩
  refine List.forall_mem_cons.mpr ⟨s_lload_n C (by decide +kernel : decode c_X6_firstChoice 34 = .ok (.lload_n 1, 1)) rfl rfl rfl, ?_⟩
  refine List.forall_mem_cons.mpr ⟨s_iload C (by decide +kernel : decode c_X6_firstChoice 35 = .ok (.iload 4, 2)) rfl rfl, ?_⟩
  refine List.forall_mem_cons.mpr ⟨s_iload C (by decide +kernel : decode c_X6_firstChoice 37 = .ok (.iload 7, 2)) rfl rfl, ?_⟩
  refine List.forall_mem_cons.mpr ⟨s_callV C hFok hF (ct_X7_behindTalk2 l D dA σ) ⟨rfl, rfl⟩ ew438 em_cl_X7 ew591 ew436 ew437 ew5 ⟨by decide, by decide, by decide +kernel⟩ ⟨by decide, by decide⟩ (by decide +kernel : decode c_X6_firstChoice 39 = .ok (.invokevirtual 13, 3)) rfl rfl ⟨Nat.zero_le _, Nat.zero_le _⟩, ?_⟩
  refine List.forall_mem_cons.mpr ⟨s_lstore C (by decide +kernel : decode c_X6_firstChoice 42 = .ok (.lstore 8, 2)) rfl rfl (by decide), ?_⟩
  refine List.forall_mem_cons.mpr ⟨s_aload_n C (by decide +kernel : decode c_X6_firstChoice 44 = .ok (.aload_n 0, 1)) rfl rfl rfl, ?_⟩
  refine List.forall_mem_cons.mpr ⟨s_lload C (by decide +kernel : decode c_X6_firstChoice 45 = .ok (.lload 8, 2)) rfl rfl, ?_⟩
  refine List.forall_mem_cons.mpr ⟨s_iload_n C (by decide +kernel : decode c_X6_firstChoice 47 = .ok (.iload_n 3, 1)) rfl rfl rfl, ?_⟩
  refine List.forall_mem_cons.mpr ⟨s_iconst C (by decide +kernel : decode c_X6_firstChoice 48 = .ok (.iconst 1, 1)) rfl rfl (by decide), ?_⟩
  refine List.forall_mem_cons.mpr ⟨s_iload C (by decide +kernel : decode c_X6_firstChoice 49 = .ok (.iload 7, 2)) rfl rfl, ?_⟩
  refine List.forall_mem_cons.mpr ⟨s_ishl C (by decide +kernel : decode c_X6_firstChoice 51 = .ok (.ishl, 1)) rfl rfl, ?_⟩
  refine List.forall_mem_cons.mpr ⟨s_ior C (by decide +kernel : decode c_X6_firstChoice 52 = .ok (.ior, 1)) rfl rfl, ?_⟩
  refine List.forall_mem_cons.mpr ⟨s_iload C (by decide +kernel : decode c_X6_firstChoice 53 = .ok (.iload 7, 2)) rfl rfl, ?_⟩
  refine List.forall_mem_cons.mpr ⟨s_iload C (by decide +kernel : decode c_X6_firstChoice 55 = .ok (.iload 5, 2)) rfl rfl, ?_⟩
  refine List.forall_mem_cons.mpr ⟨s_iconst C (by decide +kernel : decode c_X6_firstChoice 57 = .ok (.iconst 1, 1)) rfl rfl (by decide), ?_⟩
  refine List.forall_mem_cons.mpr ⟨s_iadd C (by decide +kernel : decode c_X6_firstChoice 58 = .ok (.iadd, 1)) rfl rfl, ?_⟩
  refine List.forall_mem_cons.mpr ⟨s_callS C hFok hF (ct_X6_most l D dA σ 6) ⟨rfl, rfl⟩ ew590 ew596 ew589 ew18 ⟨by decide, by decide, by decide +kernel⟩ ⟨by decide, by decide⟩ (by decide +kernel : decode c_X6_firstChoice 59 = .ok (.invokestatic 21, 3)) rfl rfl ⟨Nat.zero_le _, Nat.zero_le _⟩, ?_⟩
  refine List.forall_mem_cons.mpr ⟨s_iload C (by decide +kernel : decode c_X6_firstChoice 62 = .ok (.iload 6, 2)) rfl rfl, ?_⟩
  refine List.forall_mem_cons.mpr ⟨s_icmpne C (by decide +kernel : decode c_X6_firstChoice 64 = .ok (.if_icmp .ne 6, 3)) (by decide) rfl rfl rfl, ?_⟩
  refine List.forall_mem_cons.mpr ⟨s_iload C (by decide +kernel : decode c_X6_firstChoice 67 = .ok (.iload 7, 2)) rfl rfl, ?_⟩
  refine List.forall_mem_cons.mpr ⟨s_iret C (by decide +kernel : decode c_X6_firstChoice 69 = .ok (.ireturn, 1)) hret hlk ⟨Nat.le_refl 0, Nat.le_refl 0⟩, ?_⟩
  refine List.forall_mem_cons.mpr ⟨s_iinc C (by decide +kernel : decode c_X6_firstChoice 70 = .ok (.iinc 7 1, 3)) rfl rfl (by decide) (by decide), ?_⟩
  refine List.forall_mem_cons.mpr ⟨s_goto C (by decide +kernel : decode c_X6_firstChoice 73 = .ok (.goto (-58), 3)) (by decide) rfl, ?_⟩
  refine List.forall_mem_cons.mpr ⟨s_iconst C (by decide +kernel : decode c_X6_firstChoice 76 = .ok (.iconst 0, 1)) rfl rfl (by decide), ?_⟩
  refine List.forall_mem_cons.mpr ⟨s_iret C (by decide +kernel : decode c_X6_firstChoice 77 = .ok (.ireturn, 1)) hret hlk ⟨Nat.le_refl 0, Nat.le_refl 0⟩, ?_⟩
  exact fun _ h => absurd h List.not_mem_nil
/-- who sits at a place: r places on from place w + 1 - r -/
def tsi (n : Nat) (ki : Nat → Int32) (we lea mst : Int32) (w : Nat) : Nat → Int32 → Nat → Int64 → Nat
  | 0, _, la, _ => la
  | r + 1, s, la, m => tsi n ki we lea mst w r (bor s (tfc n ki we lea mst (n - (w - r) - 1) s la m)) (tfc n ki we lea mst (n - (w - r) - 1) s la m) (btN n ki we m la (tfc n ki we lea mst (n - (w - r) - 1) s la m))
theorem tfL_lt {n : Nat} {s : Int32} {g : Nat → Int32} {best : Int32} (hn : 0 < n) : ∀ r, r ≤ n → tfL n s g best r < n
  | 0, _ => hn
  | r + 1, h => by
    rw [tfL]
    split
    · omega
    · exact tfL_lt hn r (by omega)
theorem tfc_lt {n : Nat} {ki : Nat → Int32} {we lea mst : Int32} {d : Nat} {s : Int32} {la : Nat} {m : Int64} (hn : 0 < n) : tfc n ki we lea mst d s la m < n := tfL_lt hn _ (by omega)
def sp_X6_sitter : em_Sp := fun av hp Q => ∃ pe ki mi se we lea mst pa fi sd ev un ma ea co ca clt w n, av = [.ref 0, .int (nI w)] ∧ hp = (wT pe ki mi se we lea mst pa fi sd ev un ma ea co ca clt) ∧ pe = nI n ∧ n ≤ 6 ∧ w < n ∧ Q (some (.int (nI (tsi n ki we lea mst w w 1 0 mi)))) hp
def T_X6_sitter : List (Nat × em_Op) := [(0, o_aload 0 1), (1, o_getf 2 2 4), (4, o_lstore 2 5), (5, o_iconst 1 6), (6, o_istore 4 8), (8, o_iconst 0 9), (9, o_istore 5 11), (11, o_iconst 1 12), (12, o_istore 6 14), (14, o_iload 6 16), (16, o_iload 1 17), (17, o_icmpgt 62 20), (20, o_aload 0 21), (21, o_lload 2 22), (22, o_iload 4 24), (24, o_iload 5 26), (26, o_iload 6 28), (28, o_call 5 none (sp_X6_firstChoice) 31), (31, o_istore 7 33), (33, o_aload 0 34), (34, o_lload 2 35), (35, o_iload 5 37), (37, o_iload 7 39), (39, o_call 4 (some 2) (sp_X7_behindTalk2) 42), (42, o_lstore 2 43), (43, o_iload 4 45), (45, o_iconst 1 46), (46, o_iload 7 48), (48, o_ishl 49), (49, o_ior 50), (50, o_istore 4 52), (52, o_iload 7 54), (54, o_istore 5 56), (56, o_iinc 6 1 59), (59, o_goto 14), (62, o_iload 5 64), (64, o_iret)]
theorem me_X6_sitter : em_Me T_X6_sitter 8 sp_X6_sitter := by
  intro Q K hK hle av hp hs
  obtain ⟨pe, ki, mi, se, we, lea, mst, pa, fi, sd, ev, un, ma, ea, co, ca, clt, w, n, rfl, rfl, rfl, hn, hw, hq⟩ := hs
  refine ⟨Nat.le_of_ble_eq_true rfl, ?_⟩
  obtain ⟨V, hV⟩ : ∃ V, V = tsi n ki we lea mst w w 1 0 mi := ⟨_, rfl⟩
  rw [← hV] at hq
  have loop : ∀ (r : Nat) (s : Int32) (la : Nat) (m : Int64), r ≤ w → la < 6 → V = tsi n ki we lea mst w r s la m → K 14 [some (.ref 0), some (.int (nI w)), some (.long m), none, some (.int s), some (.int (nI la)), some (.int (nI (w + 1 - r))), none] [] (wT (nI n) ki mi se we lea mst pa fi sd ev un ma ea co ca clt) := by
    intro r
    induction r with
    | zero =>
      intro s la m hr hla hv
      rw [hv] at hq
      refine hK 9 9999 14 _ _ _ ?_
      exact ⟨fun _ => hq, fun z => absurd (nI_lt (a := w) (b := w + 1 - 0) (by omega) (by omega)) z⟩
    | succ r ih =>
      intro s la m hr hla hv
      rw [show w + 1 - (r + 1) = w - r by omega]
      refine hK 9 9999 14 _ _ _ ?_
      refine ⟨fun z => absurd z (nI_nlt (a := w) (b := w - r) (by omega) (by omega)), fun _ => ?_⟩
      refine ⟨_, _, _, _, _, _, _, _, _, _, _, _, _, _, _, _, _, _, _, la, w - r, n, n - (w - r) - 1, rfl, rfl, rfl, hn, hla, by omega, ?_⟩
      have hlt : tfc n ki we lea mst (n - (w - r) - 1) s la m < n := tfc_lt (by omega)
      rw [tsi] at hv
      generalize tfc n ki we lea mst (n - (w - r) - 1) s la m = T at hlt hv ⊢
      refine ⟨_, _, _, _, _, _, _, _, _, _, _, _, _, _, _, _, _, m, la, T, n, rfl, rfl, rfl, hn, by omega, by omega, ?_⟩
      have := ih _ T _ (by omega) (by omega) hv
      rw [show w + 1 - r = (w - r) + 1 by omega, ← nI_1] at this
      exact hle _ _ _ _ _ (by repeat (first | exact trivial | refine ⟨rfl, ?_⟩)) this
  have := loop w 1 0 mi (Nat.le_refl _) (by omega) hV
  rw [show w + 1 - w = 1 by omega] at this
  exact hK 0 9 0 _ _ _ this
abbrev rm_X6_sitter : Room := { frames := 12, cells := 0, slots := 0, locals := 324 }
set_option maxRecDepth 100000 in
set_option maxHeartbeats 4000000 in
theorem ct_X6_sitter (l : Launch) (D : va_G) (dA : Nat → ClassId) (σ : Nat → Nat) : em_CT l D em_cl dA σ (em_F σ) y_X6_sitter c_X6_sitter 8 (Option.some ClassFile.FieldType.int) rm_X6_sitter (sp_X6_sitter ) := by
  refine em_CT_of (T := T_X6_sitter ) (em_F_ok σ) (by decide) (fun p e s m args below meth c A ρ Q C hFok hF hret hlk hin => ?_) (me_X6_sitter )
  unfold T_X6_sitter
  refine List.forall_mem_cons.mpr ⟨s_aload_n C (by decide +kernel : decode c_X6_sitter 0 = .ok (.aload_n 0, 1)) rfl rfl rfl, ?_⟩
  refine List.forall_mem_cons.mpr ⟨s_getf C (by decide +kernel : decode c_X6_sitter 1 = .ok (.getfield 33, 3)) rfl rfl em_cl_X7 (by decide) ew93 rfl, ?_⟩
  refine List.forall_mem_cons.mpr ⟨s_lstore_n C (by decide +kernel : decode c_X6_sitter 4 = .ok (.lstore_n 2, 1)) rfl rfl rfl (by decide), ?_⟩
  refine List.forall_mem_cons.mpr ⟨s_iconst C (by decide +kernel : decode c_X6_sitter 5 = .ok (.iconst 1, 1)) rfl rfl (by decide), ?_⟩
  refine List.forall_mem_cons.mpr ⟨s_istore C (by decide +kernel : decode c_X6_sitter 6 = .ok (.istore 4, 2)) rfl rfl (by decide), ?_⟩
  refine List.forall_mem_cons.mpr ⟨s_iconst C (by decide +kernel : decode c_X6_sitter 8 = .ok (.iconst 0, 1)) rfl rfl (by decide), ?_⟩
  refine List.forall_mem_cons.mpr ⟨s_istore C (by decide +kernel : decode c_X6_sitter 9 = .ok (.istore 5, 2)) rfl rfl (by decide), ?_⟩
  refine List.forall_mem_cons.mpr ⟨s_iconst C (by decide +kernel : decode c_X6_sitter 11 = .ok (.iconst 1, 1)) rfl rfl (by decide), ?_⟩
  refine List.forall_mem_cons.mpr ⟨s_istore C (by decide +kernel : decode c_X6_sitter 12 = .ok (.istore 6, 2)) rfl rfl (by decide), ?_⟩
  refine List.forall_mem_cons.mpr ⟨s_iload C (by decide +kernel : decode c_X6_sitter 14 = .ok (.iload 6, 2)) rfl rfl, ?_⟩
  refine List.forall_mem_cons.mpr ⟨s_iload_n C (by decide +kernel : decode c_X6_sitter 16 = .ok (.iload_n 1, 1)) rfl rfl rfl, ?_⟩
  refine List.forall_mem_cons.mpr ⟨s_icmpgt C (by decide +kernel : decode c_X6_sitter 17 = .ok (.if_icmp .gt 45, 3)) (by decide) rfl rfl rfl, ?_⟩
  refine List.forall_mem_cons.mpr ⟨s_aload_n C (by decide +kernel : decode c_X6_sitter 20 = .ok (.aload_n 0, 1)) rfl rfl rfl, ?_⟩
  refine List.forall_mem_cons.mpr ⟨s_lload_n C (by decide +kernel : decode c_X6_sitter 21 = .ok (.lload_n 2, 1)) rfl rfl rfl, ?_⟩
  refine List.forall_mem_cons.mpr ⟨s_iload C (by decide +kernel : decode c_X6_sitter 22 = .ok (.iload 4, 2)) rfl rfl, ?_⟩
  refine List.forall_mem_cons.mpr ⟨s_iload C (by decide +kernel : decode c_X6_sitter 24 = .ok (.iload 5, 2)) rfl rfl, ?_⟩
  refine List.forall_mem_cons.mpr ⟨s_iload C (by decide +kernel : decode c_X6_sitter 26 = .ok (.iload 6, 2)) rfl rfl, ?_⟩
  refine List.forall_mem_cons.mpr ⟨s_callS C hFok hF (ct_X6_firstChoice l D dA σ) ⟨rfl, rfl⟩ ew603 ew601 ew602 ew18 ⟨by decide, by decide, by decide +kernel⟩ ⟨by decide, by decide⟩ (by decide +kernel : decode c_X6_sitter 28 = .ok (.invokestatic 37, 3)) rfl rfl ⟨Nat.zero_le _, Nat.zero_le _⟩, ?_⟩
  refine List.forall_mem_cons.mpr ⟨s_istore C (by decide +kernel : decode c_X6_sitter 31 = .ok (.istore 7, 2)) rfl rfl (by decide), ?_⟩
  refine List.forall_mem_cons.mpr ⟨s_aload_n C (by decide +kernel : decode c_X6_sitter 33 = .ok (.aload_n 0, 1)) rfl rfl rfl, ?_⟩
  refine List.forall_mem_cons.mpr ⟨s_lload_n C (by decide +kernel : decode c_X6_sitter 34 = .ok (.lload_n 2, 1)) rfl rfl rfl, ?_⟩
  refine List.forall_mem_cons.mpr ⟨s_iload C (by decide +kernel : decode c_X6_sitter 35 = .ok (.iload 5, 2)) rfl rfl, ?_⟩
  refine List.forall_mem_cons.mpr ⟨s_iload C (by decide +kernel : decode c_X6_sitter 37 = .ok (.iload 7, 2)) rfl rfl, ?_⟩
  refine List.forall_mem_cons.mpr ⟨s_callV C hFok hF (ct_X7_behindTalk2 l D dA σ) ⟨rfl, rfl⟩ ew438 em_cl_X7 ew591 ew436 ew437 ew5 ⟨by decide, by decide, by decide +kernel⟩ ⟨by decide, by decide⟩ (by decide +kernel : decode c_X6_sitter 39 = .ok (.invokevirtual 13, 3)) rfl rfl ⟨Nat.zero_le _, Nat.zero_le _⟩, ?_⟩
  refine List.forall_mem_cons.mpr ⟨s_lstore_n C (by decide +kernel : decode c_X6_sitter 42 = .ok (.lstore_n 2, 1)) rfl rfl rfl (by decide), ?_⟩
  refine List.forall_mem_cons.mpr ⟨s_iload C (by decide +kernel : decode c_X6_sitter 43 = .ok (.iload 4, 2)) rfl rfl, ?_⟩
  refine List.forall_mem_cons.mpr ⟨s_iconst C (by decide +kernel : decode c_X6_sitter 45 = .ok (.iconst 1, 1)) rfl rfl (by decide), ?_⟩
  refine List.forall_mem_cons.mpr ⟨s_iload C (by decide +kernel : decode c_X6_sitter 46 = .ok (.iload 7, 2)) rfl rfl, ?_⟩
  refine List.forall_mem_cons.mpr ⟨s_ishl C (by decide +kernel : decode c_X6_sitter 48 = .ok (.ishl, 1)) rfl rfl, ?_⟩
  refine List.forall_mem_cons.mpr ⟨s_ior C (by decide +kernel : decode c_X6_sitter 49 = .ok (.ior, 1)) rfl rfl, ?_⟩
  refine List.forall_mem_cons.mpr ⟨s_istore C (by decide +kernel : decode c_X6_sitter 50 = .ok (.istore 4, 2)) rfl rfl (by decide), ?_⟩
  refine List.forall_mem_cons.mpr ⟨s_iload C (by decide +kernel : decode c_X6_sitter 52 = .ok (.iload 7, 2)) rfl rfl, ?_⟩
  refine List.forall_mem_cons.mpr ⟨s_istore C (by decide +kernel : decode c_X6_sitter 54 = .ok (.istore 5, 2)) rfl rfl (by decide), ?_⟩
  refine List.forall_mem_cons.mpr ⟨s_iinc C (by decide +kernel : decode c_X6_sitter 56 = .ok (.iinc 6 1, 3)) rfl rfl (by decide) (by decide), ?_⟩
  refine List.forall_mem_cons.mpr ⟨s_goto C (by decide +kernel : decode c_X6_sitter 59 = .ok (.goto (-45), 3)) (by decide) rfl, ?_⟩
  refine List.forall_mem_cons.mpr ⟨s_iload C (by decide +kernel : decode c_X6_sitter 62 = .ok (.iload 5, 2)) rfl rfl, ?_⟩
  refine List.forall_mem_cons.mpr ⟨s_iret C (by decide +kernel : decode c_X6_sitter 64 = .ok (.ireturn, 1)) hret hlk ⟨Nat.le_refl 0, Nat.le_refl 0⟩, ?_⟩
  exact fun _ h => absurd h List.not_mem_nil
/-! ===== Dinners ===== -/
def sp_X1_third : em_Sp := fun av hp Q => ∃ d, av = [.int (nI d)] ∧ d ≤ 12 ∧ (d = 0 → Q (some (.int (-1))) hp) ∧ (0 < d → Q (some (.int (nI ((d - 1) % 6)))) hp)
def T_X1_third : List (Nat × em_Op) := [(0, o_iload 0 1), (1, o_iconst 1 2), (2, o_isub 3), (3, o_iconst 6 5), (5, o_irem 6), (6, o_iret)]
theorem me_X1_third : em_Me T_X1_third 1 sp_X1_third := by
  intro Q K hK hle av hp hs
  obtain ⟨d, rfl, hd, h0, h1⟩ := hs
  refine ⟨Nat.le_of_ble_eq_true rfl, hK 0 9999 0 _ _ _ ?_⟩
  refine ⟨by decide, ?_⟩
  rcases Nat.eq_zero_or_pos d with z | z
  · subst z
    exact h0 rfl
  · have := h1 z
    rw [← pk_rem (a := d - 1) (d := 6) (by omega) (by omega) (by omega), ← pk_sub z] at this
    exact this
abbrev rm_X1_third : Room := { frames := 0, cells := 0, slots := 0, locals := 0 }
set_option maxRecDepth 100000 in
set_option maxHeartbeats 4000000 in
theorem ct_X1_third (l : Launch) (D : va_G) (dA : Nat → ClassId) (σ : Nat → Nat) : em_CT l D em_cl dA σ (em_F σ) y_X1_third c_X1_third 1 (Option.some ClassFile.FieldType.int) rm_X1_third (sp_X1_third ) := by
  refine em_CT_of (T := T_X1_third ) (em_F_ok σ) (by decide) (fun p e s m args below meth c A ρ Q C hFok hF hret hlk hin => ?_) (me_X1_third )
  unfold T_X1_third
  refine List.forall_mem_cons.mpr ⟨s_iload_n C (by decide +kernel : decode c_X1_third 0 = .ok (.iload_n 0, 1)) rfl rfl rfl, ?_⟩
  refine List.forall_mem_cons.mpr ⟨s_iconst C (by decide +kernel : decode c_X1_third 1 = .ok (.iconst 1, 1)) rfl rfl (by decide), ?_⟩
  refine List.forall_mem_cons.mpr ⟨s_isub C (by decide +kernel : decode c_X1_third 2 = .ok (.isub, 1)) rfl rfl, ?_⟩
  refine List.forall_mem_cons.mpr ⟨s_bipush C (by decide +kernel : decode c_X1_third 3 = .ok (.bipush 6, 2)) rfl rfl (by decide), ?_⟩
  refine List.forall_mem_cons.mpr ⟨s_irem C (by decide +kernel : decode c_X1_third 5 = .ok (.irem, 1)) rfl rfl, ?_⟩
  refine List.forall_mem_cons.mpr ⟨s_iret C (by decide +kernel : decode c_X1_third 6 = .ok (.ireturn, 1)) hret hlk ⟨Nat.le_refl 0, Nat.le_refl 0⟩, ?_⟩
  exact fun _ h => absurd h List.not_mem_nil
def cbe (n a b d : Nat) : Prop := d = 0 ∨ ((d - 1) % 6 < n ∧ (d - 1) % 6 ≠ a ∧ (d - 1) % 6 ≠ b)
def sp_X1_canBe : em_Sp := fun av hp Q => ∃ pe ki mi se we lea mst pa fi sd ev un ma ea co ca clt a b d n, av = [.ref 0, .int (nI a), .int (nI b), .int (nI d)] ∧ hp = (wT pe ki mi se we lea mst pa fi sd ev un ma ea co ca clt) ∧ pe = nI n ∧ n ≤ 6 ∧ a < 6 ∧ b < 6 ∧ d ≤ 12 ∧ (cbe n a b d → Q (some (.int 1)) hp) ∧ (¬ cbe n a b d → Q (some (.int 0)) hp)
def T_X1_canBe : List (Nat × em_Op) := [(0, o_iload 3 1), (1, o_call 1 none (sp_X1_third) 4), (4, o_istore 4 6), (6, o_iload 3 7), (7, o_ifeq 31 10), (10, o_aload 0 11), (11, o_iload 4 13), (13, o_call 2 (some 2) (sp_X7_has) 16), (16, o_ifeq 35 19), (19, o_iload 4 21), (21, o_iload 1 22), (22, o_icmpeq 35 25), (25, o_iload 4 27), (27, o_iload 2 28), (28, o_icmpeq 35 31), (31, o_iconst 1 32), (32, o_goto 36), (35, o_iconst 0 36), (36, o_zret)]
theorem me_X1_canBe : em_Me T_X1_canBe 5 sp_X1_canBe := by
  intro Q K hK hle av hp hs
  obtain ⟨pe, ki, mi, se, we, lea, mst, pa, fi, sd, ev, un, ma, ea, co, ca, clt, a, b, d, n, rfl, rfl, rfl, hn, ha, hb, hd, h1, h0⟩ := hs
  refine ⟨Nat.le_of_ble_eq_true rfl, hK 0 9999 0 _ _ _ ?_⟩
  refine ⟨d, rfl, hd, fun z => ?_, fun z => ?_⟩
  · subst z
    exact ⟨fun _ => ⟨Or.inr rfl, h1 (Or.inl rfl)⟩, fun z => absurd rfl z⟩
  · have hlt := Nat.mod_lt (d - 1) (show 6 > 0 by omega)
    refine ⟨fun y => absurd y (nI_ne0 z (by omega)), fun _ => ?_⟩
    refine ⟨_, _, _, _, _, _, _, _, _, _, _, _, _, _, _, _, _, _, rfl, rfl, fun z1 => ?_, fun z1 => ?_⟩
    · refine ⟨fun y => absurd y (by decide), fun _ => ?_⟩
      have k1 : (d - 1) % 6 < n := by
        rcases Nat.lt_or_ge ((d - 1) % 6) n with q | q
        · exact q
        · exact absurd z1 (not_hs q (by omega))
      refine ⟨fun y => ⟨Or.inl rfl, h0 ?_⟩, fun y => ⟨fun x => ⟨Or.inl rfl, h0 ?_⟩, fun x => ⟨Or.inr rfl, h1 (Or.inr ⟨k1, fun q => y (by rw [q]), fun q => x (by rw [q])⟩)⟩⟩⟩
      · have := (nI_eq (by omega) (by omega)).mp y
        rintro (q | ⟨q1, q2, q3⟩)
        · omega
        · exact q2 this
      · have := (nI_eq (by omega) (by omega)).mp x
        rintro (q | ⟨q1, q2, q3⟩)
        · omega
        · exact q3 this
    · refine ⟨fun _ => ⟨Or.inl rfl, h0 ?_⟩, fun y => absurd y (by decide)⟩
      rintro (q | ⟨q1, q2, q3⟩)
      · omega
      · exact z1 (hs_nI q1 (by omega))
abbrev rm_X1_canBe : Room := { frames := 1, cells := 0, slots := 0, locals := 21 }
set_option maxRecDepth 100000 in
set_option maxHeartbeats 4000000 in
theorem ct_X1_canBe (l : Launch) (D : va_G) (dA : Nat → ClassId) (σ : Nat → Nat) : em_CT l D em_cl dA σ (em_F σ) y_X1_canBe c_X1_canBe 5 (Option.some ClassFile.FieldType.boolean) rm_X1_canBe (sp_X1_canBe ) := by
  refine em_CT_of (T := T_X1_canBe ) (em_F_ok σ) (by decide) (fun p e s m args below meth c A ρ Q C hFok hF hret hlk hin => ?_) (me_X1_canBe )
  unfold T_X1_canBe
  refine List.forall_mem_cons.mpr ⟨s_iload_n C (by decide +kernel : decode c_X1_canBe 0 = .ok (.iload_n 3, 1)) rfl rfl rfl, ?_⟩
  refine List.forall_mem_cons.mpr ⟨s_callS C hFok hF (ct_X1_third l D dA σ) ⟨rfl, rfl⟩ ew557 ew555 ew556 ew17 ⟨by decide, by decide, by decide +kernel⟩ ⟨by decide, by decide⟩ (by decide +kernel : decode c_X1_canBe 1 = .ok (.invokestatic 40, 3)) rfl rfl ⟨Nat.zero_le _, Nat.zero_le _⟩, ?_⟩
  refine List.forall_mem_cons.mpr ⟨s_istore C (by decide +kernel : decode c_X1_canBe 4 = .ok (.istore 4, 2)) rfl rfl (by decide), ?_⟩
  refine List.forall_mem_cons.mpr ⟨s_iload_n C (by decide +kernel : decode c_X1_canBe 6 = .ok (.iload_n 3, 1)) rfl rfl rfl, ?_⟩
  refine List.forall_mem_cons.mpr ⟨s_ifeq C (by decide +kernel : decode c_X1_canBe 7 = .ok (.ifCond .eq 24, 3)) (by decide) rfl rfl rfl, ?_⟩
  refine List.forall_mem_cons.mpr ⟨s_aload_n C (by decide +kernel : decode c_X1_canBe 10 = .ok (.aload_n 0, 1)) rfl rfl rfl, ?_⟩
  refine List.forall_mem_cons.mpr ⟨s_iload C (by decide +kernel : decode c_X1_canBe 11 = .ok (.iload 4, 2)) rfl rfl, ?_⟩
  refine List.forall_mem_cons.mpr ⟨s_callV C hFok hF (ct_X7_has l D dA σ) ⟨rfl, rfl⟩ ew208 em_cl_X7 ew558 ew206 ew207 ew5 ⟨by decide, by decide, by decide +kernel⟩ ⟨by decide, by decide⟩ (by decide +kernel : decode c_X1_canBe 13 = .ok (.invokevirtual 44, 3)) rfl rfl ⟨Nat.zero_le _, Nat.zero_le _⟩, ?_⟩
  refine List.forall_mem_cons.mpr ⟨s_ifeq C (by decide +kernel : decode c_X1_canBe 16 = .ok (.ifCond .eq 19, 3)) (by decide) rfl rfl rfl, ?_⟩
  refine List.forall_mem_cons.mpr ⟨s_iload C (by decide +kernel : decode c_X1_canBe 19 = .ok (.iload 4, 2)) rfl rfl, ?_⟩
  refine List.forall_mem_cons.mpr ⟨s_iload_n C (by decide +kernel : decode c_X1_canBe 21 = .ok (.iload_n 1, 1)) rfl rfl rfl, ?_⟩
  refine List.forall_mem_cons.mpr ⟨s_icmpeq C (by decide +kernel : decode c_X1_canBe 22 = .ok (.if_icmp .eq 13, 3)) (by decide) rfl rfl rfl, ?_⟩
  refine List.forall_mem_cons.mpr ⟨s_iload C (by decide +kernel : decode c_X1_canBe 25 = .ok (.iload 4, 2)) rfl rfl, ?_⟩
  refine List.forall_mem_cons.mpr ⟨s_iload_n C (by decide +kernel : decode c_X1_canBe 27 = .ok (.iload_n 2, 1)) rfl rfl rfl, ?_⟩
  refine List.forall_mem_cons.mpr ⟨s_icmpeq C (by decide +kernel : decode c_X1_canBe 28 = .ok (.if_icmp .eq 7, 3)) (by decide) rfl rfl rfl, ?_⟩
  refine List.forall_mem_cons.mpr ⟨s_iconst C (by decide +kernel : decode c_X1_canBe 31 = .ok (.iconst 1, 1)) rfl rfl (by decide), ?_⟩
  refine List.forall_mem_cons.mpr ⟨s_goto C (by decide +kernel : decode c_X1_canBe 32 = .ok (.goto 4, 3)) (by decide) rfl, ?_⟩
  refine List.forall_mem_cons.mpr ⟨s_iconst C (by decide +kernel : decode c_X1_canBe 35 = .ok (.iconst 0, 1)) rfl rfl (by decide), ?_⟩
  refine List.forall_mem_cons.mpr ⟨s_zret C (by decide +kernel : decode c_X1_canBe 36 = .ok (.ireturn, 1)) hret hlk ⟨Nat.le_refl 0, Nat.le_refl 0⟩, ?_⟩
  exact fun _ h => absurd h List.not_mem_nil
def bdn (n : Nat) (ki : Nat → Int32) (we : Int32) (a b d : Nat) (m : Int64) : Int64 := if d = 0 then m else btN n ki we m (if d ≤ 6 then a else b) ((d - 1) % 6)
def sp_X1_behindDinner : em_Sp := fun av hp Q => ∃ pe ki mi se we lea mst pa fi sd ev un ma ea co ca clt m a b d n, av = [.ref 0, .long m, .int (nI a), .int (nI b), .int (nI d)] ∧ hp = (wT pe ki mi se we lea mst pa fi sd ev un ma ea co ca clt) ∧ pe = nI n ∧ n ≤ 6 ∧ a < 6 ∧ b < 6 ∧ d ≤ 12 ∧ Q (some (.long (bdn n ki we a b d m))) hp
def T_X1_behindDinner : List (Nat × em_Op) := [(0, o_iload 5 2), (2, o_ifne 7 5), (5, o_lload 1 6), (6, o_lret), (7, o_aload 0 8), (8, o_lload 1 9), (9, o_iload 5 11), (11, o_iconst 6 13), (13, o_icmpgt 20 16), (16, o_iload 3 17), (17, o_goto 22), (20, o_iload 4 22), (22, o_iload 5 24), (24, o_call 1 none (sp_X1_third) 27), (27, o_call 4 (some 2) (sp_X7_behindTalk2) 30), (30, o_lret)]
theorem me_X1_behindDinner : em_Me T_X1_behindDinner 6 sp_X1_behindDinner := by
  intro Q K hK hle av hp hs
  obtain ⟨pe, ki, mi, se, we, lea, mst, pa, fi, sd, ev, un, ma, ea, co, ca, clt, m, a, b, d, n, rfl, rfl, rfl, hn, ha, hb, hd, hq⟩ := hs
  refine ⟨Nat.le_of_ble_eq_true rfl, hK 0 9999 0 _ _ _ ?_⟩
  have hlt := Nat.mod_lt (d - 1) (show 6 > 0 by omega)
  refine ⟨fun z => ?_, fun z => ?_⟩
  · have hd0 : 0 < d := by
      rcases Nat.eq_zero_or_pos d with q | q
      · subst q; exact absurd rfl z
      · exact q
    rw [bdn, if_neg (by omega)] at hq
    refine ⟨fun y => ?_, fun y => ?_⟩
    · have h6 : ¬ d ≤ 6 := by
        intro q
        exact nI_nlt (a := 6) (b := d) (by omega) (by omega) y
      rw [if_neg h6] at hq
      exact ⟨d, rfl, hd, fun q => by omega, fun _ => ⟨_, _, _, _, _, _, _, _, _, _, _, _, _, _, _, _, _, m, b, (d - 1) % 6, n, rfl, rfl, rfl, hn, by omega, by omega, hq⟩⟩
    · have h6 : d ≤ 6 := by
        rcases Nat.lt_or_ge 6 d with q | q
        · exact absurd (nI_lt (a := 6) (b := d) q (by omega)) y
        · exact q
      rw [if_pos h6] at hq
      exact ⟨d, rfl, hd, fun q => by omega, fun _ => ⟨_, _, _, _, _, _, _, _, _, _, _, _, _, _, _, _, _, m, a, (d - 1) % 6, n, rfl, rfl, rfl, hn, by omega, by omega, hq⟩⟩
  · have hd0 : d = 0 := (nI_eq (a := d) (b := 0) (by omega) (by omega)).mp z
    rw [bdn, if_pos hd0] at hq
    exact hq
abbrev rm_X1_behindDinner : Room := { frames := 3, cells := 0, slots := 0, locals := 81 }
set_option maxRecDepth 100000 in
set_option maxHeartbeats 4000000 in
theorem ct_X1_behindDinner (l : Launch) (D : va_G) (dA : Nat → ClassId) (σ : Nat → Nat) : em_CT l D em_cl dA σ (em_F σ) y_X1_behindDinner c_X1_behindDinner 6 (Option.some ClassFile.FieldType.long) rm_X1_behindDinner (sp_X1_behindDinner ) := by
  refine em_CT_of (T := T_X1_behindDinner ) (em_F_ok σ) (by decide) (fun p e s m args below meth c A ρ Q C hFok hF hret hlk hin => ?_) (me_X1_behindDinner )
  unfold T_X1_behindDinner
  refine List.forall_mem_cons.mpr ⟨s_iload C (by decide +kernel : decode c_X1_behindDinner 0 = .ok (.iload 5, 2)) rfl rfl, ?_⟩
  refine List.forall_mem_cons.mpr ⟨s_ifne C (by decide +kernel : decode c_X1_behindDinner 2 = .ok (.ifCond .ne 5, 3)) (by decide) rfl rfl rfl, ?_⟩
  refine List.forall_mem_cons.mpr ⟨s_lload_n C (by decide +kernel : decode c_X1_behindDinner 5 = .ok (.lload_n 1, 1)) rfl rfl rfl, ?_⟩
  refine List.forall_mem_cons.mpr ⟨s_lret C (by decide +kernel : decode c_X1_behindDinner 6 = .ok (.lreturn, 1)) hret hlk ⟨Nat.le_refl 0, Nat.le_refl 0⟩, ?_⟩
  refine List.forall_mem_cons.mpr ⟨s_aload_n C (by decide +kernel : decode c_X1_behindDinner 7 = .ok (.aload_n 0, 1)) rfl rfl rfl, ?_⟩
  refine List.forall_mem_cons.mpr ⟨s_lload_n C (by decide +kernel : decode c_X1_behindDinner 8 = .ok (.lload_n 1, 1)) rfl rfl rfl, ?_⟩
  refine List.forall_mem_cons.mpr ⟨s_iload C (by decide +kernel : decode c_X1_behindDinner 9 = .ok (.iload 5, 2)) rfl rfl, ?_⟩
  refine List.forall_mem_cons.mpr ⟨s_bipush C (by decide +kernel : decode c_X1_behindDinner 11 = .ok (.bipush 6, 2)) rfl rfl (by decide), ?_⟩
  refine List.forall_mem_cons.mpr ⟨s_icmpgt C (by decide +kernel : decode c_X1_behindDinner 13 = .ok (.if_icmp .gt 7, 3)) (by decide) rfl rfl rfl, ?_⟩
  refine List.forall_mem_cons.mpr ⟨s_iload_n C (by decide +kernel : decode c_X1_behindDinner 16 = .ok (.iload_n 3, 1)) rfl rfl rfl, ?_⟩
  refine List.forall_mem_cons.mpr ⟨s_goto C (by decide +kernel : decode c_X1_behindDinner 17 = .ok (.goto 5, 3)) (by decide) rfl, ?_⟩
  refine List.forall_mem_cons.mpr ⟨s_iload C (by decide +kernel : decode c_X1_behindDinner 20 = .ok (.iload 4, 2)) rfl rfl, ?_⟩
  refine List.forall_mem_cons.mpr ⟨s_iload C (by decide +kernel : decode c_X1_behindDinner 22 = .ok (.iload 5, 2)) rfl rfl, ?_⟩
  refine List.forall_mem_cons.mpr ⟨s_callS C hFok hF (ct_X1_third l D dA σ) ⟨rfl, rfl⟩ ew557 ew555 ew556 ew17 ⟨by decide, by decide, by decide +kernel⟩ ⟨by decide, by decide⟩ (by decide +kernel : decode c_X1_behindDinner 24 = .ok (.invokestatic 40, 3)) rfl rfl ⟨Nat.zero_le _, Nat.zero_le _⟩, ?_⟩
  refine List.forall_mem_cons.mpr ⟨s_callV C hFok hF (ct_X7_behindTalk2 l D dA σ) ⟨rfl, rfl⟩ ew438 em_cl_X7 ew551 ew436 ew437 ew5 ⟨by decide, by decide, by decide +kernel⟩ ⟨by decide, by decide⟩ (by decide +kernel : decode c_X1_behindDinner 27 = .ok (.invokevirtual 9, 3)) rfl rfl ⟨Nat.zero_le _, Nat.zero_le _⟩, ?_⟩
  refine List.forall_mem_cons.mpr ⟨s_lret C (by decide +kernel : decode c_X1_behindDinner 30 = .ok (.lreturn, 1)) hret hlk ⟨Nat.le_refl 0, Nat.le_refl 0⟩, ?_⟩
  exact fun _ h => absurd h List.not_mem_nil
def cbB (n a b d : Nat) : Bool := decide (d = 0 ∨ ((d - 1) % 6 < n ∧ (d - 1) % 6 ≠ a ∧ (d - 1) % 6 ≠ b))
theorem cbB_t {n a b d : Nat} (h : cbe n a b d) : cbB n a b d = true := decide_eq_true h
theorem cbB_f {n a b d : Nat} (h : ¬ cbe n a b d) : cbB n a b d = false := decide_eq_false h
def rwB (n a b : Nat) (we lea mst : Int32) (f : Nat → Int64) (d : Nat) : Bool := cbB n a b d && mwB we lea mst (f d) a b
def rwL (n a b : Nat) (we lea mst : Int32) (f : Nat → Int64) (g : Int64 → Nat) : Nat → Nat
  | 0 => 0
  | k + 1 => rwL n a b we lea mst f g k + (if rwB n a b we lea mst f k = true then g (f k) else 0)
def rws (n : Nat) (ki : Nat → Int32) (we lea mst : Int32) (a b : Nat) : Nat → Int64 → Nat
  | 0, _ => 1
  | l + 1, m => rwL n a b we lea mst (fun d => bdn n ki we a b d (btN n ki we m a b)) (rws n ki we lea mst a b l) 13
def sp_X1_rows (D9 : Nat) : em_Sp := fun av hp Q => ∃ pe ki mi se we lea mst pa fi sd ev un ma ea co ca clt m a b lf n, av = [.ref 0, .long m, .int (nI a), .int (nI b), .int (nI lf)] ∧ hp = (wT pe ki mi se we lea mst pa fi sd ev un ma ea co ca clt) ∧ pe = nI n ∧ n ≤ 6 ∧ a < 6 ∧ b < 6 ∧ lf ≤ D9 ∧ lf ≤ 4 ∧ Q (some (.int (nI (rws n ki we lea mst a b lf m)))) hp
def sp_X1_rowsP : Nat → em_Sp
  | 0 => spF
  | d + 1 => sp_X1_rows d
def T_X1_rows (sp : em_Sp) : List (Nat × em_Op) := [(0, o_iload 5 2), (2, o_ifgt 7 5), (5, o_iconst 1 6), (6, o_iret), (7, o_aload 0 8), (8, o_lload 1 9), (9, o_iload 3 10), (10, o_iload 4 12), (12, o_call 4 (some 2) (sp_X7_behindTalk2) 15), (15, o_lstore 6 17), (17, o_iconst 0 18), (18, o_istore 8 20), (20, o_iconst 0 21), (21, o_istore 9 23), (23, o_iload 9 25), (25, o_iconst 12 27), (27, o_icmpgt 91 30), (30, o_aload 0 31), (31, o_iload 3 32), (32, o_iload 4 34), (34, o_iload 9 36), (36, o_call 4 none (sp_X1_canBe) 39), (39, o_ifeq 85 42), (42, o_aload 0 43), (43, o_lload 6 45), (45, o_iload 3 46), (46, o_iload 4 48), (48, o_iload 9 50), (50, o_call 5 none (sp_X1_behindDinner) 53), (53, o_lstore 10 55), (55, o_aload 0 56), (56, o_lload 10 58), (58, o_iload 3 59), (59, o_iload 4 61), (61, o_call 4 (some 2) (sp_X7_mayWed) 64), (64, o_ifeq 85 67), (67, o_iload 8 69), (69, o_aload 0 70), (70, o_lload 10 72), (72, o_iload 3 73), (73, o_iload 4 75), (75, o_iload 5 77), (77, o_iconst 1 78), (78, o_isub 79), (79, o_call 5 none (sp) 82), (82, o_iadd 83), (83, o_istore 8 85), (85, o_iinc 9 1 88), (88, o_goto 23), (91, o_iload 8 93), (93, o_iret)]
theorem me_X1_rows : ∀ d, em_Me (T_X1_rows (sp_X1_rowsP d)) 12 (sp_X1_rows d) := by
  intro D9 Q K hK hle av hp hs
  obtain ⟨pe, ki, mi, se, we, lea, mst, pa, fi, sd, ev, un, ma, ea, co, ca, clt, m, a, b, lf, n, rfl, rfl, rfl, hn, ha, hb, hd, hl4, hq⟩ := hs
  refine ⟨Nat.le_of_ble_eq_true rfl, ?_⟩
  refine hK 0 14 0 _ _ _ ?_
  refine ⟨fun h => ?_, fun h => ?_⟩
  · have h6 : 0 < lf := (nI_ltI (a := 0) (by omega) (by omega)).mp h
    obtain ⟨D9, rfl⟩ : ∃ d', D9 = d' + 1 := ⟨D9 - 1, by omega⟩
    obtain ⟨k, rfl⟩ : ∃ k, lf = k + 1 := ⟨lf - 1, by omega⟩
    rw [rws] at hq
    refine ⟨_, _, _, _, _, _, _, _, _, _, _, _, _, _, _, _, _, m, a, b, n, rfl, rfl, rfl, hn, by omega, by omega, ?_⟩
    generalize hG : (fun d => bdn n ki we a b d (btN n ki we m a b)) = f at hq
    generalize hT : btN n ki we m a b = tl at hG
    have ef : ∀ j, bdn n ki we a b j tl = f j := fun j => by rw [← hG]
    generalize hR : rws n ki we lea mst a b k = g at hq
    have loop : ∀ (r j : Nat), j + r = 13 → K 23 [some (.ref 0), some (.long m), none, some (.int (nI a)), some (.int (nI b)), some (.int (nI (k + 1))), some (.long tl), none, some (.int (nI (rwL n a b we lea mst f g j))), some (.int (nI j)), none, none] [] (wT (nI n) ki mi se we lea mst pa fi sd ev un ma ea co ca clt) := by
      intro r
      induction r with
      | zero =>
        intro j hj
        have hj : j = 13 := by omega
        subst hj
        refine hK 14 9999 23 _ _ _ ?_
        exact ⟨fun _ => hq, fun z => absurd (nI_lt (a := 12) (b := 13) (by omega) (by omega)) z⟩
      | succ r ih =>
        intro j hj
        have next : ∀ x v, v = nI (rwL n a b we lea mst f g (j + 1)) → K 85 [some (.ref 0), some (.long m), none, some (.int (nI a)), some (.int (nI b)), some (.int (nI (k + 1))), some (.long tl), none, some (.int v), some (.int (nI j)), x, none] [] (wT (nI n) ki mi se we lea mst pa fi sd ev un ma ea co ca clt) := by
          intro x v hv
          subst hv
          have := ih (j + 1) (by omega)
          rw [← nI_1 j] at this
          exact hK 47 2 85 _ _ _ (hle _ _ _ _ _ (by repeat (first | exact trivial | refine ⟨rfl, ?_⟩)) this)
        refine hK 14 33 23 _ _ _ ?_
        refine ⟨fun z => absurd z (nI_nlt (a := 12) (b := j) (by omega) (by omega)), fun _ => ?_⟩
        refine ⟨_, _, _, _, _, _, _, _, _, _, _, _, _, _, _, _, _, a, b, j, n, rfl, rfl, rfl, hn, ha, hb, by omega, fun z => ?_, fun z => ?_⟩
        · refine ⟨fun y => absurd y (by decide), fun _ => ?_⟩
          refine ⟨_, _, _, _, _, _, _, _, _, _, _, _, _, _, _, _, _, tl, a, b, j, n, rfl, rfl, rfl, hn, ha, hb, by omega, ?_⟩
          rw [ef]
          refine ⟨_, _, _, _, _, _, _, _, _, _, _, _, _, _, _, _, _, _, _, _, rfl, rfl, fun z2 => ?_, fun z2 => ?_⟩
          · refine ⟨fun y => absurd y (by decide), fun _ => ?_⟩
            refine ⟨_, _, _, _, _, _, _, _, _, _, _, _, _, _, _, _, _, _, a, b, k, n, by rw [← nI_pred k], rfl, rfl, hn, ha, hb, by omega, by omega, ?_⟩
            refine next _ _ ?_
            rw [rwL, if_pos (by rw [rwB, cbB_t z, mwB_t z2]; rfl), ← nI_add, hR]
          · refine ⟨fun _ => ?_, fun y => absurd y (by decide)⟩
            refine next _ _ ?_
            rw [rwL, if_neg (by rw [rwB, mwB_f z2, Bool.and_false]; exact Bool.false_ne_true), Nat.add_zero]
        · refine ⟨fun _ => ?_, fun y => absurd y (by decide)⟩
          refine next _ _ ?_
          rw [rwL, if_neg (by rw [rwB, cbB_f z]; exact Bool.false_ne_true), Nat.add_zero]
    exact hle _ _ _ _ _ (by repeat (first | exact trivial | refine ⟨rfl, ?_⟩)) (loop 13 0 rfl)
  · have h6 : lf = 0 := by
      rcases Nat.eq_zero_or_pos lf with q | q
      · exact q
      · exact absurd (nI_lt (a := 0) (b := lf) q (by omega)) h
    subst h6
    exact hq
def rm_X1_rows (d : Nat) : Room := { frames := 4 + d, cells := 0, slots := 0, locals := 106 + d * 31 }
set_option maxRecDepth 100000 in
set_option maxHeartbeats 4000000 in
theorem snd_X1_rows (l : Launch) (D : va_G) (dA : Nat → ClassId) (σ : Nat → Nat) (sp : em_Sp) (rmc rm : Room) (hrec : em_CT l D em_cl dA σ (em_F σ) y_X1_rows c_X1_rows 12 (Option.some ClassFile.FieldType.int) rmc sp) (hrz : rmc.cells = 0 ∧ rmc.slots = 0) (hR : rmc.frames + 1 ≤ rm.frames ∧ 8 + (12 + 11) + rmc.locals ≤ rm.locals) (hR2 : 4 ≤ rm.frames ∧ 106 ≤ rm.locals) (p : Program) (e : Env) (s : State) (m : MethodId) (args : Array Value) (below : List Frame) (meth : Method) (c : Code) (A : Nat → Prop) (ρ : Nat → Nat) (Q : em_Q) (C : em_Cx p s m args c D em_cl A 12 (em_tys dA) c_X1_rows y_X1_rows.cls) (hFok : em_Fok (em_F σ)) (hF : em_F σ A s s.heap) (hret : meth.sig.returnType = (Option.some ClassFile.FieldType.int)) (hlk : meth.locks = false) : ∀ q ∈ T_X1_rows sp, em_Snd p l e rm s m args below meth c D em_cl dA σ A 12 (fun _ => (0, 0)) (fun ρ' => ρ' = ρ) (MQ below (em_Qc D em_cl dA σ (fun ρ' => ρ' = ρ) Q A) args s 0 0 A) Q q.1 q.2 := by
  unfold T_X1_rows
  refine List.forall_mem_cons.mpr ⟨s_iload C (by decide +kernel : decode c_X1_rows 0 = .ok (.iload 5, 2)) rfl rfl, ?_⟩
  refine List.forall_mem_cons.mpr ⟨s_ifgt C (by decide +kernel : decode c_X1_rows 2 = .ok (.ifCond .gt 5, 3)) (by decide) rfl rfl rfl, ?_⟩
  refine List.forall_mem_cons.mpr ⟨s_iconst C (by decide +kernel : decode c_X1_rows 5 = .ok (.iconst 1, 1)) rfl rfl (by decide), ?_⟩
  refine List.forall_mem_cons.mpr ⟨s_iret C (by decide +kernel : decode c_X1_rows 6 = .ok (.ireturn, 1)) hret hlk ⟨Nat.le_refl 0, Nat.le_refl 0⟩, ?_⟩
  refine List.forall_mem_cons.mpr ⟨s_aload_n C (by decide +kernel : decode c_X1_rows 7 = .ok (.aload_n 0, 1)) rfl rfl rfl, ?_⟩
  refine List.forall_mem_cons.mpr ⟨s_lload_n C (by decide +kernel : decode c_X1_rows 8 = .ok (.lload_n 1, 1)) rfl rfl rfl, ?_⟩
  refine List.forall_mem_cons.mpr ⟨s_iload_n C (by decide +kernel : decode c_X1_rows 9 = .ok (.iload_n 3, 1)) rfl rfl rfl, ?_⟩
  refine List.forall_mem_cons.mpr ⟨s_iload C (by decide +kernel : decode c_X1_rows 10 = .ok (.iload 4, 2)) rfl rfl, ?_⟩
  refine List.forall_mem_cons.mpr ⟨s_callV C hFok hF (ct_X7_behindTalk2 l D dA σ) ⟨rfl, rfl⟩ ew438 em_cl_X7 ew551 ew436 ew437 ew5 ⟨by decide, by decide, by decide +kernel⟩ ⟨Nat.le_trans (by decide) hR2.1, Nat.le_trans (by decide) hR2.2⟩ (by decide +kernel : decode c_X1_rows 12 = .ok (.invokevirtual 9, 3)) rfl rfl ⟨Nat.zero_le _, Nat.zero_le _⟩, ?_⟩
  refine List.forall_mem_cons.mpr ⟨s_lstore C (by decide +kernel : decode c_X1_rows 15 = .ok (.lstore 6, 2)) rfl rfl (by decide), ?_⟩
  refine List.forall_mem_cons.mpr ⟨s_iconst C (by decide +kernel : decode c_X1_rows 17 = .ok (.iconst 0, 1)) rfl rfl (by decide), ?_⟩
  refine List.forall_mem_cons.mpr ⟨s_istore C (by decide +kernel : decode c_X1_rows 18 = .ok (.istore 8, 2)) rfl rfl (by decide), ?_⟩
  refine List.forall_mem_cons.mpr ⟨s_iconst C (by decide +kernel : decode c_X1_rows 20 = .ok (.iconst 0, 1)) rfl rfl (by decide), ?_⟩
  refine List.forall_mem_cons.mpr ⟨s_istore C (by decide +kernel : decode c_X1_rows 21 = .ok (.istore 9, 2)) rfl rfl (by decide), ?_⟩
  refine List.forall_mem_cons.mpr ⟨s_iload C (by decide +kernel : decode c_X1_rows 23 = .ok (.iload 9, 2)) rfl rfl, ?_⟩
  refine List.forall_mem_cons.mpr ⟨s_bipush C (by decide +kernel : decode c_X1_rows 25 = .ok (.bipush 12, 2)) rfl rfl (by decide), ?_⟩
  refine List.forall_mem_cons.mpr ⟨s_icmpgt C (by decide +kernel : decode c_X1_rows 27 = .ok (.if_icmp .gt 64, 3)) (by decide) rfl rfl rfl, ?_⟩
  refine List.forall_mem_cons.mpr ⟨s_aload_n C (by decide +kernel : decode c_X1_rows 30 = .ok (.aload_n 0, 1)) rfl rfl rfl, ?_⟩
  refine List.forall_mem_cons.mpr ⟨s_iload_n C (by decide +kernel : decode c_X1_rows 31 = .ok (.iload_n 3, 1)) rfl rfl rfl, ?_⟩
  refine List.forall_mem_cons.mpr ⟨s_iload C (by decide +kernel : decode c_X1_rows 32 = .ok (.iload 4, 2)) rfl rfl, ?_⟩
  refine List.forall_mem_cons.mpr ⟨s_iload C (by decide +kernel : decode c_X1_rows 34 = .ok (.iload 9, 2)) rfl rfl, ?_⟩
  refine List.forall_mem_cons.mpr ⟨s_callS C hFok hF (ct_X1_canBe l D dA σ) ⟨rfl, rfl⟩ ew554 ew552 ew553 ew17 ⟨by decide, by decide, by decide +kernel⟩ ⟨Nat.le_trans (by decide) hR2.1, Nat.le_trans (by decide) hR2.2⟩ (by decide +kernel : decode c_X1_rows 36 = .ok (.invokestatic 17, 3)) rfl rfl ⟨Nat.zero_le _, Nat.zero_le _⟩, ?_⟩
  refine List.forall_mem_cons.mpr ⟨s_ifeq C (by decide +kernel : decode c_X1_rows 39 = .ok (.ifCond .eq 46, 3)) (by decide) rfl rfl rfl, ?_⟩
  refine List.forall_mem_cons.mpr ⟨s_aload_n C (by decide +kernel : decode c_X1_rows 42 = .ok (.aload_n 0, 1)) rfl rfl rfl, ?_⟩
  refine List.forall_mem_cons.mpr ⟨s_lload C (by decide +kernel : decode c_X1_rows 43 = .ok (.lload 6, 2)) rfl rfl, ?_⟩
  refine List.forall_mem_cons.mpr ⟨s_iload_n C (by decide +kernel : decode c_X1_rows 45 = .ok (.iload_n 3, 1)) rfl rfl rfl, ?_⟩
  refine List.forall_mem_cons.mpr ⟨s_iload C (by decide +kernel : decode c_X1_rows 46 = .ok (.iload 4, 2)) rfl rfl, ?_⟩
  refine List.forall_mem_cons.mpr ⟨s_iload C (by decide +kernel : decode c_X1_rows 48 = .ok (.iload 9, 2)) rfl rfl, ?_⟩
  refine List.forall_mem_cons.mpr ⟨s_callS C hFok hF (ct_X1_behindDinner l D dA σ) ⟨rfl, rfl⟩ ew561 ew559 ew560 ew17 ⟨by decide, by decide, by decide +kernel⟩ ⟨Nat.le_trans (by decide) hR2.1, Nat.le_trans (by decide) hR2.2⟩ (by decide +kernel : decode c_X1_rows 50 = .ok (.invokestatic 21, 3)) rfl rfl ⟨Nat.zero_le _, Nat.zero_le _⟩, ?_⟩
  refine List.forall_mem_cons.mpr ⟨s_lstore C (by decide +kernel : decode c_X1_rows 53 = .ok (.lstore 10, 2)) rfl rfl (by decide), ?_⟩
  refine List.forall_mem_cons.mpr ⟨s_aload_n C (by decide +kernel : decode c_X1_rows 55 = .ok (.aload_n 0, 1)) rfl rfl rfl, ?_⟩
  refine List.forall_mem_cons.mpr ⟨s_lload C (by decide +kernel : decode c_X1_rows 56 = .ok (.lload 10, 2)) rfl rfl, ?_⟩
  refine List.forall_mem_cons.mpr ⟨s_iload_n C (by decide +kernel : decode c_X1_rows 58 = .ok (.iload_n 3, 1)) rfl rfl rfl, ?_⟩
  refine List.forall_mem_cons.mpr ⟨s_iload C (by decide +kernel : decode c_X1_rows 59 = .ok (.iload 4, 2)) rfl rfl, ?_⟩
  refine List.forall_mem_cons.mpr ⟨s_callV C hFok hF (ct_X7_mayWed l D dA σ) ⟨rfl, rfl⟩ ew404 em_cl_X7 ew562 ew402 ew403 ew5 ⟨by decide, by decide, by decide +kernel⟩ ⟨Nat.le_trans (by decide) hR2.1, Nat.le_trans (by decide) hR2.2⟩ (by decide +kernel : decode c_X1_rows 61 = .ok (.invokevirtual 25, 3)) rfl rfl ⟨Nat.zero_le _, Nat.zero_le _⟩, ?_⟩
  refine List.forall_mem_cons.mpr ⟨s_ifeq C (by decide +kernel : decode c_X1_rows 64 = .ok (.ifCond .eq 21, 3)) (by decide) rfl rfl rfl, ?_⟩
  refine List.forall_mem_cons.mpr ⟨s_iload C (by decide +kernel : decode c_X1_rows 67 = .ok (.iload 8, 2)) rfl rfl, ?_⟩
  refine List.forall_mem_cons.mpr ⟨s_aload_n C (by decide +kernel : decode c_X1_rows 69 = .ok (.aload_n 0, 1)) rfl rfl rfl, ?_⟩
  refine List.forall_mem_cons.mpr ⟨s_lload C (by decide +kernel : decode c_X1_rows 70 = .ok (.lload 10, 2)) rfl rfl, ?_⟩
  refine List.forall_mem_cons.mpr ⟨s_iload_n C (by decide +kernel : decode c_X1_rows 72 = .ok (.iload_n 3, 1)) rfl rfl rfl, ?_⟩
  refine List.forall_mem_cons.mpr ⟨s_iload C (by decide +kernel : decode c_X1_rows 73 = .ok (.iload 4, 2)) rfl rfl, ?_⟩
  refine List.forall_mem_cons.mpr ⟨s_iload C (by decide +kernel : decode c_X1_rows 75 = .ok (.iload 5, 2)) rfl rfl, ?_⟩
  refine List.forall_mem_cons.mpr ⟨s_iconst C (by decide +kernel : decode c_X1_rows 77 = .ok (.iconst 1, 1)) rfl rfl (by decide), ?_⟩
  refine List.forall_mem_cons.mpr ⟨s_isub C (by decide +kernel : decode c_X1_rows 78 = .ok (.isub, 1)) rfl rfl, ?_⟩
  refine List.forall_mem_cons.mpr ⟨s_callS C hFok hF (hrec) hrz ew550 ew563 ew549 ew17 ⟨by decide, by decide, by decide +kernel⟩ hR (by decide +kernel : decode c_X1_rows 79 = .ok (.invokestatic 29, 3)) rfl rfl ⟨Nat.zero_le _, Nat.zero_le _⟩, ?_⟩
  refine List.forall_mem_cons.mpr ⟨s_iadd C (by decide +kernel : decode c_X1_rows 82 = .ok (.iadd, 1)) rfl rfl, ?_⟩
  refine List.forall_mem_cons.mpr ⟨s_istore C (by decide +kernel : decode c_X1_rows 83 = .ok (.istore 8, 2)) rfl rfl (by decide), ?_⟩
  refine List.forall_mem_cons.mpr ⟨s_iinc C (by decide +kernel : decode c_X1_rows 85 = .ok (.iinc 9 1, 3)) rfl rfl (by decide) (by decide), ?_⟩
  refine List.forall_mem_cons.mpr ⟨s_goto C (by decide +kernel : decode c_X1_rows 88 = .ok (.goto (-65), 3)) (by decide) rfl, ?_⟩
  refine List.forall_mem_cons.mpr ⟨s_iload C (by decide +kernel : decode c_X1_rows 91 = .ok (.iload 8, 2)) rfl rfl, ?_⟩
  refine List.forall_mem_cons.mpr ⟨s_iret C (by decide +kernel : decode c_X1_rows 93 = .ok (.ireturn, 1)) hret hlk ⟨Nat.le_refl 0, Nat.le_refl 0⟩, ?_⟩
  exact fun _ h => absurd h List.not_mem_nil
theorem ct_X1_rows (l : Launch) (D : va_G) (dA : Nat → ClassId) (σ : Nat → Nat) : ∀ d : Nat, em_CT l D em_cl dA σ (em_F σ) y_X1_rows c_X1_rows 12 (Option.some ClassFile.FieldType.int) (rm_X1_rows d) (sp_X1_rows d)
  | 0 => em_CT_of (T := T_X1_rows spF) (em_F_ok σ) (by decide) (fun p e s m args below meth c A ρ Q C hFok hF hret hlk hin => snd_X1_rows l D dA σ spF ⟨0, 0, 0, 0⟩ _ em_CT_F ⟨rfl, rfl⟩ ⟨by decide, by decide⟩ ⟨by decide, by decide⟩ p e s m args below meth c A ρ Q C hFok hF hret hlk) (me_X1_rows 0)
  | d + 1 => em_CT_of (T := T_X1_rows (sp_X1_rows d)) (em_F_ok σ) (by decide) (fun p e s m args below meth c A ρ Q C hFok hF hret hlk hin => snd_X1_rows l D dA σ (sp_X1_rows d) (rm_X1_rows d) _ (ct_X1_rows l D dA σ d) ⟨rfl, rfl⟩ ⟨by show 4 + d + 1 ≤ 4 + (d + 1); omega, by show 8 + (12 + 11) + (106 + d * 31) ≤ 106 + (d + 1) * 31; omega⟩ ⟨by show 4 ≤ 4 + (d + 1); omega, by show 106 ≤ 106 + (d + 1) * 31; omega⟩ p e s m args below meth c A ρ Q C hFok hF hret hlk) (me_X1_rows (d + 1))
theorem rwL_le {n a b : Nat} {we lea mst : Int32} {f : Nat → Int64} {g : Int64 → Nat} {B : Nat} (hg : ∀ x, g x ≤ B) : ∀ k, rwL n a b we lea mst f g k ≤ k * B
  | 0 => by rw [rwL]; omega
  | k + 1 => by
    have := rwL_le (n := n) (a := a) (b := b) (we := we) (lea := lea) (mst := mst) (f := f) hg k
    have h2 := hg (f k)
    rw [rwL, Nat.add_mul]
    split <;> omega
theorem rws_le {n : Nat} {ki : Nat → Int32} {we lea mst : Int32} {a b : Nat} : ∀ l m, rws n ki we lea mst a b l m ≤ 13 ^ l
  | 0, m => by rw [rws]; omega
  | l + 1, m => by
    rw [rws]
    have := rwL_le (n := n) (a := a) (b := b) (we := we) (lea := lea) (mst := mst) (f := fun d => bdn n ki we a b d (btN n ki we m a b)) (g := rws n ki we lea mst a b l) (B := 13 ^ l) (fun x => rws_le l x) 13
    rw [Nat.pow_succ]
    omega
def frB (n : Nat) (ki : Nat → Int32) (we lea mst : Int32) (a b lf : Nat) (tl : Int64) (d : Nat) : Bool := rwB n a b we lea mst (fun d => bdn n ki we a b d tl) d && decide (0 < rws n ki we lea mst a b lf (bdn n ki we a b d tl))
def frL (P : Nat → Bool) : Nat → Option Nat
  | 0 => none
  | r + 1 => if P (12 - r) = true then some (12 - r) else frL P r
def oI : Option Nat → Int32
  | none => -1
  | some d => nI d
def sp_X1_first : em_Sp := fun av hp Q => ∃ pe ki mi se we lea mst pa fi sd ev un ma ea co ca clt tl a b lf n, av = [.ref 0, .long tl, .int (nI a), .int (nI b), .int (nI lf)] ∧ hp = (wT pe ki mi se we lea mst pa fi sd ev un ma ea co ca clt) ∧ pe = nI n ∧ n ≤ 6 ∧ a < 6 ∧ b < 6 ∧ lf ≤ 4 ∧ Q (some (.int (oI (frL (frB n ki we lea mst a b lf tl) 13)))) hp
def T_X1_first : List (Nat × em_Op) := [(0, o_iconst 0 1), (1, o_istore 6 3), (3, o_iload 6 5), (5, o_iconst 12 7), (7, o_icmpgt 69 10), (10, o_aload 0 11), (11, o_iload 3 12), (12, o_iload 4 14), (14, o_iload 6 16), (16, o_call 4 none (sp_X1_canBe) 19), (19, o_ifeq 63 22), (22, o_aload 0 23), (23, o_lload 1 24), (24, o_iload 3 25), (25, o_iload 4 27), (27, o_iload 6 29), (29, o_call 5 none (sp_X1_behindDinner) 32), (32, o_lstore 7 34), (34, o_aload 0 35), (35, o_lload 7 37), (37, o_iload 3 38), (38, o_iload 4 40), (40, o_call 4 (some 2) (sp_X7_mayWed) 43), (43, o_ifeq 63 46), (46, o_aload 0 47), (47, o_lload 7 49), (49, o_iload 3 50), (50, o_iload 4 52), (52, o_iload 5 54), (54, o_call 5 none (sp_X1_rows 4) 57), (57, o_ifle 63 60), (60, o_iload 6 62), (62, o_iret), (63, o_iinc 6 1 66), (66, o_goto 3), (69, o_iconst (-1) 70), (70, o_iret)]
theorem me_X1_first : em_Me T_X1_first 9 sp_X1_first := by
  intro Q K hK hle av hp hs
  obtain ⟨pe, ki, mi, se, we, lea, mst, pa, fi, sd, ev, un, ma, ea, co, ca, clt, tl, a, b, lf, n, rfl, rfl, rfl, hn, ha, hb, hl4, hq⟩ := hs
  refine ⟨Nat.le_of_ble_eq_true rfl, ?_⟩
  generalize hP : frB n ki we lea mst a b lf tl = P at hq
  obtain ⟨V, hV⟩ : ∃ V, V = frL P 13 := ⟨_, rfl⟩
  rw [← hV] at hq
  have loop : ∀ (r : Nat), r ≤ 13 → V = frL P r → K 3 [some (.ref 0), some (.long tl), none, some (.int (nI a)), some (.int (nI b)), some (.int (nI lf)), some (.int (nI (13 - r))), none, none] [] (wT (nI n) ki mi se we lea mst pa fi sd ev un ma ea co ca clt) := by
    intro r
    induction r with
    | zero =>
      intro hr hv
      rw [hv] at hq
      refine hK 2 9999 3 _ _ _ ?_
      exact ⟨fun _ => hq, fun z => absurd (nI_lt (a := 12) (b := 13) (by omega) (by omega)) z⟩
    | succ r ih =>
      intro hr hv
      rw [show 13 - (r + 1) = 12 - r by omega]
      have next : ¬ P (12 - r) = true → ∀ x, K 63 [some (.ref 0), some (.long tl), none, some (.int (nI a)), some (.int (nI b)), some (.int (nI lf)), some (.int (nI (12 - r))), x, none] [] (wT (nI n) ki mi se we lea mst pa fi sd ev un ma ea co ca clt) := by
        intro hz x
        have := ih (by omega) (by rw [hv, frL, if_neg hz])
        rw [show 13 - r = (12 - r) + 1 by omega, ← nI_1] at this
        exact hK 33 2 63 _ _ _ (hle _ _ _ _ _ (by repeat (first | exact trivial | refine ⟨rfl, ?_⟩)) this)
      have ep : P (12 - r) = (rwB n a b we lea mst (fun d => bdn n ki we a b d tl) (12 - r) && decide (0 < rws n ki we lea mst a b lf (bdn n ki we a b (12 - r) tl))) := by rw [← hP]; rfl
      refine hK 2 31 3 _ _ _ ?_
      refine ⟨fun z => absurd z (nI_nlt (a := 12) (b := 12 - r) (by omega) (by omega)), fun _ => ?_⟩
      refine ⟨_, _, _, _, _, _, _, _, _, _, _, _, _, _, _, _, _, a, b, 12 - r, n, rfl, rfl, rfl, hn, ha, hb, by omega, fun z => ?_, fun z => ?_⟩
      · refine ⟨fun y => absurd y (by decide), fun _ => ?_⟩
        refine ⟨_, _, _, _, _, _, _, _, _, _, _, _, _, _, _, _, _, tl, a, b, 12 - r, n, rfl, rfl, rfl, hn, ha, hb, by omega, ?_⟩
        refine ⟨_, _, _, _, _, _, _, _, _, _, _, _, _, _, _, _, _, _, _, _, rfl, rfl, fun z2 => ?_, fun z2 => ?_⟩
        · refine ⟨fun y => absurd y (by decide), fun _ => ?_⟩
          refine ⟨_, _, _, _, _, _, _, _, _, _, _, _, _, _, _, _, _, _, a, b, lf, n, rfl, rfl, rfl, hn, ha, hb, by omega, by omega, ?_⟩
          have hle9 : rws n ki we lea mst a b lf (bdn n ki we a b (12 - r) tl) ≤ 13 ^ 4 := Nat.le_trans (rws_le lf _) (Nat.pow_le_pow_right (by omega) hl4)
          refine ⟨fun z3 => ?_, fun z3 => ?_⟩
          · refine next (fun y => ?_) _
            rw [ep, Bool.and_eq_true, decide_eq_true_eq] at y
            exact absurd z3 (nI_nle y.2 (by omega))
          · have h0 : 0 < rws n ki we lea mst a b lf (bdn n ki we a b (12 - r) tl) := by
              rcases Nat.eq_zero_or_pos (rws n ki we lea mst a b lf (bdn n ki we a b (12 - r) tl)) with q | q
              · rw [q] at z3; exact absurd (by decide) z3
              · exact q
            have e1 : P (12 - r) = true := by
              rw [ep, decide_eq_true h0, Bool.and_true, rwB, cbB_t z]
              exact mwB_t z2
            rw [hv, frL, if_pos e1] at hq
            exact hq
        · refine ⟨fun _ => ?_, fun y => absurd y (by decide)⟩
          refine next (fun y => ?_) _
          rw [ep, rwB, mwB_f z2, Bool.and_false] at y
          exact Bool.false_ne_true y
      · refine ⟨fun _ => ?_, fun y => absurd y (by decide)⟩
        refine next (fun y => ?_) _
        rw [ep, rwB, cbB_f z] at y
        exact Bool.false_ne_true y
  exact hK 0 2 0 _ _ _ (loop 13 (Nat.le_refl _) hV)
abbrev rm_X1_first : Room := { frames := 9, cells := 0, slots := 0, locals := 261 }
set_option maxRecDepth 100000 in
set_option maxHeartbeats 4000000 in
theorem ct_X1_first (l : Launch) (D : va_G) (dA : Nat → ClassId) (σ : Nat → Nat) : em_CT l D em_cl dA σ (em_F σ) y_X1_first c_X1_first 9 (Option.some ClassFile.FieldType.int) rm_X1_first (sp_X1_first ) := by
  refine em_CT_of (T := T_X1_first ) (em_F_ok σ) (by decide) (fun p e s m args below meth c A ρ Q C hFok hF hret hlk hin => ?_) (me_X1_first )
  unfold T_X1_first
  refine List.forall_mem_cons.mpr ⟨s_iconst C (by decide +kernel : decode c_X1_first 0 = .ok (.iconst 0, 1)) rfl rfl (by decide), ?_⟩
  refine List.forall_mem_cons.mpr ⟨s_istore C (by decide +kernel : decode c_X1_first 1 = .ok (.istore 6, 2)) rfl rfl (by decide), ?_⟩
  refine List.forall_mem_cons.mpr ⟨s_iload C (by decide +kernel : decode c_X1_first 3 = .ok (.iload 6, 2)) rfl rfl, ?_⟩
  refine List.forall_mem_cons.mpr ⟨s_bipush C (by decide +kernel : decode c_X1_first 5 = .ok (.bipush 12, 2)) rfl rfl (by decide), ?_⟩
  refine List.forall_mem_cons.mpr ⟨s_icmpgt C (by decide +kernel : decode c_X1_first 7 = .ok (.if_icmp .gt 62, 3)) (by decide) rfl rfl rfl, ?_⟩
  refine List.forall_mem_cons.mpr ⟨s_aload_n C (by decide +kernel : decode c_X1_first 10 = .ok (.aload_n 0, 1)) rfl rfl rfl, ?_⟩
  refine List.forall_mem_cons.mpr ⟨s_iload_n C (by decide +kernel : decode c_X1_first 11 = .ok (.iload_n 3, 1)) rfl rfl rfl, ?_⟩
  refine List.forall_mem_cons.mpr ⟨s_iload C (by decide +kernel : decode c_X1_first 12 = .ok (.iload 4, 2)) rfl rfl, ?_⟩
  refine List.forall_mem_cons.mpr ⟨s_iload C (by decide +kernel : decode c_X1_first 14 = .ok (.iload 6, 2)) rfl rfl, ?_⟩
  refine List.forall_mem_cons.mpr ⟨s_callS C hFok hF (ct_X1_canBe l D dA σ) ⟨rfl, rfl⟩ ew554 ew552 ew553 ew17 ⟨by decide, by decide, by decide +kernel⟩ ⟨by decide, by decide⟩ (by decide +kernel : decode c_X1_first 16 = .ok (.invokestatic 17, 3)) rfl rfl ⟨Nat.zero_le _, Nat.zero_le _⟩, ?_⟩
  refine List.forall_mem_cons.mpr ⟨s_ifeq C (by decide +kernel : decode c_X1_first 19 = .ok (.ifCond .eq 44, 3)) (by decide) rfl rfl rfl, ?_⟩
  refine List.forall_mem_cons.mpr ⟨s_aload_n C (by decide +kernel : decode c_X1_first 22 = .ok (.aload_n 0, 1)) rfl rfl rfl, ?_⟩
  refine List.forall_mem_cons.mpr ⟨s_lload_n C (by decide +kernel : decode c_X1_first 23 = .ok (.lload_n 1, 1)) rfl rfl rfl, ?_⟩
  refine List.forall_mem_cons.mpr ⟨s_iload_n C (by decide +kernel : decode c_X1_first 24 = .ok (.iload_n 3, 1)) rfl rfl rfl, ?_⟩
  refine List.forall_mem_cons.mpr ⟨s_iload C (by decide +kernel : decode c_X1_first 25 = .ok (.iload 4, 2)) rfl rfl, ?_⟩
  refine List.forall_mem_cons.mpr ⟨s_iload C (by decide +kernel : decode c_X1_first 27 = .ok (.iload 6, 2)) rfl rfl, ?_⟩
  refine List.forall_mem_cons.mpr ⟨s_callS C hFok hF (ct_X1_behindDinner l D dA σ) ⟨rfl, rfl⟩ ew561 ew559 ew560 ew17 ⟨by decide, by decide, by decide +kernel⟩ ⟨by decide, by decide⟩ (by decide +kernel : decode c_X1_first 29 = .ok (.invokestatic 21, 3)) rfl rfl ⟨Nat.zero_le _, Nat.zero_le _⟩, ?_⟩
  refine List.forall_mem_cons.mpr ⟨s_lstore C (by decide +kernel : decode c_X1_first 32 = .ok (.lstore 7, 2)) rfl rfl (by decide), ?_⟩
  refine List.forall_mem_cons.mpr ⟨s_aload_n C (by decide +kernel : decode c_X1_first 34 = .ok (.aload_n 0, 1)) rfl rfl rfl, ?_⟩
  refine List.forall_mem_cons.mpr ⟨s_lload C (by decide +kernel : decode c_X1_first 35 = .ok (.lload 7, 2)) rfl rfl, ?_⟩
  refine List.forall_mem_cons.mpr ⟨s_iload_n C (by decide +kernel : decode c_X1_first 37 = .ok (.iload_n 3, 1)) rfl rfl rfl, ?_⟩
  refine List.forall_mem_cons.mpr ⟨s_iload C (by decide +kernel : decode c_X1_first 38 = .ok (.iload 4, 2)) rfl rfl, ?_⟩
  refine List.forall_mem_cons.mpr ⟨s_callV C hFok hF (ct_X7_mayWed l D dA σ) ⟨rfl, rfl⟩ ew404 em_cl_X7 ew562 ew402 ew403 ew5 ⟨by decide, by decide, by decide +kernel⟩ ⟨by decide, by decide⟩ (by decide +kernel : decode c_X1_first 40 = .ok (.invokevirtual 25, 3)) rfl rfl ⟨Nat.zero_le _, Nat.zero_le _⟩, ?_⟩
  refine List.forall_mem_cons.mpr ⟨s_ifeq C (by decide +kernel : decode c_X1_first 43 = .ok (.ifCond .eq 20, 3)) (by decide) rfl rfl rfl, ?_⟩
  refine List.forall_mem_cons.mpr ⟨s_aload_n C (by decide +kernel : decode c_X1_first 46 = .ok (.aload_n 0, 1)) rfl rfl rfl, ?_⟩
  refine List.forall_mem_cons.mpr ⟨s_lload C (by decide +kernel : decode c_X1_first 47 = .ok (.lload 7, 2)) rfl rfl, ?_⟩
  refine List.forall_mem_cons.mpr ⟨s_iload_n C (by decide +kernel : decode c_X1_first 49 = .ok (.iload_n 3, 1)) rfl rfl rfl, ?_⟩
  refine List.forall_mem_cons.mpr ⟨s_iload C (by decide +kernel : decode c_X1_first 50 = .ok (.iload 4, 2)) rfl rfl, ?_⟩
  refine List.forall_mem_cons.mpr ⟨s_iload C (by decide +kernel : decode c_X1_first 52 = .ok (.iload 5, 2)) rfl rfl, ?_⟩
  refine List.forall_mem_cons.mpr ⟨s_callS C hFok hF (ct_X1_rows l D dA σ 4) ⟨rfl, rfl⟩ ew550 ew563 ew549 ew17 ⟨by decide, by decide, by decide +kernel⟩ ⟨by decide, by decide⟩ (by decide +kernel : decode c_X1_first 54 = .ok (.invokestatic 29, 3)) rfl rfl ⟨Nat.zero_le _, Nat.zero_le _⟩, ?_⟩
  refine List.forall_mem_cons.mpr ⟨s_ifle C (by decide +kernel : decode c_X1_first 57 = .ok (.ifCond .le 6, 3)) (by decide) rfl rfl rfl, ?_⟩
  refine List.forall_mem_cons.mpr ⟨s_iload C (by decide +kernel : decode c_X1_first 60 = .ok (.iload 6, 2)) rfl rfl, ?_⟩
  refine List.forall_mem_cons.mpr ⟨s_iret C (by decide +kernel : decode c_X1_first 62 = .ok (.ireturn, 1)) hret hlk ⟨Nat.le_refl 0, Nat.le_refl 0⟩, ?_⟩
  refine List.forall_mem_cons.mpr ⟨s_iinc C (by decide +kernel : decode c_X1_first 63 = .ok (.iinc 6 1, 3)) rfl rfl (by decide) (by decide), ?_⟩
  refine List.forall_mem_cons.mpr ⟨s_goto C (by decide +kernel : decode c_X1_first 66 = .ok (.goto (-63), 3)) (by decide) rfl, ?_⟩
  refine List.forall_mem_cons.mpr ⟨s_iconst C (by decide +kernel : decode c_X1_first 69 = .ok (.iconst (-1), 1)) rfl rfl (by decide), ?_⟩
  refine List.forall_mem_cons.mpr ⟨s_iret C (by decide +kernel : decode c_X1_first 70 = .ok (.ireturn, 1)) hret hlk ⟨Nat.le_refl 0, Nat.le_refl 0⟩, ?_⟩
  exact fun _ h => absurd h List.not_mem_nil
def ofr (n : Nat) (ki : Nat → Int32) (we lea mst : Int32) (a b m : Nat) (i : Int32) : Nat → Int64 → Int32
  | 0, _ => -5
  | r + 1, ms => match frL (frB n ki we lea mst a b r (btN n ki we ms a b)) 13 with
    | none => -1
    | some d => if nI (m - (r + 1)) = i then nI d else ofr n ki we lea mst a b m i r (bdn n ki we a b d (btN n ki we ms a b))
theorem frL_lt {P : Nat → Bool} : ∀ r d, frL P r = some d → d ≤ 12
  | 0, d, h => by cases h
  | r + 1, d, h => by
    rw [frL] at h
    split at h
    · cases h; omega
    · exact frL_lt r d h
def sp_X1_ofFirstRow : em_Sp := fun av hp Q => ∃ pe ki mi se we lea mst pa fi sd ev un ma ea co ca clt a b m i n, av = [.ref 0, .int (nI a), .int (nI b), .int (nI m), .int i] ∧ hp = (wT pe ki mi se we lea mst pa fi sd ev un ma ea co ca clt) ∧ pe = nI n ∧ n ≤ 6 ∧ a < 6 ∧ b < 6 ∧ m ≤ 4 ∧ Q (some (.int (ofr n ki we lea mst a b m i m mi))) hp
def T_X1_ofFirstRow : List (Nat × em_Op) := [(0, o_aload 0 1), (1, o_getf 2 2 4), (4, o_lstore 5 6), (6, o_iconst 0 7), (7, o_istore 7 9), (9, o_iload 7 11), (11, o_iload 3 12), (12, o_icmpge 75 15), (15, o_aload 0 16), (16, o_lload 5 18), (18, o_iload 1 19), (19, o_iload 2 20), (20, o_call 4 (some 2) (sp_X7_behindTalk2) 23), (23, o_lstore 8 25), (25, o_aload 0 26), (26, o_lload 8 28), (28, o_iload 1 29), (29, o_iload 2 30), (30, o_iload 3 31), (31, o_iload 7 33), (33, o_isub 34), (34, o_iconst 1 35), (35, o_isub 36), (36, o_call 5 none (sp_X1_first) 39), (39, o_istore 10 41), (41, o_iload 10 43), (43, o_iconst (-1) 44), (44, o_icmpeq 54 47), (47, o_iload 7 49), (49, o_iload 4 51), (51, o_icmpne 57 54), (54, o_iload 10 56), (56, o_iret), (57, o_aload 0 58), (58, o_lload 8 60), (60, o_iload 1 61), (61, o_iload 2 62), (62, o_iload 10 64), (64, o_call 5 none (sp_X1_behindDinner) 67), (67, o_lstore 5 69), (69, o_iinc 7 1 72), (72, o_goto 9), (75, o_iconst (-5) 77), (77, o_iret)]
theorem me_X1_ofFirstRow : em_Me T_X1_ofFirstRow 11 sp_X1_ofFirstRow := by
  intro Q K hK hle av hp hs
  obtain ⟨pe, ki, mi, se, we, lea, mst, pa, fi, sd, ev, un, ma, ea, co, ca, clt, a, b, m, i, n, rfl, rfl, rfl, hn, ha, hb, hl4, hq⟩ := hs
  refine ⟨Nat.le_of_ble_eq_true rfl, ?_⟩
  obtain ⟨V, hV⟩ : ∃ V, V = ofr n ki we lea mst a b m i m mi := ⟨_, rfl⟩
  rw [← hV] at hq
  have loop : ∀ (r : Nat) (ms : Int64), r ≤ m → V = ofr n ki we lea mst a b m i r ms → K 9 [some (.ref 0), some (.int (nI a)), some (.int (nI b)), some (.int (nI m)), some (.int i), some (.long ms), none, some (.int (nI (m - r))), none, none, none] [] (wT (nI n) ki mi se we lea mst pa fi sd ev un ma ea co ca clt) := by
    intro r
    induction r with
    | zero =>
      intro ms hr hv
      rw [hv] at hq
      refine hK 5 9999 9 _ _ _ ?_
      exact ⟨fun _ => hq, fun z => absurd (nI_le (a := m) (b := m - 0) (by omega) (by omega)) z⟩
    | succ r ih =>
      intro ms hr hv
      rw [ofr] at hv
      refine hK 5 9999 9 _ _ _ ?_
      refine ⟨fun z => absurd z (nI_ge (a := m - (r + 1)) (b := m) (by omega) (by omega)), fun _ => ?_⟩
      refine ⟨_, _, _, _, _, _, _, _, _, _, _, _, _, _, _, _, _, ms, a, b, n, rfl, rfl, rfl, hn, by omega, by omega, ?_⟩
      have e9 : nI m - nI (m - (r + 1)) - 1 = nI r := by
        rw [pk_sub (by omega), show m - (m - (r + 1)) = r + 1 by omega, nI_pred]
      refine ⟨_, _, _, _, _, _, _, _, _, _, _, _, _, _, _, _, _, _, a, b, r, n, by rw [← e9], rfl, rfl, hn, ha, hb, by omega, ?_⟩
      cases hf : frL (frB n ki we lea mst a b r (btN n ki we ms a b)) 13 with
      | none =>
        rw [hf] at hv
        rw [hv] at hq
        exact ⟨fun _ => hq, fun z => absurd rfl z⟩
      | some d =>
        have hd := frL_lt 13 d hf
        rw [hf] at hv
        refine ⟨fun z => absurd z ?_, fun _ => ⟨fun z => ?_, fun z => ?_⟩⟩
        · intro q
          have : (nI d).toInt = ((-1 : Int32)).toInt := by
            have q' : nI d = -1 := q
            rw [q']
          rw [nI_toInt (by omega)] at this
          have h2 : ((-1 : Int32)).toInt = -1 := by decide
          omega
        · have hv' : V = ofr n ki we lea mst a b m i r (bdn n ki we a b d (btN n ki we ms a b)) := by
            rw [hv]
            exact if_neg z
          refine ⟨_, _, _, _, _, _, _, _, _, _, _, _, _, _, _, _, _, _, a, b, d, n, rfl, rfl, rfl, hn, ha, hb, hd, ?_⟩
          have := ih _ (by omega) hv'
          rw [show m - r = (m - (r + 1)) + 1 by omega, ← nI_1] at this
          exact hle _ _ _ _ _ (by repeat (first | exact trivial | refine ⟨rfl, ?_⟩)) this
        · have hv' : V = nI d := by
            rw [hv]
            exact if_pos z
          rw [hv'] at hq
          exact hq
  have := loop m mi (Nat.le_refl _) hV
  rw [Nat.sub_self] at this
  exact hK 0 5 0 _ _ _ this
abbrev rm_X1_ofFirstRow : Room := { frames := 10, cells := 0, slots := 0, locals := 289 }
set_option maxRecDepth 100000 in
set_option maxHeartbeats 4000000 in
theorem ct_X1_ofFirstRow (l : Launch) (D : va_G) (dA : Nat → ClassId) (σ : Nat → Nat) : em_CT l D em_cl dA σ (em_F σ) y_X1_ofFirstRow c_X1_ofFirstRow 11 (Option.some ClassFile.FieldType.int) rm_X1_ofFirstRow (sp_X1_ofFirstRow ) := by
  refine em_CT_of (T := T_X1_ofFirstRow ) (em_F_ok σ) (by decide) (fun p e s m args below meth c A ρ Q C hFok hF hret hlk hin => ?_) (me_X1_ofFirstRow )
  unfold T_X1_ofFirstRow
  refine List.forall_mem_cons.mpr ⟨s_aload_n C (by decide +kernel : decode c_X1_ofFirstRow 0 = .ok (.aload_n 0, 1)) rfl rfl rfl, ?_⟩
  refine List.forall_mem_cons.mpr ⟨s_getf C (by decide +kernel : decode c_X1_ofFirstRow 1 = .ok (.getfield 33, 3)) rfl rfl em_cl_X7 (by decide) ew92 rfl, ?_⟩
  refine List.forall_mem_cons.mpr ⟨s_lstore C (by decide +kernel : decode c_X1_ofFirstRow 4 = .ok (.lstore 5, 2)) rfl rfl (by decide), ?_⟩
  refine List.forall_mem_cons.mpr ⟨s_iconst C (by decide +kernel : decode c_X1_ofFirstRow 6 = .ok (.iconst 0, 1)) rfl rfl (by decide), ?_⟩
  refine List.forall_mem_cons.mpr ⟨s_istore C (by decide +kernel : decode c_X1_ofFirstRow 7 = .ok (.istore 7, 2)) rfl rfl (by decide), ?_⟩
  refine List.forall_mem_cons.mpr ⟨s_iload C (by decide +kernel : decode c_X1_ofFirstRow 9 = .ok (.iload 7, 2)) rfl rfl, ?_⟩
  refine List.forall_mem_cons.mpr ⟨s_iload_n C (by decide +kernel : decode c_X1_ofFirstRow 11 = .ok (.iload_n 3, 1)) rfl rfl rfl, ?_⟩
  refine List.forall_mem_cons.mpr ⟨s_icmpge C (by decide +kernel : decode c_X1_ofFirstRow 12 = .ok (.if_icmp .ge 63, 3)) (by decide) rfl rfl rfl, ?_⟩
  refine List.forall_mem_cons.mpr ⟨s_aload_n C (by decide +kernel : decode c_X1_ofFirstRow 15 = .ok (.aload_n 0, 1)) rfl rfl rfl, ?_⟩
  refine List.forall_mem_cons.mpr ⟨s_lload C (by decide +kernel : decode c_X1_ofFirstRow 16 = .ok (.lload 5, 2)) rfl rfl, ?_⟩
  refine List.forall_mem_cons.mpr ⟨s_iload_n C (by decide +kernel : decode c_X1_ofFirstRow 18 = .ok (.iload_n 1, 1)) rfl rfl rfl, ?_⟩
  refine List.forall_mem_cons.mpr ⟨s_iload_n C (by decide +kernel : decode c_X1_ofFirstRow 19 = .ok (.iload_n 2, 1)) rfl rfl rfl, ?_⟩
  refine List.forall_mem_cons.mpr ⟨s_callV C hFok hF (ct_X7_behindTalk2 l D dA σ) ⟨rfl, rfl⟩ ew438 em_cl_X7 ew551 ew436 ew437 ew5 ⟨by decide, by decide, by decide +kernel⟩ ⟨by decide, by decide⟩ (by decide +kernel : decode c_X1_ofFirstRow 20 = .ok (.invokevirtual 9, 3)) rfl rfl ⟨Nat.zero_le _, Nat.zero_le _⟩, ?_⟩
  refine List.forall_mem_cons.mpr ⟨s_lstore C (by decide +kernel : decode c_X1_ofFirstRow 23 = .ok (.lstore 8, 2)) rfl rfl (by decide), ?_⟩
  refine List.forall_mem_cons.mpr ⟨s_aload_n C (by decide +kernel : decode c_X1_ofFirstRow 25 = .ok (.aload_n 0, 1)) rfl rfl rfl, ?_⟩
  refine List.forall_mem_cons.mpr ⟨s_lload C (by decide +kernel : decode c_X1_ofFirstRow 26 = .ok (.lload 8, 2)) rfl rfl, ?_⟩
  refine List.forall_mem_cons.mpr ⟨s_iload_n C (by decide +kernel : decode c_X1_ofFirstRow 28 = .ok (.iload_n 1, 1)) rfl rfl rfl, ?_⟩
  refine List.forall_mem_cons.mpr ⟨s_iload_n C (by decide +kernel : decode c_X1_ofFirstRow 29 = .ok (.iload_n 2, 1)) rfl rfl rfl, ?_⟩
  refine List.forall_mem_cons.mpr ⟨s_iload_n C (by decide +kernel : decode c_X1_ofFirstRow 30 = .ok (.iload_n 3, 1)) rfl rfl rfl, ?_⟩
  refine List.forall_mem_cons.mpr ⟨s_iload C (by decide +kernel : decode c_X1_ofFirstRow 31 = .ok (.iload 7, 2)) rfl rfl, ?_⟩
  refine List.forall_mem_cons.mpr ⟨s_isub C (by decide +kernel : decode c_X1_ofFirstRow 33 = .ok (.isub, 1)) rfl rfl, ?_⟩
  refine List.forall_mem_cons.mpr ⟨s_iconst C (by decide +kernel : decode c_X1_ofFirstRow 34 = .ok (.iconst 1, 1)) rfl rfl (by decide), ?_⟩
  refine List.forall_mem_cons.mpr ⟨s_isub C (by decide +kernel : decode c_X1_ofFirstRow 35 = .ok (.isub, 1)) rfl rfl, ?_⟩
  refine List.forall_mem_cons.mpr ⟨s_callS C hFok hF (ct_X1_first l D dA σ) ⟨rfl, rfl⟩ ew569 ew567 ew568 ew17 ⟨by decide, by decide, by decide +kernel⟩ ⟨by decide, by decide⟩ (by decide +kernel : decode c_X1_ofFirstRow 36 = .ok (.invokestatic 37, 3)) rfl rfl ⟨Nat.zero_le _, Nat.zero_le _⟩, ?_⟩
  refine List.forall_mem_cons.mpr ⟨s_istore C (by decide +kernel : decode c_X1_ofFirstRow 39 = .ok (.istore 10, 2)) rfl rfl (by decide), ?_⟩
  refine List.forall_mem_cons.mpr ⟨s_iload C (by decide +kernel : decode c_X1_ofFirstRow 41 = .ok (.iload 10, 2)) rfl rfl, ?_⟩
  refine List.forall_mem_cons.mpr ⟨s_iconst C (by decide +kernel : decode c_X1_ofFirstRow 43 = .ok (.iconst (-1), 1)) rfl rfl (by decide), ?_⟩
  refine List.forall_mem_cons.mpr ⟨s_icmpeq C (by decide +kernel : decode c_X1_ofFirstRow 44 = .ok (.if_icmp .eq 10, 3)) (by decide) rfl rfl rfl, ?_⟩
  refine List.forall_mem_cons.mpr ⟨s_iload C (by decide +kernel : decode c_X1_ofFirstRow 47 = .ok (.iload 7, 2)) rfl rfl, ?_⟩
  refine List.forall_mem_cons.mpr ⟨s_iload C (by decide +kernel : decode c_X1_ofFirstRow 49 = .ok (.iload 4, 2)) rfl rfl, ?_⟩
  refine List.forall_mem_cons.mpr ⟨s_icmpne C (by decide +kernel : decode c_X1_ofFirstRow 51 = .ok (.if_icmp .ne 6, 3)) (by decide) rfl rfl rfl, ?_⟩
  refine List.forall_mem_cons.mpr ⟨s_iload C (by decide +kernel : decode c_X1_ofFirstRow 54 = .ok (.iload 10, 2)) rfl rfl, ?_⟩
  refine List.forall_mem_cons.mpr ⟨s_iret C (by decide +kernel : decode c_X1_ofFirstRow 56 = .ok (.ireturn, 1)) hret hlk ⟨Nat.le_refl 0, Nat.le_refl 0⟩, ?_⟩
  refine List.forall_mem_cons.mpr ⟨s_aload_n C (by decide +kernel : decode c_X1_ofFirstRow 57 = .ok (.aload_n 0, 1)) rfl rfl rfl, ?_⟩
  refine List.forall_mem_cons.mpr ⟨s_lload C (by decide +kernel : decode c_X1_ofFirstRow 58 = .ok (.lload 8, 2)) rfl rfl, ?_⟩
  refine List.forall_mem_cons.mpr ⟨s_iload_n C (by decide +kernel : decode c_X1_ofFirstRow 60 = .ok (.iload_n 1, 1)) rfl rfl rfl, ?_⟩
  refine List.forall_mem_cons.mpr ⟨s_iload_n C (by decide +kernel : decode c_X1_ofFirstRow 61 = .ok (.iload_n 2, 1)) rfl rfl rfl, ?_⟩
  refine List.forall_mem_cons.mpr ⟨s_iload C (by decide +kernel : decode c_X1_ofFirstRow 62 = .ok (.iload 10, 2)) rfl rfl, ?_⟩
  refine List.forall_mem_cons.mpr ⟨s_callS C hFok hF (ct_X1_behindDinner l D dA σ) ⟨rfl, rfl⟩ ew561 ew559 ew560 ew17 ⟨by decide, by decide, by decide +kernel⟩ ⟨by decide, by decide⟩ (by decide +kernel : decode c_X1_ofFirstRow 64 = .ok (.invokestatic 21, 3)) rfl rfl ⟨Nat.zero_le _, Nat.zero_le _⟩, ?_⟩
  refine List.forall_mem_cons.mpr ⟨s_lstore C (by decide +kernel : decode c_X1_ofFirstRow 67 = .ok (.lstore 5, 2)) rfl rfl (by decide), ?_⟩
  refine List.forall_mem_cons.mpr ⟨s_iinc C (by decide +kernel : decode c_X1_ofFirstRow 69 = .ok (.iinc 7 1, 3)) rfl rfl (by decide) (by decide), ?_⟩
  refine List.forall_mem_cons.mpr ⟨s_goto C (by decide +kernel : decode c_X1_ofFirstRow 72 = .ok (.goto (-63), 3)) (by decide) rfl, ?_⟩
  refine List.forall_mem_cons.mpr ⟨s_bipush C (by decide +kernel : decode c_X1_ofFirstRow 75 = .ok (.bipush (-5), 2)) rfl rfl (by decide), ?_⟩
  refine List.forall_mem_cons.mpr ⟨s_iret C (by decide +kernel : decode c_X1_ofFirstRow 77 = .ok (.ireturn, 1)) hret hlk ⟨Nat.le_refl 0, Nat.le_refl 0⟩, ?_⟩
  exact fun _ h => absurd h List.not_mem_nil
