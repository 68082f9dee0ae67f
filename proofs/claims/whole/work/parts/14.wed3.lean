/-! ===== WedApart: marriages and on ===== -/
def inw (m : Int32) : Prop := ¬ m < 0 ∧ m ≤ 40
theorem inw_at {m : Int32} (h : inw m) : ∃ k, k ≤ 40 ∧ m = nI k := by
  obtain ⟨j, hj, rfl⟩ := nI_of h.1
  exact ⟨j, (nI_leI (b := 40) hj (by omega)).mp h.2, rfl⟩
theorem ltB_congr {we lea mst : Int32} {mm mm' : Nat → Int64} {k : Nat} (h : ∀ t, t ≤ 200 → mm t = mm' t) : ltB we lea mst mm k = ltB we lea mst mm' k := by
  funext a b
  rw [ltB, ltB, ffd_congr (P' := fun t => !mwB we lea mst (mm' t) a b) (fun t ht => by show (!mwB we lea mst (mm t) a b) = _; rw [h t (by omega)]) 201 (Nat.le_refl _)]
def wpr (np n : Nat) (ki : Nat → Int32) (we lea mst : Int32) (fa fb : Nat → Nat) (e0 : Nat) (mi : Int64) (k : Nat) : Int64 := lpO (ltB we lea mst (csm np ki we fa fb e0 mi) k) n n
def sp_X9_wed : em_Sp := fun av hp Q => ∃ by9 tln tst ten mm fa9 fb9 rf im pe ki mi se we lea mst pa fi sd ev un ma ea co ca clt Y m p n np e0 fa fb, av = [.ref 0, .int m, .int p] ∧ hp = (wX by9 tln tst ten mm fa9 fb9 rf im pe ki mi se we lea mst pa fi sd ev un ma ea co ca clt Y) ∧ pe = nI n ∧ n ≤ 6 ∧ pa = nI np ∧ np ≤ 8 ∧ ev = nI e0 ∧ e0 < 2 ^ 20 ∧ calOk n np fi sd fa fb ∧ (¬ ((p = -1 ∨ hs pe p) ∧ inw m) → Q (some (.int (-10))) (wX by9 tln tst ten mm fa9 fb9 (rfu rf (-10)) im pe ki mi se we lea mst pa fi sd ev un ma ea co ca clt Y)) ∧ (∀ k mm', m = nI k → k ≤ 40 → p = -1 → Q (some (.int (mmo (wpr np n ki we lea mst fa fb e0 mi k) 6 0))) (wX by9 tln tst ten (mm') fa9 fb9 rf im pe ki mi se we lea mst pa fi sd ev un ma ea co ca clt Y)) ∧ (∀ k w mm', m = nI k → k ≤ 40 → p = nI w → w < n → Q (some (.int (spo (wpr np n ki we lea mst fa fb e0 mi k) w (w + 1) 0))) (wX by9 tln tst ten (mm') fa9 fb9 rf im pe ki mi se we lea mst pa fi sd ev un ma ea co ca clt Y))
def T_X9_wed : List (Nat × em_Op) := [(0, o_iload 2 1), (1, o_iconst (-1) 2), (2, o_icmpeq 16 5), (5, o_aload 0 6), (6, o_getf 4 5 9), (9, o_iload 2 10), (10, o_callP 2 (some 2) [8, 9, 10, 11, 12, 13, 14, 15] (sp_X7_has) 13), (13, o_ifeq 20 16), (16, o_iconst 1 17), (17, o_goto 21), (20, o_iconst 0 21), (21, o_istore 3 22), (22, o_iload 3 23), (23, o_ifeq 36 26), (26, o_iload 1 27), (27, o_iflt 36 30), (30, o_iload 1 31), (31, o_iconst 40 33), (33, o_icmple 43 36), (36, o_aload 0 37), (37, o_iconst (-10) 39), (39, o_call 2 (some 4) (sp_X9_refuse) 42), (42, o_iret), (43, o_aload 0 44), (44, o_getf 4 1 47), (47, o_aload 0 48), (48, o_getf 4 5 51), (51, o_callP 2 (some 0) [3, 4, 8, 9, 10, 11, 12, 13, 14, 15] (sp_X0_follow) 54), (54, o_aload 0 55), (55, o_getf 4 1 58), (58, o_aload 0 59), (59, o_getf 4 5 62), (62, o_iload 1 63), (63, o_callP 3 (some 0) [3, 4, 8, 9, 10, 11, 12, 13, 14, 15] (sp_X0_lastingPairs) 66), (66, o_lstore 4 68), (68, o_iload 2 69), (69, o_iconst (-1) 70), (70, o_icmpne 81 73), (73, o_lload 4 75), (75, o_iconst 0 76), (76, o_iconst 0 77), (77, o_call 3 none (sp_X4_most 6) 80), (80, o_iret), (81, o_lload 4 83), (83, o_iload 2 84), (84, o_call 2 none (sp_X4_spouse) 87), (87, o_iret)]
theorem me_X9_wed : em_Me T_X9_wed 6 sp_X9_wed := by
  intro Q K hK hle av hp hs
  obtain ⟨by9, tln, tst, ten, mm, fa9, fb9, rf, im, pe, ki, mi, se, we, lea, mst, pa, fi, sd, ev, un, ma, ea, co, ca, clt, Y, m, p, n, np, e0, fa, fb, rfl, rfl, rfl, hn, rfl, hnp, rfl, he0, hcal, hb, hq1, hq2⟩ := hs
  refine ⟨Nat.le_of_ble_eq_true rfl, ?_⟩
  have yes : (p = -1 ∨ hs (nI n) p) → K 21 [some (.ref 0), some (.int m), some (.int p), none, none, none] [.int 1] (wX by9 tln tst ten mm fa9 fb9 rf im (nI n) ki mi se we lea mst (nI np) fi sd (nI e0) un ma ea co ca clt Y) := by
    intro hp9
    refine hK 11 9999 21 _ _ _ ?_
    refine ⟨fun z => absurd z (by decide), fun _ => ?_⟩
    refine ⟨fun y => ⟨_, _, _, _, _, _, _, _, _, _, _, _, _, _, _, _, _, _, _, _, _, _, _, _, _, _, _, _, rfl, rfl, hb (fun q => q.2.1 y)⟩, fun y => ⟨fun x => ?_, fun x => ⟨_, _, _, _, _, _, _, _, _, _, _, _, _, _, _, _, _, _, _, _, _, _, _, _, _, _, _, _, rfl, rfl, hb (fun q => x q.2.2)⟩⟩⟩
    obtain ⟨k, hk, rfl⟩ := inw_at ⟨y, x⟩
    refine ⟨mm, _, _, _, _, _, _, _, _, _, _, _, _, _, _, _, _, _, n, np, e0, fa, fb, rfl, rfl, rfl, hn, rfl, hnp, rfl, he0, hcal, fun mm' hm => ?_⟩
    refine ⟨mm', _, _, _, _, _, _, _, _, _, _, _, _, _, _, _, _, _, k, n, rfl, rfl, rfl, hn, hk, ?_⟩
    rw [ltB_congr hm]
    refine ⟨fun z => ?_, fun z => ?_⟩
    · rcases hp9 with q | q
      · exact absurd q z
      · obtain ⟨w, hw, rfl⟩ := nI_at rfl q
        exact ⟨_, w, rfl, by omega, hq2 k w mm' rfl hk rfl hw⟩
    · exact ⟨_, _, 0, rfl, by omega, by omega, hq1 k mm' rfl hk z⟩
  refine hK 0 11 0 _ _ _ ?_
  refine ⟨fun z => hle _ _ _ _ _ (by repeat (first | exact trivial | refine ⟨rfl, ?_⟩)) (yes (Or.inl z)), fun z => ?_⟩
  refine ⟨_, _, _, _, _, _, _, _, _, _, _, _, _, _, _, _, _, p, rfl, rfl, fun z2 => ?_, fun z2 => ?_⟩
  · refine ⟨fun y => absurd y (by decide), fun _ => hle _ _ _ _ _ (by repeat (first | exact trivial | refine ⟨rfl, ?_⟩)) (yes (Or.inr z2))⟩
  · refine ⟨fun _ => ?_, fun y => absurd y (by decide)⟩
    refine hK 11 9999 21 _ _ _ ?_
    refine ⟨fun _ => ?_, fun y => absurd rfl y⟩
    exact ⟨_, _, _, _, _, _, _, _, _, _, _, _, _, _, _, _, _, _, _, _, _, _, _, _, _, _, _, _, rfl, rfl, hb (fun q => q.1.elim z z2)⟩
abbrev rm_X9_wed : Room := { frames := 11, cells := 0, slots := 0, locals := 271 }
set_option maxRecDepth 100000 in
set_option maxHeartbeats 4000000 in
theorem ct_X9_wed (l : Launch) (D : va_G) (dA : Nat → ClassId) (σ : Nat → Nat) : em_CT l D em_cl dA σ (em_F σ) y_X9_wed c_X9_wed 6 (Option.some ClassFile.FieldType.int) rm_X9_wed (sp_X9_wed ) := by
  refine em_CT_of (T := T_X9_wed ) (em_F_ok σ) (by decide) (fun p e s m args below meth c A ρ Q C hFok hF hret hlk hin => ?_) (me_X9_wed )
  unfold T_X9_wed
  refine List.forall_mem_cons.mpr ⟨s_iload_n C (by decide +kernel : decode c_X9_wed 0 = .ok (.iload_n 2, 1)) rfl rfl rfl, ?_⟩
  refine List.forall_mem_cons.mpr ⟨s_iconst C (by decide +kernel : decode c_X9_wed 1 = .ok (.iconst (-1), 1)) rfl rfl (by decide), ?_⟩
  refine List.forall_mem_cons.mpr ⟨s_icmpeq C (by decide +kernel : decode c_X9_wed 2 = .ok (.if_icmp .eq 14, 3)) (by decide) rfl rfl rfl, ?_⟩
  refine List.forall_mem_cons.mpr ⟨s_aload_n C (by decide +kernel : decode c_X9_wed 5 = .ok (.aload_n 0, 1)) rfl rfl rfl, ?_⟩
  refine List.forall_mem_cons.mpr ⟨s_getf C (by decide +kernel : decode c_X9_wed 6 = .ok (.getfield 41, 3)) rfl rfl em_cl_X9 (by decide) ew157 rfl, ?_⟩
  refine List.forall_mem_cons.mpr ⟨s_iload_n C (by decide +kernel : decode c_X9_wed 9 = .ok (.iload_n 2, 1)) rfl rfl rfl, ?_⟩
  refine List.forall_mem_cons.mpr ⟨s_callPV C hFok hF (ct_X7_has l D dA σ) ⟨rfl, rfl⟩ ew208 em_cl_X7 ew205 ew206 ew207 ew5 ⟨by decide, by decide, by decide +kernel⟩ ⟨by decide, by decide⟩ (by decide +kernel : decode c_X9_wed 10 = .ok (.invokevirtual 56, 3)) rfl rfl ⟨Nat.zero_le _, Nat.zero_le _⟩ (by decide), ?_⟩
  refine List.forall_mem_cons.mpr ⟨s_ifeq C (by decide +kernel : decode c_X9_wed 13 = .ok (.ifCond .eq 7, 3)) (by decide) rfl rfl rfl, ?_⟩
  refine List.forall_mem_cons.mpr ⟨s_iconst C (by decide +kernel : decode c_X9_wed 16 = .ok (.iconst 1, 1)) rfl rfl (by decide), ?_⟩
  refine List.forall_mem_cons.mpr ⟨s_goto C (by decide +kernel : decode c_X9_wed 17 = .ok (.goto 4, 3)) (by decide) rfl, ?_⟩
  refine List.forall_mem_cons.mpr ⟨s_iconst C (by decide +kernel : decode c_X9_wed 20 = .ok (.iconst 0, 1)) rfl rfl (by decide), ?_⟩
  refine List.forall_mem_cons.mpr ⟨s_istore_n C (by decide +kernel : decode c_X9_wed 21 = .ok (.istore_n 3, 1)) rfl rfl rfl (by decide), ?_⟩
  refine List.forall_mem_cons.mpr ⟨s_iload_n C (by decide +kernel : decode c_X9_wed 22 = .ok (.iload_n 3, 1)) rfl rfl rfl, ?_⟩
  refine List.forall_mem_cons.mpr ⟨s_ifeq C (by decide +kernel : decode c_X9_wed 23 = .ok (.ifCond .eq 13, 3)) (by decide) rfl rfl rfl, ?_⟩
  refine List.forall_mem_cons.mpr ⟨s_iload_n C (by decide +kernel : decode c_X9_wed 26 = .ok (.iload_n 1, 1)) rfl rfl rfl, ?_⟩
  refine List.forall_mem_cons.mpr ⟨s_iflt C (by decide +kernel : decode c_X9_wed 27 = .ok (.ifCond .lt 9, 3)) (by decide) rfl rfl rfl, ?_⟩
  refine List.forall_mem_cons.mpr ⟨s_iload_n C (by decide +kernel : decode c_X9_wed 30 = .ok (.iload_n 1, 1)) rfl rfl rfl, ?_⟩
  refine List.forall_mem_cons.mpr ⟨s_bipush C (by decide +kernel : decode c_X9_wed 31 = .ok (.bipush 40, 2)) rfl rfl (by decide), ?_⟩
  refine List.forall_mem_cons.mpr ⟨s_icmple C (by decide +kernel : decode c_X9_wed 33 = .ok (.if_icmp .le 10, 3)) (by decide) rfl rfl rfl, ?_⟩
  refine List.forall_mem_cons.mpr ⟨s_aload_n C (by decide +kernel : decode c_X9_wed 36 = .ok (.aload_n 0, 1)) rfl rfl rfl, ?_⟩
  refine List.forall_mem_cons.mpr ⟨s_bipush C (by decide +kernel : decode c_X9_wed 37 = .ok (.bipush (-10), 2)) rfl rfl (by decide), ?_⟩
  refine List.forall_mem_cons.mpr ⟨s_callV C hFok hF (ct_X9_refuse l D dA σ) ⟨rfl, rfl⟩ ew200 em_cl_X9 ew197 ew199 ewp1 ew1 ⟨by decide, by decide, by decide +kernel⟩ ⟨by decide, by decide⟩ (by decide +kernel : decode c_X9_wed 39 = .ok (.invokevirtual 63, 3)) rfl rfl ⟨Nat.zero_le _, Nat.zero_le _⟩, ?_⟩
  refine List.forall_mem_cons.mpr ⟨s_iret C (by decide +kernel : decode c_X9_wed 42 = .ok (.ireturn, 1)) hret hlk ⟨Nat.le_refl 0, Nat.le_refl 0⟩, ?_⟩
  refine List.forall_mem_cons.mpr ⟨s_aload_n C (by decide +kernel : decode c_X9_wed 43 = .ok (.aload_n 0, 1)) rfl rfl rfl, ?_⟩
  refine List.forall_mem_cons.mpr ⟨s_getf C (by decide +kernel : decode c_X9_wed 44 = .ok (.getfield 19, 3)) rfl rfl em_cl_X9 (by decide) ew153 rfl, ?_⟩
  refine List.forall_mem_cons.mpr ⟨s_aload_n C (by decide +kernel : decode c_X9_wed 47 = .ok (.aload_n 0, 1)) rfl rfl rfl, ?_⟩
  refine List.forall_mem_cons.mpr ⟨s_getf C (by decide +kernel : decode c_X9_wed 48 = .ok (.getfield 41, 3)) rfl rfl em_cl_X9 (by decide) ew157 rfl, ?_⟩
  refine List.forall_mem_cons.mpr ⟨s_callPV C hFok hF (ct_X0_follow l D dA σ) ⟨rfl, rfl⟩ ew475 em_cl_X0 ew472 ew473 ew474 ew3 ⟨by decide, by decide, by decide +kernel⟩ ⟨by decide, by decide⟩ (by decide +kernel : decode c_X9_wed 51 = .ok (.invokevirtual 157, 3)) rfl rfl ⟨Nat.zero_le _, Nat.zero_le _⟩ (by decide), ?_⟩
  refine List.forall_mem_cons.mpr ⟨s_aload_n C (by decide +kernel : decode c_X9_wed 54 = .ok (.aload_n 0, 1)) rfl rfl rfl, ?_⟩
  refine List.forall_mem_cons.mpr ⟨s_getf C (by decide +kernel : decode c_X9_wed 55 = .ok (.getfield 19, 3)) rfl rfl em_cl_X9 (by decide) ew153 rfl, ?_⟩
  refine List.forall_mem_cons.mpr ⟨s_aload_n C (by decide +kernel : decode c_X9_wed 58 = .ok (.aload_n 0, 1)) rfl rfl rfl, ?_⟩
  refine List.forall_mem_cons.mpr ⟨s_getf C (by decide +kernel : decode c_X9_wed 59 = .ok (.getfield 41, 3)) rfl rfl em_cl_X9 (by decide) ew157 rfl, ?_⟩
  refine List.forall_mem_cons.mpr ⟨s_iload_n C (by decide +kernel : decode c_X9_wed 62 = .ok (.iload_n 1, 1)) rfl rfl rfl, ?_⟩
  refine List.forall_mem_cons.mpr ⟨s_callPV C hFok hF (ct_X0_lastingPairs l D dA σ) ⟨rfl, rfl⟩ ew524 em_cl_X0 ew521 ew522 ew523 ew3 ⟨by decide, by decide, by decide +kernel⟩ ⟨by decide, by decide⟩ (by decide +kernel : decode c_X9_wed 63 = .ok (.invokevirtual 184, 3)) rfl rfl ⟨Nat.zero_le _, Nat.zero_le _⟩ (by decide), ?_⟩
  refine List.forall_mem_cons.mpr ⟨s_lstore C (by decide +kernel : decode c_X9_wed 66 = .ok (.lstore 4, 2)) rfl rfl (by decide), ?_⟩
  refine List.forall_mem_cons.mpr ⟨s_iload_n C (by decide +kernel : decode c_X9_wed 68 = .ok (.iload_n 2, 1)) rfl rfl rfl, ?_⟩
  refine List.forall_mem_cons.mpr ⟨s_iconst C (by decide +kernel : decode c_X9_wed 69 = .ok (.iconst (-1), 1)) rfl rfl (by decide), ?_⟩
  refine List.forall_mem_cons.mpr ⟨s_icmpne C (by decide +kernel : decode c_X9_wed 70 = .ok (.if_icmp .ne 11, 3)) (by decide) rfl rfl rfl, ?_⟩
  refine List.forall_mem_cons.mpr ⟨s_lload C (by decide +kernel : decode c_X9_wed 73 = .ok (.lload 4, 2)) rfl rfl, ?_⟩
  refine List.forall_mem_cons.mpr ⟨s_iconst C (by decide +kernel : decode c_X9_wed 75 = .ok (.iconst 0, 1)) rfl rfl (by decide), ?_⟩
  refine List.forall_mem_cons.mpr ⟨s_iconst C (by decide +kernel : decode c_X9_wed 76 = .ok (.iconst 0, 1)) rfl rfl (by decide), ?_⟩
  refine List.forall_mem_cons.mpr ⟨s_callSN C hFok hF (ct_X4_most l D dA σ 6) ⟨rfl, rfl⟩ ew531 (em_F_nest (host := "WedApart") hF () (by decide +kernel)) ew530 ew16 ⟨by decide, by decide, by decide +kernel⟩ ⟨by decide, by decide⟩ (by decide +kernel : decode c_X9_wed 77 = .ok (.invokestatic 188, 3)) rfl rfl ⟨Nat.zero_le _, Nat.zero_le _⟩, ?_⟩
  refine List.forall_mem_cons.mpr ⟨s_iret C (by decide +kernel : decode c_X9_wed 80 = .ok (.ireturn, 1)) hret hlk ⟨Nat.le_refl 0, Nat.le_refl 0⟩, ?_⟩
  refine List.forall_mem_cons.mpr ⟨s_lload C (by decide +kernel : decode c_X9_wed 81 = .ok (.lload 4, 2)) rfl rfl, ?_⟩
  refine List.forall_mem_cons.mpr ⟨s_iload_n C (by decide +kernel : decode c_X9_wed 83 = .ok (.iload_n 2, 1)) rfl rfl rfl, ?_⟩
  refine List.forall_mem_cons.mpr ⟨s_callS C hFok hF (ct_X4_spouse l D dA σ) ⟨rfl, rfl⟩ ew540 ew538 ew539 ew16 ⟨by decide, by decide, by decide +kernel⟩ ⟨by decide, by decide⟩ (by decide +kernel : decode c_X9_wed 84 = .ok (.invokestatic 194, 3)) rfl rfl ⟨Nat.zero_le _, Nat.zero_le _⟩, ?_⟩
  refine List.forall_mem_cons.mpr ⟨s_iret C (by decide +kernel : decode c_X9_wed 87 = .ok (.ireturn, 1)) hret hlk ⟨Nat.le_refl 0, Nat.le_refl 0⟩, ?_⟩
  exact fun _ h => absurd h List.not_mem_nil
def din (m i : Int32) : Prop := ¬ m < 1 ∧ ¬ 4 < m ∧ (-1) ≤ i
def sp_X9_dinners : em_Sp := fun av hp Q => ∃ by9 tln tst ten mm fa9 fb9 rf im pe ki mi se we lea mst pa fi sd ev un ma ea co ca clt Y a b m i n, av = [.ref 0, .int a, .int b, .int m, .int i] ∧ hp = (wX by9 tln tst ten mm fa9 fb9 rf im pe ki mi se we lea mst pa fi sd ev un ma ea co ca clt Y) ∧ pe = nI n ∧ n ≤ 6 ∧ (¬ (h2 pe a b ∧ din m i) → Q (some (.int (-10))) (wX by9 tln tst ten mm fa9 fb9 (rfu rf (-10)) im pe ki mi se we lea mst pa fi sd ev un ma ea co ca clt Y)) ∧ (∀ x y k, a = nI x → b = nI y → x < n → y < n → x ≠ y → m = nI k → 1 ≤ k → k ≤ 4 → i = -1 → Q (some (.int (nI (rws n ki we lea mst x y k mi)))) hp) ∧ (∀ x y k, a = nI x → b = nI y → x < n → y < n → x ≠ y → m = nI k → 1 ≤ k → k ≤ 4 → (-1) ≤ i → ¬ i = -1 → Q (some (.int (ofr n ki we lea mst x y k i k mi))) hp)
def T_X9_dinners : List (Nat × em_Op) := [(0, o_aload 0 1), (1, o_getf 4 5 4), (4, o_iload 1 5), (5, o_iload 2 6), (6, o_callP 3 (some 2) [8, 9, 10, 11, 12, 13, 14, 15] (sp_X7_hasTwo) 9), (9, o_ifeq 28 12), (12, o_iload 3 13), (13, o_iconst 1 14), (14, o_icmplt 28 17), (17, o_iload 3 18), (18, o_iconst 4 19), (19, o_icmpgt 28 22), (22, o_iload 4 24), (24, o_iconst (-1) 25), (25, o_icmpge 35 28), (28, o_aload 0 29), (29, o_iconst (-10) 31), (31, o_call 2 (some 4) (sp_X9_refuse) 34), (34, o_iret), (35, o_iload 4 37), (37, o_iconst (-1) 38), (38, o_icmpne 59 41), (41, o_aload 0 42), (42, o_getf 4 5 45), (45, o_aload 0 46), (46, o_getf 4 5 49), (49, o_getf 2 2 52), (52, o_iload 1 53), (53, o_iload 2 54), (54, o_iload 3 55), (55, o_callP 5 none [8, 9, 10, 11, 12, 13, 14, 15] (sp_X1_rows 4) 58), (58, o_iret), (59, o_aload 0 60), (60, o_getf 4 5 63), (63, o_iload 1 64), (64, o_iload 2 65), (65, o_iload 3 66), (66, o_iload 4 68), (68, o_callP 5 none [8, 9, 10, 11, 12, 13, 14, 15] (sp_X1_ofFirstRow) 71), (71, o_iret)]
theorem me_X9_dinners : em_Me T_X9_dinners 5 sp_X9_dinners := by
  intro Q K hK hle av hp hs
  obtain ⟨by9, tln, tst, ten, mm, fa9, fb9, rf, im, pe, ki, mi, se, we, lea, mst, pa, fi, sd, ev, un, ma, ea, co, ca, clt, Y, a, b, m, i, n, rfl, rfl, rfl, hn, hb, hq1, hq2⟩ := hs
  refine ⟨Nat.le_of_ble_eq_true rfl, hK 0 9999 0 _ _ _ ?_⟩
  refine ⟨_, _, _, _, _, _, _, _, _, _, _, _, _, _, _, _, _, a, b, rfl, rfl, fun z => ?_, fun z => ?_⟩
  · refine ⟨fun y => absurd y (by decide), fun _ => ?_⟩
    refine ⟨fun y => ⟨_, _, _, _, _, _, _, _, _, _, _, _, _, _, _, _, _, _, _, _, _, _, _, _, _, _, _, _, rfl, rfl, hb (fun q => q.2.1 y)⟩, fun y => ⟨fun x => ⟨_, _, _, _, _, _, _, _, _, _, _, _, _, _, _, _, _, _, _, _, _, _, _, _, _, _, _, _, rfl, rfl, hb (fun q => q.2.2.1 x)⟩, fun x => ⟨fun w => ?_, fun w => ⟨_, _, _, _, _, _, _, _, _, _, _, _, _, _, _, _, _, _, _, _, _, _, _, _, _, _, _, _, rfl, rfl, hb (fun q => w q.2.2.2)⟩⟩⟩⟩
    obtain ⟨j, hj, rfl⟩ := nI_at rfl z.1
    obtain ⟨j2, hj2, rfl⟩ := nI_at rfl z.2.1
    have hij : j ≠ j2 := fun q => z.2.2 (by rw [q])
    have hm0 : ¬ m < 0 := by
      intro q
      refine y ?_
      have q' := Int32.lt_iff_toInt_lt.mp q
      refine Int32.lt_iff_toInt_lt.mpr ?_
      have e1 : (1 : Int32).toInt = 1 := by decide
      have e0 : (0 : Int32).toInt = 0 := by decide
      omega
    obtain ⟨k, hk, rfl⟩ := nI_of hm0
    have k1 : 1 ≤ k := by
      rcases Nat.lt_or_ge k 1 with q | q
      · exact absurd (nI_lt (b := 1) q (by omega)) y
      · exact q
    have k4 : k ≤ 4 := by
      rcases Nat.lt_or_ge 4 k with q | q
      · exact absurd (nI_lt (a := 4) q hk) x
      · exact q
    refine ⟨fun v => ?_, fun v => ?_⟩
    · exact ⟨_, _, _, _, _, _, _, _, _, _, _, _, _, _, _, _, _, j, j2, k, i, n, rfl, rfl, rfl, hn, by omega, by omega, k4, hq2 j j2 k rfl rfl hj hj2 hij rfl k1 k4 w v⟩
    · exact ⟨_, _, _, _, _, _, _, _, _, _, _, _, _, _, _, _, _, mi, j, j2, k, n, rfl, rfl, rfl, hn, by omega, by omega, k4, k4, hq1 j j2 k rfl rfl hj hj2 hij rfl k1 k4 v⟩
  · refine ⟨fun _ => ?_, fun y => absurd y (by decide)⟩
    exact ⟨_, _, _, _, _, _, _, _, _, _, _, _, _, _, _, _, _, _, _, _, _, _, _, _, _, _, _, _, rfl, rfl, hb (fun q => z q.1)⟩
abbrev rm_X9_dinners : Room := { frames := 11, cells := 0, slots := 0, locals := 319 }
set_option maxRecDepth 100000 in
set_option maxHeartbeats 4000000 in
theorem ct_X9_dinners (l : Launch) (D : va_G) (dA : Nat → ClassId) (σ : Nat → Nat) : em_CT l D em_cl dA σ (em_F σ) y_X9_dinners c_X9_dinners 5 (Option.some ClassFile.FieldType.int) rm_X9_dinners (sp_X9_dinners ) := by
  refine em_CT_of (T := T_X9_dinners ) (em_F_ok σ) (by decide) (fun p e s m args below meth c A ρ Q C hFok hF hret hlk hin => ?_) (me_X9_dinners )
  unfold T_X9_dinners
  refine List.forall_mem_cons.mpr ⟨s_aload_n C (by decide +kernel : decode c_X9_dinners 0 = .ok (.aload_n 0, 1)) rfl rfl rfl, ?_⟩
  refine List.forall_mem_cons.mpr ⟨s_getf C (by decide +kernel : decode c_X9_dinners 1 = .ok (.getfield 41, 3)) rfl rfl em_cl_X9 (by decide) ew157 rfl, ?_⟩
  refine List.forall_mem_cons.mpr ⟨s_iload_n C (by decide +kernel : decode c_X9_dinners 4 = .ok (.iload_n 1, 1)) rfl rfl rfl, ?_⟩
  refine List.forall_mem_cons.mpr ⟨s_iload_n C (by decide +kernel : decode c_X9_dinners 5 = .ok (.iload_n 2, 1)) rfl rfl rfl, ?_⟩
  refine List.forall_mem_cons.mpr ⟨s_callPV C hFok hF (ct_X7_hasTwo l D dA σ) ⟨rfl, rfl⟩ ew254 em_cl_X7 ew382 ew252 ew253 ew5 ⟨by decide, by decide, by decide +kernel⟩ ⟨by decide, by decide⟩ (by decide +kernel : decode c_X9_dinners 6 = .ok (.invokevirtual 113, 3)) rfl rfl ⟨Nat.zero_le _, Nat.zero_le _⟩ (by decide), ?_⟩
  refine List.forall_mem_cons.mpr ⟨s_ifeq C (by decide +kernel : decode c_X9_dinners 9 = .ok (.ifCond .eq 19, 3)) (by decide) rfl rfl rfl, ?_⟩
  refine List.forall_mem_cons.mpr ⟨s_iload_n C (by decide +kernel : decode c_X9_dinners 12 = .ok (.iload_n 3, 1)) rfl rfl rfl, ?_⟩
  refine List.forall_mem_cons.mpr ⟨s_iconst C (by decide +kernel : decode c_X9_dinners 13 = .ok (.iconst 1, 1)) rfl rfl (by decide), ?_⟩
  refine List.forall_mem_cons.mpr ⟨s_icmplt C (by decide +kernel : decode c_X9_dinners 14 = .ok (.if_icmp .lt 14, 3)) (by decide) rfl rfl rfl, ?_⟩
  refine List.forall_mem_cons.mpr ⟨s_iload_n C (by decide +kernel : decode c_X9_dinners 17 = .ok (.iload_n 3, 1)) rfl rfl rfl, ?_⟩
  refine List.forall_mem_cons.mpr ⟨s_iconst C (by decide +kernel : decode c_X9_dinners 18 = .ok (.iconst 4, 1)) rfl rfl (by decide), ?_⟩
  refine List.forall_mem_cons.mpr ⟨s_icmpgt C (by decide +kernel : decode c_X9_dinners 19 = .ok (.if_icmp .gt 9, 3)) (by decide) rfl rfl rfl, ?_⟩
  refine List.forall_mem_cons.mpr ⟨s_iload C (by decide +kernel : decode c_X9_dinners 22 = .ok (.iload 4, 2)) rfl rfl, ?_⟩
  refine List.forall_mem_cons.mpr ⟨s_iconst C (by decide +kernel : decode c_X9_dinners 24 = .ok (.iconst (-1), 1)) rfl rfl (by decide), ?_⟩
  refine List.forall_mem_cons.mpr ⟨s_icmpge C (by decide +kernel : decode c_X9_dinners 25 = .ok (.if_icmp .ge 10, 3)) (by decide) rfl rfl rfl, ?_⟩
  refine List.forall_mem_cons.mpr ⟨s_aload_n C (by decide +kernel : decode c_X9_dinners 28 = .ok (.aload_n 0, 1)) rfl rfl rfl, ?_⟩
  refine List.forall_mem_cons.mpr ⟨s_bipush C (by decide +kernel : decode c_X9_dinners 29 = .ok (.bipush (-10), 2)) rfl rfl (by decide), ?_⟩
  refine List.forall_mem_cons.mpr ⟨s_callV C hFok hF (ct_X9_refuse l D dA σ) ⟨rfl, rfl⟩ ew200 em_cl_X9 ew197 ew199 ewp1 ew1 ⟨by decide, by decide, by decide +kernel⟩ ⟨by decide, by decide⟩ (by decide +kernel : decode c_X9_dinners 31 = .ok (.invokevirtual 63, 3)) rfl rfl ⟨Nat.zero_le _, Nat.zero_le _⟩, ?_⟩
  refine List.forall_mem_cons.mpr ⟨s_iret C (by decide +kernel : decode c_X9_dinners 34 = .ok (.ireturn, 1)) hret hlk ⟨Nat.le_refl 0, Nat.le_refl 0⟩, ?_⟩
  refine List.forall_mem_cons.mpr ⟨s_iload C (by decide +kernel : decode c_X9_dinners 35 = .ok (.iload 4, 2)) rfl rfl, ?_⟩
  refine List.forall_mem_cons.mpr ⟨s_iconst C (by decide +kernel : decode c_X9_dinners 37 = .ok (.iconst (-1), 1)) rfl rfl (by decide), ?_⟩
  refine List.forall_mem_cons.mpr ⟨s_icmpne C (by decide +kernel : decode c_X9_dinners 38 = .ok (.if_icmp .ne 21, 3)) (by decide) rfl rfl rfl, ?_⟩
  refine List.forall_mem_cons.mpr ⟨s_aload_n C (by decide +kernel : decode c_X9_dinners 41 = .ok (.aload_n 0, 1)) rfl rfl rfl, ?_⟩
  refine List.forall_mem_cons.mpr ⟨s_getf C (by decide +kernel : decode c_X9_dinners 42 = .ok (.getfield 41, 3)) rfl rfl em_cl_X9 (by decide) ew157 rfl, ?_⟩
  refine List.forall_mem_cons.mpr ⟨s_aload_n C (by decide +kernel : decode c_X9_dinners 45 = .ok (.aload_n 0, 1)) rfl rfl rfl, ?_⟩
  refine List.forall_mem_cons.mpr ⟨s_getf C (by decide +kernel : decode c_X9_dinners 46 = .ok (.getfield 41, 3)) rfl rfl em_cl_X9 (by decide) ew157 rfl, ?_⟩
  refine List.forall_mem_cons.mpr ⟨s_getf C (by decide +kernel : decode c_X9_dinners 49 = .ok (.getfield 103, 3)) rfl rfl em_cl_X7 (by decide) ew94 rfl, ?_⟩
  refine List.forall_mem_cons.mpr ⟨s_iload_n C (by decide +kernel : decode c_X9_dinners 52 = .ok (.iload_n 1, 1)) rfl rfl rfl, ?_⟩
  refine List.forall_mem_cons.mpr ⟨s_iload_n C (by decide +kernel : decode c_X9_dinners 53 = .ok (.iload_n 2, 1)) rfl rfl rfl, ?_⟩
  refine List.forall_mem_cons.mpr ⟨s_iload_n C (by decide +kernel : decode c_X9_dinners 54 = .ok (.iload_n 3, 1)) rfl rfl rfl, ?_⟩
  refine List.forall_mem_cons.mpr ⟨s_callPSN C hFok hF (ct_X1_rows l D dA σ 4) ⟨rfl, rfl⟩ ew550 (em_F_nest (host := "WedApart") hF () (by decide +kernel)) ew549 ew17 ⟨by decide, by decide, by decide +kernel⟩ ⟨by decide, by decide⟩ (by decide +kernel : decode c_X9_dinners 55 = .ok (.invokestatic 197, 3)) rfl rfl ⟨Nat.zero_le _, Nat.zero_le _⟩ (by decide), ?_⟩
  refine List.forall_mem_cons.mpr ⟨s_iret C (by decide +kernel : decode c_X9_dinners 58 = .ok (.ireturn, 1)) hret hlk ⟨Nat.le_refl 0, Nat.le_refl 0⟩, ?_⟩
  refine List.forall_mem_cons.mpr ⟨s_aload_n C (by decide +kernel : decode c_X9_dinners 59 = .ok (.aload_n 0, 1)) rfl rfl rfl, ?_⟩
  refine List.forall_mem_cons.mpr ⟨s_getf C (by decide +kernel : decode c_X9_dinners 60 = .ok (.getfield 41, 3)) rfl rfl em_cl_X9 (by decide) ew157 rfl, ?_⟩
  refine List.forall_mem_cons.mpr ⟨s_iload_n C (by decide +kernel : decode c_X9_dinners 63 = .ok (.iload_n 1, 1)) rfl rfl rfl, ?_⟩
  refine List.forall_mem_cons.mpr ⟨s_iload_n C (by decide +kernel : decode c_X9_dinners 64 = .ok (.iload_n 2, 1)) rfl rfl rfl, ?_⟩
  refine List.forall_mem_cons.mpr ⟨s_iload_n C (by decide +kernel : decode c_X9_dinners 65 = .ok (.iload_n 3, 1)) rfl rfl rfl, ?_⟩
  refine List.forall_mem_cons.mpr ⟨s_iload C (by decide +kernel : decode c_X9_dinners 66 = .ok (.iload 4, 2)) rfl rfl, ?_⟩
  refine List.forall_mem_cons.mpr ⟨s_callPS C hFok hF (ct_X1_ofFirstRow l D dA σ) ⟨rfl, rfl⟩ ew566 ew564 ew565 ew17 ⟨by decide, by decide, by decide +kernel⟩ ⟨by decide, by decide⟩ (by decide +kernel : decode c_X9_dinners 68 = .ok (.invokestatic 203, 3)) rfl rfl ⟨Nat.zero_le _, Nat.zero_le _⟩ (by decide), ?_⟩
  refine List.forall_mem_cons.mpr ⟨s_iret C (by decide +kernel : decode c_X9_dinners 71 = .ok (.ireturn, 1)) hret hlk ⟨Nat.le_refl 0, Nat.le_refl 0⟩, ?_⟩
  exact fun _ h => absurd h List.not_mem_nil
def fgC (o : Option Nat) (k : Nat) : Bool := match o with
  | none => true
  | some b => decide (bcI (nI k) < bcI (nI b))
def lcB (we lea mst x y : Int32) : Bool := decide (¬ dst we x y < lea ∧ ¬ mst < dst we x y)
theorem lcB_to {we lea mst x y : Int32} (h : lcB we lea mst x y = true) : lic lea mst (dst we x y) := by
  unfold lcB at h
  have h9 := of_decide_eq_true h
  exact h9
def fgU (we lea mst x y : Int32) : Nat → Option Nat
  | 0 => none
  | k + 1 => if fgC (fgU we lea mst x y k) k = true ∧ lcB we lea mst (x ^^^ nI k) y = true then some k else fgU we lea mst x y k
theorem fgU_lt {we lea mst x y : Int32} : ∀ k d, fgU we lea mst x y k = some d → d < k
  | 0, d, h => by cases h
  | k + 1, d, h => by
    rw [fgU] at h
    split at h
    · cases h; omega
    · exact Nat.lt_succ_of_lt (fgU_lt k d h)
def sp_X9_feigned : em_Sp := fun av hp Q => ∃ by9 tln tst ten mm fa9 fb9 rf im pe ki mi se we lea mst pa fi sd ev un ma ea co ca clt Y a b, av = [.ref 0, .int a, .int b] ∧ hp = (wX by9 tln tst ten mm fa9 fb9 rf im pe ki mi se we lea mst pa fi sd ev un ma ea co ca clt Y) ∧ (¬ h2 pe a b → Q (some (.int (-2))) (wX by9 tln tst ten mm fa9 fb9 (rfu rf (-2)) im pe ki mi se we lea mst pa fi sd ev un ma ea co ca clt Y)) ∧ (h2 pe a b → Q (some (.int (oI (fgU we lea mst (mo mi a) (mo mi b) 1024)))) hp)
def T_X9_feigned : List (Nat × em_Op) := [(0, o_aload 0 1), (1, o_getf 4 5 4), (4, o_iload 1 5), (5, o_iload 2 6), (6, o_callP 3 (some 2) [8, 9, 10, 11, 12, 13, 14, 15] (sp_X7_hasTwo) 9), (9, o_ifne 19 12), (12, o_aload 0 13), (13, o_iconst (-2) 15), (15, o_call 2 (some 4) (sp_X9_refuse) 18), (18, o_iret), (19, o_aload 0 20), (20, o_getf 4 5 23), (23, o_getf 2 2 26), (26, o_iload 1 27), (27, o_call 2 none (sp_X5_of) 30), (30, o_istore 3 31), (31, o_aload 0 32), (32, o_getf 4 5 35), (35, o_getf 2 2 38), (38, o_iload 2 39), (39, o_call 2 none (sp_X5_of) 42), (42, o_istore 4 44), (44, o_iconst (-1) 45), (45, o_istore 5 47), (47, o_iconst 0 48), (48, o_istore 6 50), (50, o_iload 6 52), (52, o_iconst 1023 55), (55, o_icmpgt 122 58), (58, o_iload 5 60), (60, o_iconst (-1) 61), (61, o_icmpeq 77 64), (64, o_iload 6 66), (66, o_call 1 none (sp_J6_bitCount_0f7a4) 69), (69, o_iload 5 71), (71, o_call 1 none (sp_J6_bitCount_0f7a4) 74), (74, o_icmpge 81 77), (77, o_iconst 1 78), (78, o_goto 82), (81, o_iconst 0 82), (82, o_istore 7 84), (84, o_iload 7 86), (86, o_ifeq 116 89), (89, o_aload 0 90), (90, o_getf 4 5 93), (93, o_aload 0 94), (94, o_getf 4 5 97), (97, o_iload 3 98), (98, o_iload 6 100), (100, o_ixor 101), (101, o_iload 4 103), (103, o_callP 3 (some 2) [8, 9, 10, 11, 12, 13, 14, 15] (sp_X7_distance) 106), (106, o_callP 2 (some 2) [8, 9, 10, 11, 12, 13, 14, 15] (sp_X7_isLicensed) 109), (109, o_ifeq 116 112), (112, o_iload 6 114), (114, o_istore 5 116), (116, o_iinc 6 1 119), (119, o_goto 50), (122, o_iload 5 124), (124, o_iret)]
theorem me_X9_feigned : em_Me T_X9_feigned 8 sp_X9_feigned := by
  intro Q K hK hle av hp hs
  obtain ⟨by9, tln, tst, ten, mm, fa9, fb9, rf, im, pe, ki, mi, se, we, lea, mst, pa, fi, sd, ev, un, ma, ea, co, ca, clt, Y, a, b, rfl, rfl, hb, hq⟩ := hs
  refine ⟨Nat.le_of_ble_eq_true rfl, ?_⟩
  refine hK 0 26 0 _ _ _ ?_
  refine ⟨_, _, _, _, _, _, _, _, _, _, _, _, _, _, _, _, _, a, b, rfl, rfl, fun z => ?_, fun z => ?_⟩
  · refine ⟨fun _ => ?_, fun y => absurd y (by decide)⟩
    refine ⟨_, _, rfl, _, _, rfl, ?_⟩
    have hq := hq z
    generalize mo mi a = x at hq ⊢
    generalize mo mi b = y at hq ⊢
    have loop : ∀ (r i : Nat), i + r = 1024 → K 50 [some (.ref 0), some (.int a), some (.int b), some (.int x), some (.int y), some (.int (oI (fgU we lea mst x y i))), some (.int (nI i)), none] [] (wX by9 tln tst ten mm fa9 fb9 rf im pe ki mi se we lea mst pa fi sd ev un ma ea co ca clt Y) := by
      intro r
      induction r with
      | zero =>
        intro i hi
        have hi : i = 1024 := by omega
        subst hi
        refine hK 26 9999 50 _ _ _ ?_
        exact ⟨fun _ => hq, fun w => absurd (nI_lt (a := 1023) (b := 1024) (by omega) (by omega)) w⟩
      | succ r ih =>
        intro i hi
        have next : ∀ v w, v = oI (fgU we lea mst x y (i + 1)) → K 116 [some (.ref 0), some (.int a), some (.int b), some (.int x), some (.int y), some (.int v), some (.int (nI i)), w] [] (wX by9 tln tst ten mm fa9 fb9 rf im pe ki mi se we lea mst pa fi sd ev un ma ea co ca clt Y) := by
          intro v w hv
          subst hv
          have := ih (i + 1) (by omega)
          rw [← nI_1] at this
          exact hK 56 2 116 _ _ _ (hle _ _ _ _ _ (by repeat (first | exact trivial | refine ⟨rfl, ?_⟩)) this)
        have test : fgC (fgU we lea mst x y i) i = true → K 82 [some (.ref 0), some (.int a), some (.int b), some (.int x), some (.int y), some (.int (oI (fgU we lea mst x y i))), some (.int (nI i)), none] [.int 1] (wX by9 tln tst ten mm fa9 fb9 rf im pe ki mi se we lea mst pa fi sd ev un ma ea co ca clt Y) := by
          intro h1
          refine hK 40 16 82 _ _ _ ?_
          refine ⟨fun w => absurd w (by decide), fun _ => ?_⟩
          refine ⟨_, _, _, _, _, _, _, _, _, _, _, _, _, _, _, _, _, _, _, rfl, rfl, _, _, _, _, _, _, _, _, _, _, _, _, _, _, _, _, _, _, rfl, rfl, fun w => ?_, fun w => ?_⟩
          · refine ⟨fun w => absurd w (by decide), fun _ => ?_⟩
            exact next _ _ (by rw [fgU, if_pos ⟨h1, decide_eq_true w⟩]; rfl)
          · refine ⟨fun _ => ?_, fun w => absurd w (by decide)⟩
            exact next _ _ (by rw [fgU, if_neg (fun q => w (lcB_to q.2))])
        have no : ¬ fgC (fgU we lea mst x y i) i = true → K 82 [some (.ref 0), some (.int a), some (.int b), some (.int x), some (.int y), some (.int (oI (fgU we lea mst x y i))), some (.int (nI i)), none] [.int 0] (wX by9 tln tst ten mm fa9 fb9 rf im pe ki mi se we lea mst pa fi sd ev un ma ea co ca clt Y) := by
          intro h1
          refine hK 40 16 82 _ _ _ ?_
          refine ⟨fun _ => ?_, fun w => absurd rfl w⟩
          exact next _ _ (by rw [fgU, if_neg (fun q => h1 q.1)])
        refine hK 26 14 50 _ _ _ ?_
        refine ⟨fun w => absurd w (nI_nlt (a := 1023) (b := i) (by omega) (by omega)), fun _ => ?_⟩
        cases hf : fgU we lea mst x y i with
        | none =>
          rw [hf] at test
          exact ⟨fun _ => hle _ _ _ _ _ (by repeat (first | exact trivial | refine ⟨rfl, ?_⟩)) (test rfl), fun w => absurd rfl w⟩
        | some d =>
          have hd := fgU_lt i d hf
          rw [hf] at test no
          refine ⟨fun w => absurd w (nI_m1 (by omega)), fun _ => ⟨_, rfl, _, rfl, fun w => ?_, fun w => ?_⟩⟩
          · exact hle _ _ _ _ _ (by repeat (first | exact trivial | refine ⟨rfl, ?_⟩)) (no (fun q => by
              have q := of_decide_eq_true q
              exact absurd w (Int32.not_le.mpr q)))
          · exact hle _ _ _ _ _ (by repeat (first | exact trivial | refine ⟨rfl, ?_⟩)) (test (decide_eq_true (Int32.not_le.mp w)))
    exact hle _ _ _ _ _ (by repeat (first | exact trivial | refine ⟨rfl, ?_⟩)) (loop 1024 0 rfl)
  · refine ⟨fun y => absurd rfl y, fun _ => ?_⟩
    exact ⟨_, _, _, _, _, _, _, _, _, _, _, _, _, _, _, _, _, _, _, _, _, _, _, _, _, _, _, _, rfl, rfl, hb z⟩
abbrev rm_X9_feigned : Room := { frames := 2, cells := 0, slots := 0, locals := 43 }
set_option maxRecDepth 100000 in
set_option maxHeartbeats 4000000 in
theorem ct_X9_feigned (l : Launch) (D : va_G) (dA : Nat → ClassId) (σ : Nat → Nat) : em_CT l D em_cl dA σ (em_F σ) y_X9_feigned c_X9_feigned 8 (Option.some ClassFile.FieldType.int) rm_X9_feigned (sp_X9_feigned ) := by
  refine em_CT_of (T := T_X9_feigned ) (em_F_ok σ) (by decide) (fun p e s m args below meth c A ρ Q C hFok hF hret hlk hin => ?_) (me_X9_feigned )
  unfold T_X9_feigned
  refine List.forall_mem_cons.mpr ⟨s_aload_n C (by decide +kernel : decode c_X9_feigned 0 = .ok (.aload_n 0, 1)) rfl rfl rfl, ?_⟩
  refine List.forall_mem_cons.mpr ⟨s_getf C (by decide +kernel : decode c_X9_feigned 1 = .ok (.getfield 41, 3)) rfl rfl em_cl_X9 (by decide) ew157 rfl, ?_⟩
  refine List.forall_mem_cons.mpr ⟨s_iload_n C (by decide +kernel : decode c_X9_feigned 4 = .ok (.iload_n 1, 1)) rfl rfl rfl, ?_⟩
  refine List.forall_mem_cons.mpr ⟨s_iload_n C (by decide +kernel : decode c_X9_feigned 5 = .ok (.iload_n 2, 1)) rfl rfl rfl, ?_⟩
  refine List.forall_mem_cons.mpr ⟨s_callPV C hFok hF (ct_X7_hasTwo l D dA σ) ⟨rfl, rfl⟩ ew254 em_cl_X7 ew382 ew252 ew253 ew5 ⟨by decide, by decide, by decide +kernel⟩ ⟨by decide, by decide⟩ (by decide +kernel : decode c_X9_feigned 6 = .ok (.invokevirtual 113, 3)) rfl rfl ⟨Nat.zero_le _, Nat.zero_le _⟩ (by decide), ?_⟩
  refine List.forall_mem_cons.mpr ⟨s_ifne C (by decide +kernel : decode c_X9_feigned 9 = .ok (.ifCond .ne 10, 3)) (by decide) rfl rfl rfl, ?_⟩
  refine List.forall_mem_cons.mpr ⟨s_aload_n C (by decide +kernel : decode c_X9_feigned 12 = .ok (.aload_n 0, 1)) rfl rfl rfl, ?_⟩
  refine List.forall_mem_cons.mpr ⟨s_bipush C (by decide +kernel : decode c_X9_feigned 13 = .ok (.bipush (-2), 2)) rfl rfl (by decide), ?_⟩
  refine List.forall_mem_cons.mpr ⟨s_callV C hFok hF (ct_X9_refuse l D dA σ) ⟨rfl, rfl⟩ ew200 em_cl_X9 ew197 ew199 ewp1 ew1 ⟨by decide, by decide, by decide +kernel⟩ ⟨by decide, by decide⟩ (by decide +kernel : decode c_X9_feigned 15 = .ok (.invokevirtual 63, 3)) rfl rfl ⟨Nat.zero_le _, Nat.zero_le _⟩, ?_⟩
  refine List.forall_mem_cons.mpr ⟨s_iret C (by decide +kernel : decode c_X9_feigned 18 = .ok (.ireturn, 1)) hret hlk ⟨Nat.le_refl 0, Nat.le_refl 0⟩, ?_⟩
  refine List.forall_mem_cons.mpr ⟨s_aload_n C (by decide +kernel : decode c_X9_feigned 19 = .ok (.aload_n 0, 1)) rfl rfl rfl, ?_⟩
  refine List.forall_mem_cons.mpr ⟨s_getf C (by decide +kernel : decode c_X9_feigned 20 = .ok (.getfield 41, 3)) rfl rfl em_cl_X9 (by decide) ew157 rfl, ?_⟩
  refine List.forall_mem_cons.mpr ⟨s_getf C (by decide +kernel : decode c_X9_feigned 23 = .ok (.getfield 103, 3)) rfl rfl em_cl_X7 (by decide) ew94 rfl, ?_⟩
  refine List.forall_mem_cons.mpr ⟨s_iload_n C (by decide +kernel : decode c_X9_feigned 26 = .ok (.iload_n 1, 1)) rfl rfl rfl, ?_⟩
  refine List.forall_mem_cons.mpr ⟨s_callS C hFok hF (ct_X5_of l D dA σ) ⟨rfl, rfl⟩ ew216 ew377 ew215 ew8 ⟨by decide, by decide, by decide +kernel⟩ ⟨by decide, by decide⟩ (by decide +kernel : decode c_X9_feigned 27 = .ok (.invokestatic 107, 3)) rfl rfl ⟨Nat.zero_le _, Nat.zero_le _⟩, ?_⟩
  refine List.forall_mem_cons.mpr ⟨s_istore_n C (by decide +kernel : decode c_X9_feigned 30 = .ok (.istore_n 3, 1)) rfl rfl rfl (by decide), ?_⟩
  refine List.forall_mem_cons.mpr ⟨s_aload_n C (by decide +kernel : decode c_X9_feigned 31 = .ok (.aload_n 0, 1)) rfl rfl rfl, ?_⟩
  refine List.forall_mem_cons.mpr ⟨s_getf C (by decide +kernel : decode c_X9_feigned 32 = .ok (.getfield 41, 3)) rfl rfl em_cl_X9 (by decide) ew157 rfl, ?_⟩
  refine List.forall_mem_cons.mpr ⟨s_getf C (by decide +kernel : decode c_X9_feigned 35 = .ok (.getfield 103, 3)) rfl rfl em_cl_X7 (by decide) ew94 rfl, ?_⟩
  refine List.forall_mem_cons.mpr ⟨s_iload_n C (by decide +kernel : decode c_X9_feigned 38 = .ok (.iload_n 2, 1)) rfl rfl rfl, ?_⟩
  refine List.forall_mem_cons.mpr ⟨s_callS C hFok hF (ct_X5_of l D dA σ) ⟨rfl, rfl⟩ ew216 ew377 ew215 ew8 ⟨by decide, by decide, by decide +kernel⟩ ⟨by decide, by decide⟩ (by decide +kernel : decode c_X9_feigned 39 = .ok (.invokestatic 107, 3)) rfl rfl ⟨Nat.zero_le _, Nat.zero_le _⟩, ?_⟩
  refine List.forall_mem_cons.mpr ⟨s_istore C (by decide +kernel : decode c_X9_feigned 42 = .ok (.istore 4, 2)) rfl rfl (by decide), ?_⟩
  refine List.forall_mem_cons.mpr ⟨s_iconst C (by decide +kernel : decode c_X9_feigned 44 = .ok (.iconst (-1), 1)) rfl rfl (by decide), ?_⟩
  refine List.forall_mem_cons.mpr ⟨s_istore C (by decide +kernel : decode c_X9_feigned 45 = .ok (.istore 5, 2)) rfl rfl (by decide), ?_⟩
  refine List.forall_mem_cons.mpr ⟨s_iconst C (by decide +kernel : decode c_X9_feigned 47 = .ok (.iconst 0, 1)) rfl rfl (by decide), ?_⟩
  refine List.forall_mem_cons.mpr ⟨s_istore C (by decide +kernel : decode c_X9_feigned 48 = .ok (.istore 6, 2)) rfl rfl (by decide), ?_⟩
  refine List.forall_mem_cons.mpr ⟨s_iload C (by decide +kernel : decode c_X9_feigned 50 = .ok (.iload 6, 2)) rfl rfl, ?_⟩
  refine List.forall_mem_cons.mpr ⟨s_sipush C (by decide +kernel : decode c_X9_feigned 52 = .ok (.sipush 1023, 3)) rfl rfl (by decide), ?_⟩
  refine List.forall_mem_cons.mpr ⟨s_icmpgt C (by decide +kernel : decode c_X9_feigned 55 = .ok (.if_icmp .gt 67, 3)) (by decide) rfl rfl rfl, ?_⟩
  refine List.forall_mem_cons.mpr ⟨s_iload C (by decide +kernel : decode c_X9_feigned 58 = .ok (.iload 5, 2)) rfl rfl, ?_⟩
  refine List.forall_mem_cons.mpr ⟨s_iconst C (by decide +kernel : decode c_X9_feigned 60 = .ok (.iconst (-1), 1)) rfl rfl (by decide), ?_⟩
  refine List.forall_mem_cons.mpr ⟨s_icmpeq C (by decide +kernel : decode c_X9_feigned 61 = .ok (.if_icmp .eq 16, 3)) (by decide) rfl rfl rfl, ?_⟩
  refine List.forall_mem_cons.mpr ⟨s_iload C (by decide +kernel : decode c_X9_feigned 64 = .ok (.iload 6, 2)) rfl rfl, ?_⟩
  refine List.forall_mem_cons.mpr ⟨s_callS C hFok hF (ct_J6_bitCount_0f7a4 l D dA σ) ⟨rfl, rfl⟩ ew393 ew414 ew392 ew13 ⟨by decide, by decide, by decide +kernel⟩ ⟨by decide, by decide⟩ (by decide +kernel : decode c_X9_feigned 66 = .ok (.invokestatic 127, 3)) rfl rfl ⟨Nat.zero_le _, Nat.zero_le _⟩, ?_⟩
  refine List.forall_mem_cons.mpr ⟨s_iload C (by decide +kernel : decode c_X9_feigned 69 = .ok (.iload 5, 2)) rfl rfl, ?_⟩
  refine List.forall_mem_cons.mpr ⟨s_callS C hFok hF (ct_J6_bitCount_0f7a4 l D dA σ) ⟨rfl, rfl⟩ ew393 ew414 ew392 ew13 ⟨by decide, by decide, by decide +kernel⟩ ⟨by decide, by decide⟩ (by decide +kernel : decode c_X9_feigned 71 = .ok (.invokestatic 127, 3)) rfl rfl ⟨Nat.zero_le _, Nat.zero_le _⟩, ?_⟩
  refine List.forall_mem_cons.mpr ⟨s_icmpge C (by decide +kernel : decode c_X9_feigned 74 = .ok (.if_icmp .ge 7, 3)) (by decide) rfl rfl rfl, ?_⟩
  refine List.forall_mem_cons.mpr ⟨s_iconst C (by decide +kernel : decode c_X9_feigned 77 = .ok (.iconst 1, 1)) rfl rfl (by decide), ?_⟩
  refine List.forall_mem_cons.mpr ⟨s_goto C (by decide +kernel : decode c_X9_feigned 78 = .ok (.goto 4, 3)) (by decide) rfl, ?_⟩
  refine List.forall_mem_cons.mpr ⟨s_iconst C (by decide +kernel : decode c_X9_feigned 81 = .ok (.iconst 0, 1)) rfl rfl (by decide), ?_⟩
  refine List.forall_mem_cons.mpr ⟨s_istore C (by decide +kernel : decode c_X9_feigned 82 = .ok (.istore 7, 2)) rfl rfl (by decide), ?_⟩
  refine List.forall_mem_cons.mpr ⟨s_iload C (by decide +kernel : decode c_X9_feigned 84 = .ok (.iload 7, 2)) rfl rfl, ?_⟩
  refine List.forall_mem_cons.mpr ⟨s_ifeq C (by decide +kernel : decode c_X9_feigned 86 = .ok (.ifCond .eq 30, 3)) (by decide) rfl rfl rfl, ?_⟩
  refine List.forall_mem_cons.mpr ⟨s_aload_n C (by decide +kernel : decode c_X9_feigned 89 = .ok (.aload_n 0, 1)) rfl rfl rfl, ?_⟩
  refine List.forall_mem_cons.mpr ⟨s_getf C (by decide +kernel : decode c_X9_feigned 90 = .ok (.getfield 41, 3)) rfl rfl em_cl_X9 (by decide) ew157 rfl, ?_⟩
  refine List.forall_mem_cons.mpr ⟨s_aload_n C (by decide +kernel : decode c_X9_feigned 93 = .ok (.aload_n 0, 1)) rfl rfl rfl, ?_⟩
  refine List.forall_mem_cons.mpr ⟨s_getf C (by decide +kernel : decode c_X9_feigned 94 = .ok (.getfield 41, 3)) rfl rfl em_cl_X9 (by decide) ew157 rfl, ?_⟩
  refine List.forall_mem_cons.mpr ⟨s_iload_n C (by decide +kernel : decode c_X9_feigned 97 = .ok (.iload_n 3, 1)) rfl rfl rfl, ?_⟩
  refine List.forall_mem_cons.mpr ⟨s_iload C (by decide +kernel : decode c_X9_feigned 98 = .ok (.iload 6, 2)) rfl rfl, ?_⟩
  refine List.forall_mem_cons.mpr ⟨s_ixor C (by decide +kernel : decode c_X9_feigned 100 = .ok (.ixor, 1)) rfl rfl, ?_⟩
  refine List.forall_mem_cons.mpr ⟨s_iload C (by decide +kernel : decode c_X9_feigned 101 = .ok (.iload 4, 2)) rfl rfl, ?_⟩
  refine List.forall_mem_cons.mpr ⟨s_callPV C hFok hF (ct_X7_distance l D dA σ) ⟨rfl, rfl⟩ ew390 em_cl_X7 ew387 ew388 ew389 ew5 ⟨by decide, by decide, by decide +kernel⟩ ⟨by decide, by decide⟩ (by decide +kernel : decode c_X9_feigned 103 = .ok (.invokevirtual 117, 3)) rfl rfl ⟨Nat.zero_le _, Nat.zero_le _⟩ (by decide), ?_⟩
  refine List.forall_mem_cons.mpr ⟨s_callPV C hFok hF (ct_X7_isLicensed l D dA σ) ⟨rfl, rfl⟩ ew409 em_cl_X7 ew574 ew407 ew408 ew5 ⟨by decide, by decide, by decide +kernel⟩ ⟨by decide, by decide⟩ (by decide +kernel : decode c_X9_feigned 106 = .ok (.invokevirtual 207, 3)) rfl rfl ⟨Nat.zero_le _, Nat.zero_le _⟩ (by decide), ?_⟩
  refine List.forall_mem_cons.mpr ⟨s_ifeq C (by decide +kernel : decode c_X9_feigned 109 = .ok (.ifCond .eq 7, 3)) (by decide) rfl rfl rfl, ?_⟩
  refine List.forall_mem_cons.mpr ⟨s_iload C (by decide +kernel : decode c_X9_feigned 112 = .ok (.iload 6, 2)) rfl rfl, ?_⟩
  refine List.forall_mem_cons.mpr ⟨s_istore C (by decide +kernel : decode c_X9_feigned 114 = .ok (.istore 5, 2)) rfl rfl (by decide), ?_⟩
  refine List.forall_mem_cons.mpr ⟨s_iinc C (by decide +kernel : decode c_X9_feigned 116 = .ok (.iinc 6 1, 3)) rfl rfl (by decide) (by decide), ?_⟩
  refine List.forall_mem_cons.mpr ⟨s_goto C (by decide +kernel : decode c_X9_feigned 119 = .ok (.goto (-69), 3)) (by decide) rfl, ?_⟩
  refine List.forall_mem_cons.mpr ⟨s_iload C (by decide +kernel : decode c_X9_feigned 122 = .ok (.iload 5, 2)) rfl rfl, ?_⟩
  refine List.forall_mem_cons.mpr ⟨s_iret C (by decide +kernel : decode c_X9_feigned 124 = .ok (.ireturn, 1)) hret hlk ⟨Nat.le_refl 0, Nat.le_refl 0⟩, ?_⟩
  exact fun _ h => absurd h List.not_mem_nil
def sp_X9_seen : em_Sp := fun av hp Q => ∃ by9 tln tst ten mm fa9 fb9 rf im pe ki mi se we lea mst pa fi sd ev un ma ea co ca clt Y p o, av = [.ref 0, .int p, .int o] ∧ hp = (wX by9 tln tst ten mm fa9 fb9 rf im pe ki mi se we lea mst pa fi sd ev un ma ea co ca clt Y) ∧ (¬ (hs pe p ∧ iss o) → Q (some (.int (-2))) (wX by9 tln tst ten mm fa9 fb9 (rfu rf (-2)) im pe ki mi se we lea mst pa fi sd ev un ma ea co ca clt Y)) ∧ (hs pe p → iss o → Q (some (.int (mo se p))) (wX by9 tln tst ten mm fa9 fb9 rf im pe ki mi (mw se p o) we lea mst pa fi sd ev un ma ea co ca clt Y))
def T_X9_seen : List (Nat × em_Op) := [(0, o_aload 0 1), (1, o_getf 4 5 4), (4, o_iload 1 5), (5, o_callP 2 (some 2) [8, 9, 10, 11, 12, 13, 14, 15] (sp_X7_has) 8), (8, o_ifeq 18 11), (11, o_iload 2 12), (12, o_call 1 none (sp_X9_isSet) 15), (15, o_ifne 25 18), (18, o_aload 0 19), (19, o_iconst (-2) 21), (21, o_call 2 (some 4) (sp_X9_refuse) 24), (24, o_iret), (25, o_aload 0 26), (26, o_getf 4 5 29), (29, o_getf 2 3 32), (32, o_iload 1 33), (33, o_call 2 none (sp_X5_of) 36), (36, o_istore 3 37), (37, o_aload 0 38), (38, o_getf 4 5 41), (41, o_aload 0 42), (42, o_getf 4 5 45), (45, o_getf 2 3 48), (48, o_iload 1 49), (49, o_iload 2 50), (50, o_call 3 none (sp_X5_with) 53), (53, o_putL 2 3 56), (56, o_iload 3 57), (57, o_iret)]
theorem me_X9_seen : em_Me T_X9_seen 4 sp_X9_seen := by
  intro Q K hK hle av hp hs
  obtain ⟨by9, tln, tst, ten, mm, fa9, fb9, rf, im, pe, ki, mi, se, we, lea, mst, pa, fi, sd, ev, un, ma, ea, co, ca, clt, Y, p, o, rfl, rfl, hb, hq⟩ := hs
  refine ⟨Nat.le_of_ble_eq_true rfl, hK 0 9999 0 _ _ _ ?_⟩
  refine ⟨_, _, _, _, _, _, _, _, _, _, _, _, _, _, _, _, _, p, rfl, rfl, fun z => ?_, fun z => ?_⟩
  · refine ⟨fun y => absurd y (by decide), fun _ => ?_⟩
    refine ⟨_, rfl, fun z2 => ?_, fun z2 => ?_⟩
    · refine ⟨fun _ => ?_, fun y => absurd y (by decide)⟩
      exact ⟨_, _, rfl, _, _, _, rfl, hq z z2⟩
    · refine ⟨fun y => absurd rfl y, fun _ => ?_⟩
      exact ⟨_, _, _, _, _, _, _, _, _, _, _, _, _, _, _, _, _, _, _, _, _, _, _, _, _, _, _, _, rfl, rfl, hb (fun y => z2 y.2)⟩
  · refine ⟨fun _ => ?_, fun y => absurd y (by decide)⟩
    exact ⟨_, _, _, _, _, _, _, _, _, _, _, _, _, _, _, _, _, _, _, _, _, _, _, _, _, _, _, _, rfl, rfl, hb (fun y => z y.1)⟩
abbrev rm_X9_seen : Room := { frames := 1, cells := 0, slots := 0, locals := 24 }
set_option maxRecDepth 100000 in
set_option maxHeartbeats 4000000 in
theorem ct_X9_seen (l : Launch) (D : va_G) (dA : Nat → ClassId) (σ : Nat → Nat) : em_CT l D em_cl dA σ (em_F σ) y_X9_seen c_X9_seen 4 (Option.some ClassFile.FieldType.int) rm_X9_seen (sp_X9_seen ) := by
  refine em_CT_of (T := T_X9_seen ) (em_F_ok σ) (by decide) (fun p e s m args below meth c A ρ Q C hFok hF hret hlk hin => ?_) (me_X9_seen )
  unfold T_X9_seen
  refine List.forall_mem_cons.mpr ⟨s_aload_n C (by decide +kernel : decode c_X9_seen 0 = .ok (.aload_n 0, 1)) rfl rfl rfl, ?_⟩
  refine List.forall_mem_cons.mpr ⟨s_getf C (by decide +kernel : decode c_X9_seen 1 = .ok (.getfield 41, 3)) rfl rfl em_cl_X9 (by decide) ew157 rfl, ?_⟩
  refine List.forall_mem_cons.mpr ⟨s_iload_n C (by decide +kernel : decode c_X9_seen 4 = .ok (.iload_n 1, 1)) rfl rfl rfl, ?_⟩
  refine List.forall_mem_cons.mpr ⟨s_callPV C hFok hF (ct_X7_has l D dA σ) ⟨rfl, rfl⟩ ew208 em_cl_X7 ew205 ew206 ew207 ew5 ⟨by decide, by decide, by decide +kernel⟩ ⟨by decide, by decide⟩ (by decide +kernel : decode c_X9_seen 5 = .ok (.invokevirtual 56, 3)) rfl rfl ⟨Nat.zero_le _, Nat.zero_le _⟩ (by decide), ?_⟩
  refine List.forall_mem_cons.mpr ⟨s_ifeq C (by decide +kernel : decode c_X9_seen 8 = .ok (.ifCond .eq 10, 3)) (by decide) rfl rfl rfl, ?_⟩
  refine List.forall_mem_cons.mpr ⟨s_iload_n C (by decide +kernel : decode c_X9_seen 11 = .ok (.iload_n 2, 1)) rfl rfl rfl, ?_⟩
  refine List.forall_mem_cons.mpr ⟨s_callS C hFok hF (ct_X9_isSet l D dA σ) ⟨rfl, rfl⟩ ew187 ew209 ew186 ew1 ⟨by decide, by decide, by decide +kernel⟩ ⟨by decide, by decide⟩ (by decide +kernel : decode c_X9_seen 12 = .ok (.invokestatic 60, 3)) rfl rfl ⟨Nat.zero_le _, Nat.zero_le _⟩, ?_⟩
  refine List.forall_mem_cons.mpr ⟨s_ifne C (by decide +kernel : decode c_X9_seen 15 = .ok (.ifCond .ne 10, 3)) (by decide) rfl rfl rfl, ?_⟩
  refine List.forall_mem_cons.mpr ⟨s_aload_n C (by decide +kernel : decode c_X9_seen 18 = .ok (.aload_n 0, 1)) rfl rfl rfl, ?_⟩
  refine List.forall_mem_cons.mpr ⟨s_bipush C (by decide +kernel : decode c_X9_seen 19 = .ok (.bipush (-2), 2)) rfl rfl (by decide), ?_⟩
  refine List.forall_mem_cons.mpr ⟨s_callV C hFok hF (ct_X9_refuse l D dA σ) ⟨rfl, rfl⟩ ew200 em_cl_X9 ew197 ew199 ewp1 ew1 ⟨by decide, by decide, by decide +kernel⟩ ⟨by decide, by decide⟩ (by decide +kernel : decode c_X9_seen 21 = .ok (.invokevirtual 63, 3)) rfl rfl ⟨Nat.zero_le _, Nat.zero_le _⟩, ?_⟩
  refine List.forall_mem_cons.mpr ⟨s_iret C (by decide +kernel : decode c_X9_seen 24 = .ok (.ireturn, 1)) hret hlk ⟨Nat.le_refl 0, Nat.le_refl 0⟩, ?_⟩
  refine List.forall_mem_cons.mpr ⟨s_aload_n C (by decide +kernel : decode c_X9_seen 25 = .ok (.aload_n 0, 1)) rfl rfl rfl, ?_⟩
  refine List.forall_mem_cons.mpr ⟨s_getf C (by decide +kernel : decode c_X9_seen 26 = .ok (.getfield 41, 3)) rfl rfl em_cl_X9 (by decide) ew157 rfl, ?_⟩
  refine List.forall_mem_cons.mpr ⟨s_getf C (by decide +kernel : decode c_X9_seen 29 = .ok (.getfield 210, 3)) rfl rfl em_cl_X7 (by decide) ew96 rfl, ?_⟩
  refine List.forall_mem_cons.mpr ⟨s_iload_n C (by decide +kernel : decode c_X9_seen 32 = .ok (.iload_n 1, 1)) rfl rfl rfl, ?_⟩
  refine List.forall_mem_cons.mpr ⟨s_callS C hFok hF (ct_X5_of l D dA σ) ⟨rfl, rfl⟩ ew216 ew377 ew215 ew8 ⟨by decide, by decide, by decide +kernel⟩ ⟨by decide, by decide⟩ (by decide +kernel : decode c_X9_seen 33 = .ok (.invokestatic 107, 3)) rfl rfl ⟨Nat.zero_le _, Nat.zero_le _⟩, ?_⟩
  refine List.forall_mem_cons.mpr ⟨s_istore_n C (by decide +kernel : decode c_X9_seen 36 = .ok (.istore_n 3, 1)) rfl rfl rfl (by decide), ?_⟩
  refine List.forall_mem_cons.mpr ⟨s_aload_n C (by decide +kernel : decode c_X9_seen 37 = .ok (.aload_n 0, 1)) rfl rfl rfl, ?_⟩
  refine List.forall_mem_cons.mpr ⟨s_getf C (by decide +kernel : decode c_X9_seen 38 = .ok (.getfield 41, 3)) rfl rfl em_cl_X9 (by decide) ew157 rfl, ?_⟩
  refine List.forall_mem_cons.mpr ⟨s_aload_n C (by decide +kernel : decode c_X9_seen 41 = .ok (.aload_n 0, 1)) rfl rfl rfl, ?_⟩
  refine List.forall_mem_cons.mpr ⟨s_getf C (by decide +kernel : decode c_X9_seen 42 = .ok (.getfield 41, 3)) rfl rfl em_cl_X9 (by decide) ew157 rfl, ?_⟩
  refine List.forall_mem_cons.mpr ⟨s_getf C (by decide +kernel : decode c_X9_seen 45 = .ok (.getfield 210, 3)) rfl rfl em_cl_X7 (by decide) ew96 rfl, ?_⟩
  refine List.forall_mem_cons.mpr ⟨s_iload_n C (by decide +kernel : decode c_X9_seen 48 = .ok (.iload_n 1, 1)) rfl rfl rfl, ?_⟩
  refine List.forall_mem_cons.mpr ⟨s_iload_n C (by decide +kernel : decode c_X9_seen 49 = .ok (.iload_n 2, 1)) rfl rfl rfl, ?_⟩
  refine List.forall_mem_cons.mpr ⟨s_callS C hFok hF (ct_X5_with l D dA σ) ⟨rfl, rfl⟩ ew190 ew579 ew189 ew8 ⟨by decide, by decide, by decide +kernel⟩ ⟨by decide, by decide⟩ (by decide +kernel : decode c_X9_seen 50 = .ok (.invokestatic 213, 3)) rfl rfl ⟨Nat.zero_le _, Nat.zero_le _⟩, ?_⟩
  refine List.forall_mem_cons.mpr ⟨s_putL C (by decide +kernel : decode c_X9_seen 53 = .ok (.putfield 210, 3)) rfl rfl em_cl_X7 (by decide) ew96 rfl (by decide) (by decide +kernel), ?_⟩
  refine List.forall_mem_cons.mpr ⟨s_iload_n C (by decide +kernel : decode c_X9_seen 56 = .ok (.iload_n 3, 1)) rfl rfl rfl, ?_⟩
  refine List.forall_mem_cons.mpr ⟨s_iret C (by decide +kernel : decode c_X9_seen 57 = .ok (.ireturn, 1)) hret hlk ⟨Nat.le_refl 0, Nat.le_refl 0⟩, ?_⟩
  exact fun _ h => absurd h List.not_mem_nil
/-- pairs counted, and the first -/
def swI (P : Nat → Nat → Bool) (a : Nat) (s : Nat × Option Nat) : Nat → Nat × Option Nat
  | 0 => s
  | k + 1 => if P a (a + 1 + k) = true then ((swI P a s k).1 + 1, if (swI P a s k).1 = 0 then some (10 * a + (a + 1 + k)) else (swI P a s k).2) else swI P a s k
def swO (P : Nat → Nat → Bool) (n : Nat) : Nat → Nat × Option Nat
  | 0 => (0, none)
  | a + 1 => swI P a (swO P n a) (n - (a + 1))
theorem swI_le {P : Nat → Nat → Bool} {a : Nat} {s : Nat × Option Nat} : ∀ k, (swI P a s k).1 ≤ s.1 + k
  | 0 => Nat.le_refl _
  | k + 1 => by
    have := swI_le (P := P) (a := a) (s := s) k
    rw [swI]
    split
    · show (swI P a s k).1 + 1 ≤ _; omega
    · omega
theorem swO_le {P : Nat → Nat → Bool} {n : Nat} : ∀ a, (swO P n a).1 ≤ a * n
  | 0 => by rw [swO]; omega
  | a + 1 => by
    have h1 := swO_le (P := P) (n := n) a
    have h2 := swI_le (P := P) (a := a) (s := swO P n a) (n - (a + 1))
    rw [swO, Nat.add_mul]
    omega
def swP (n : Nat) (ki : Nat → Int32) (we : Int32) (mi se : Int64) (a b : Nat) : Bool := decide (btN n ki we mi a b = se)
def sp_X9_swayed : em_Sp := fun av hp Q => ∃ by9 tln tst ten mm fa9 fb9 rf im pe ki mi se we lea mst pa fi sd ev un ma ea co ca clt Y k n, av = [.ref 0, .int k] ∧ hp = (wX by9 tln tst ten mm fa9 fb9 rf im pe ki mi se we lea mst pa fi sd ev un ma ea co ca clt Y) ∧ pe = nI n ∧ n ≤ 6 ∧ (¬ k = 0 → ¬ k = 1 → Q (some (.int (-10))) (wX by9 tln tst ten mm fa9 fb9 (rfu rf (-10)) im pe ki mi se we lea mst pa fi sd ev un ma ea co ca clt Y)) ∧ (k = 0 → Q (some (.int (nI (swO (swP n ki we mi se) n n).1))) hp) ∧ (k = 1 → Q (some (.int (oI (swO (swP n ki we mi se) n n).2))) hp)
def T_X9_swayed : List (Nat × em_Op) := [(0, o_iload 1 1), (1, o_ifeq 16 4), (4, o_iload 1 5), (5, o_iconst 1 6), (6, o_icmpeq 16 9), (9, o_aload 0 10), (10, o_iconst (-10) 12), (12, o_call 2 (some 4) (sp_X9_refuse) 15), (15, o_iret), (16, o_iconst 0 17), (17, o_istore 2 18), (18, o_iconst (-1) 19), (19, o_istore 3 20), (20, o_iconst 0 21), (21, o_istore 4 23), (23, o_iload 4 25), (25, o_aload 0 26), (26, o_getf 4 5 29), (29, o_getf 2 0 32), (32, o_icmpge 110 35), (35, o_iload 4 37), (37, o_iconst 1 38), (38, o_iadd 39), (39, o_istore 5 41), (41, o_iload 5 43), (43, o_aload 0 44), (44, o_getf 4 5 47), (47, o_getf 2 0 50), (50, o_icmpge 104 53), (53, o_aload 0 54), (54, o_getf 4 5 57), (57, o_aload 0 58), (58, o_getf 4 5 61), (61, o_getf 2 2 64), (64, o_iload 4 66), (66, o_iload 5 68), (68, o_callP 4 (some 2) [8, 9, 10, 11, 12, 13, 14, 15] (sp_X7_behindTalk2) 71), (71, o_aload 0 72), (72, o_getf 4 5 75), (75, o_getf 2 3 78), (78, o_lcmp 79), (79, o_ifne 98 82), (82, o_iload 2 83), (83, o_ifne 95 86), (86, o_iconst 10 88), (88, o_iload 4 90), (90, o_imul 91), (91, o_iload 5 93), (93, o_iadd 94), (94, o_istore 3 95), (95, o_iinc 2 1 98), (98, o_iinc 5 1 101), (101, o_goto 41), (104, o_iinc 4 1 107), (107, o_goto 23), (110, o_iload 1 111), (111, o_ifne 118 114), (114, o_iload 2 115), (115, o_goto 119), (118, o_iload 3 119), (119, o_iret)]
theorem me_X9_swayed : em_Me T_X9_swayed 6 sp_X9_swayed := by
  intro Q K hK hle av hp hs
  obtain ⟨by9, tln, tst, ten, mm, fa9, fb9, rf, im, pe, ki, mi, se, we, lea, mst, pa, fi, sd, ev, un, ma, ea, co, ca, clt, Y, k, n, rfl, rfl, rfl, hn, hb, hq0, hq1⟩ := hs
  refine ⟨Nat.le_of_ble_eq_true rfl, ?_⟩
  generalize hP : swP n ki we mi se = P at hq0 hq1
  have ok : k = 0 ∨ k = 1 → K 16 [some (.ref 0), some (.int k), none, none, none, none] [] (wX by9 tln tst ten mm fa9 fb9 rf im (nI n) ki mi se we lea mst pa fi sd ev un ma ea co ca clt Y) := by
    intro hk
    have inner : ∀ (a : Nat) (s : Nat × Option Nat), a < n → s.1 ≤ 1000 → K 23 [some (.ref 0), some (.int k), some (.int (nI (swI P a s (n - (a + 1))).1)), some (.int (oI (swI P a s (n - (a + 1))).2)), some (.int (nI (a + 1))), none] [] (wX by9 tln tst ten mm fa9 fb9 rf im (nI n) ki mi se we lea mst pa fi sd ev un ma ea co ca clt Y) → ∀ (r j : Nat), j + r = n - (a + 1) → K 41 [some (.ref 0), some (.int k), some (.int (nI (swI P a s j).1)), some (.int (oI (swI P a s j).2)), some (.int (nI a)), some (.int (nI (a + 1 + j)))] [] (wX by9 tln tst ten mm fa9 fb9 rf im (nI n) ki mi se we lea mst pa fi sd ev un ma ea co ca clt Y) := by
      intro a s ha hs9 hend r
      induction r with
      | zero =>
        intro j hj
        have hj : j = n - (a + 1) := by omega
        subst hj
        refine hK 24 9999 41 _ _ _ ?_
        refine ⟨fun _ => ?_, fun z => absurd (nI_le (a := n) (b := a + 1 + (n - (a + 1))) (by omega) (by omega)) z⟩
        rw [← nI_1 a] at hend
        exact hle _ _ _ _ _ (by repeat (first | exact trivial | refine ⟨rfl, ?_⟩)) hend
      | succ r ih =>
        intro j hj
        have next : ∀ v w, v = nI (swI P a s (j + 1)).1 → w = oI (swI P a s (j + 1)).2 → K 98 [some (.ref 0), some (.int k), some (.int v), some (.int w), some (.int (nI a)), some (.int (nI (a + 1 + j)))] [] (wX by9 tln tst ten mm fa9 fb9 rf im (nI n) ki mi se we lea mst pa fi sd ev un ma ea co ca clt Y) := by
          intro v w hv hw
          subst hv
          subst hw
          have := ih (j + 1) (by omega)
          rw [show a + 1 + (j + 1) = (a + 1 + j) + 1 by omega, ← nI_1 (a + 1 + j)] at this
          exact hK 51 2 98 _ _ _ this
        have hsl := swI_le (P := P) (a := a) (s := s) j
        have ep : P a (a + 1 + j) = decide (btN n ki we mi a (a + 1 + j) = se) := by rw [← hP]; rfl
        refine hK 24 27 41 _ _ _ ?_
        refine ⟨fun z => absurd z (nI_ge (a := a + 1 + j) (b := n) (by omega) (by omega)), fun _ => ?_⟩
        refine ⟨_, _, _, _, _, _, _, _, _, _, _, _, _, _, _, _, _, mi, a, a + 1 + j, n, rfl, rfl, rfl, hn, by omega, by omega, ?_⟩
        refine ⟨fun z => ?_, fun z => ?_⟩
        · have e1 : ¬ P a (a + 1 + j) = true := by
            rw [ep, decide_eq_true_eq]
            exact fun q => z (lg_cmp0.mpr q)
          exact next _ _ (by rw [swI, if_neg e1]) (by rw [swI, if_neg e1])
        · have e1 : P a (a + 1 + j) = true := by
            rw [ep, decide_eq_true_eq]
            exact lg_cmp0.mp z
          refine ⟨fun y => ?_, fun y => ?_⟩
          · have y0 : ¬ (swI P a s j).1 = 0 := fun q => y (by rw [q]; rfl)
            exact next _ _ (by rw [swI, if_pos e1, ← nI_1]) (by rw [swI, if_pos e1, if_neg y0])
          · have y0 : (swI P a s j).1 = 0 := (nI_eq (b := 0) (by omega) (by omega)).mp y
            refine next _ _ (by rw [swI, if_pos e1, ← nI_1]) ?_
            rw [swI, if_pos e1, if_pos y0]
            show 10 * nI a + nI (a + 1 + j) = nI (10 * a + (a + 1 + j))
            rw [show (10 : Int32) = nI 10 from rfl, pk_mul, nI_add]
    have outer : ∀ (r a : Nat), a + r = n → K 23 [some (.ref 0), some (.int k), some (.int (nI (swO P n a).1)), some (.int (oI (swO P n a).2)), some (.int (nI a)), none] [] (wX by9 tln tst ten mm fa9 fb9 rf im (nI n) ki mi se we lea mst pa fi sd ev un ma ea co ca clt Y) := by
      intro r
      induction r with
      | zero =>
        intro a ha
        have ha : a = n := by omega
        subst ha
        refine hK 15 9999 23 _ _ _ ?_
        refine ⟨fun _ => ⟨fun z => ?_, fun z => ?_⟩, fun z => absurd (nI_le (Nat.le_refl a) (by omega)) z⟩
        · rcases hk with q | q
          · exact absurd q z
          · exact hq1 q
        · exact hq0 z
      | succ r ih =>
        intro a ha
        have hol := swO_le (P := P) (n := n) a
        have han : a * n ≤ 36 := Nat.le_trans (Nat.mul_le_mul (show a ≤ 6 by omega) hn) (by decide)
        refine hK 15 9 23 _ _ _ ?_
        refine ⟨fun z => absurd z (nI_ge (a := a) (b := n) (by omega) (by omega)), fun _ => ?_⟩
        have := inner a (swO P n a) (by omega) (by omega) (ih (a + 1) (by omega)) (n - (a + 1)) 0 (by omega)
        rw [Nat.add_zero, ← nI_1 a] at this
        exact this
    exact hK 9 6 16 _ _ _ (outer n 0 (by omega))
  refine hK 0 9 0 _ _ _ ?_
  refine ⟨fun z => ok (Or.inl z), fun z => ⟨fun z2 => ok (Or.inr z2), fun z2 => ?_⟩⟩
  exact ⟨_, _, _, _, _, _, _, _, _, _, _, _, _, _, _, _, _, _, _, _, _, _, _, _, _, _, _, _, rfl, rfl, hb z z2⟩
abbrev rm_X9_swayed : Room := { frames := 3, cells := 0, slots := 0, locals := 81 }
set_option maxRecDepth 100000 in
set_option maxHeartbeats 4000000 in
theorem ct_X9_swayed (l : Launch) (D : va_G) (dA : Nat → ClassId) (σ : Nat → Nat) : em_CT l D em_cl dA σ (em_F σ) y_X9_swayed c_X9_swayed 6 (Option.some ClassFile.FieldType.int) rm_X9_swayed (sp_X9_swayed ) := by
  refine em_CT_of (T := T_X9_swayed ) (em_F_ok σ) (by decide) (fun p e s m args below meth c A ρ Q C hFok hF hret hlk hin => ?_) (me_X9_swayed )
  unfold T_X9_swayed
  refine List.forall_mem_cons.mpr ⟨s_iload_n C (by decide +kernel : decode c_X9_swayed 0 = .ok (.iload_n 1, 1)) rfl rfl rfl, ?_⟩
  refine List.forall_mem_cons.mpr ⟨s_ifeq C (by decide +kernel : decode c_X9_swayed 1 = .ok (.ifCond .eq 15, 3)) (by decide) rfl rfl rfl, ?_⟩
  refine List.forall_mem_cons.mpr ⟨s_iload_n C (by decide +kernel : decode c_X9_swayed 4 = .ok (.iload_n 1, 1)) rfl rfl rfl, ?_⟩
  refine List.forall_mem_cons.mpr ⟨s_iconst C (by decide +kernel : decode c_X9_swayed 5 = .ok (.iconst 1, 1)) rfl rfl (by decide), ?_⟩
  refine List.forall_mem_cons.mpr ⟨s_icmpeq C (by decide +kernel : decode c_X9_swayed 6 = .ok (.if_icmp .eq 10, 3)) (by decide) rfl rfl rfl, ?_⟩
  refine List.forall_mem_cons.mpr ⟨s_aload_n C (by decide +kernel : decode c_X9_swayed 9 = .ok (.aload_n 0, 1)) rfl rfl rfl, ?_⟩
  refine List.forall_mem_cons.mpr ⟨s_bipush C (by decide +kernel : decode c_X9_swayed 10 = .ok (.bipush (-10), 2)) rfl rfl (by decide), ?_⟩
  refine List.forall_mem_cons.mpr ⟨s_callV C hFok hF (ct_X9_refuse l D dA σ) ⟨rfl, rfl⟩ ew200 em_cl_X9 ew197 ew199 ewp1 ew1 ⟨by decide, by decide, by decide +kernel⟩ ⟨by decide, by decide⟩ (by decide +kernel : decode c_X9_swayed 12 = .ok (.invokevirtual 63, 3)) rfl rfl ⟨Nat.zero_le _, Nat.zero_le _⟩, ?_⟩
  refine List.forall_mem_cons.mpr ⟨s_iret C (by decide +kernel : decode c_X9_swayed 15 = .ok (.ireturn, 1)) hret hlk ⟨Nat.le_refl 0, Nat.le_refl 0⟩, ?_⟩
  refine List.forall_mem_cons.mpr ⟨s_iconst C (by decide +kernel : decode c_X9_swayed 16 = .ok (.iconst 0, 1)) rfl rfl (by decide), ?_⟩
  refine List.forall_mem_cons.mpr ⟨s_istore_n C (by decide +kernel : decode c_X9_swayed 17 = .ok (.istore_n 2, 1)) rfl rfl rfl (by decide), ?_⟩
  refine List.forall_mem_cons.mpr ⟨s_iconst C (by decide +kernel : decode c_X9_swayed 18 = .ok (.iconst (-1), 1)) rfl rfl (by decide), ?_⟩
  refine List.forall_mem_cons.mpr ⟨s_istore_n C (by decide +kernel : decode c_X9_swayed 19 = .ok (.istore_n 3, 1)) rfl rfl rfl (by decide), ?_⟩
  refine List.forall_mem_cons.mpr ⟨s_iconst C (by decide +kernel : decode c_X9_swayed 20 = .ok (.iconst 0, 1)) rfl rfl (by decide), ?_⟩
  refine List.forall_mem_cons.mpr ⟨s_istore C (by decide +kernel : decode c_X9_swayed 21 = .ok (.istore 4, 2)) rfl rfl (by decide), ?_⟩
  refine List.forall_mem_cons.mpr ⟨s_iload C (by decide +kernel : decode c_X9_swayed 23 = .ok (.iload 4, 2)) rfl rfl, ?_⟩
  refine List.forall_mem_cons.mpr ⟨s_aload_n C (by decide +kernel : decode c_X9_swayed 25 = .ok (.aload_n 0, 1)) rfl rfl rfl, ?_⟩
  refine List.forall_mem_cons.mpr ⟨s_getf C (by decide +kernel : decode c_X9_swayed 26 = .ok (.getfield 41, 3)) rfl rfl em_cl_X9 (by decide) ew157 rfl, ?_⟩
  refine List.forall_mem_cons.mpr ⟨s_getf C (by decide +kernel : decode c_X9_swayed 29 = .ok (.getfield 120, 3)) rfl rfl em_cl_X7 (by decide) ew88 rfl, ?_⟩
  refine List.forall_mem_cons.mpr ⟨s_icmpge C (by decide +kernel : decode c_X9_swayed 32 = .ok (.if_icmp .ge 78, 3)) (by decide) rfl rfl rfl, ?_⟩
  refine List.forall_mem_cons.mpr ⟨s_iload C (by decide +kernel : decode c_X9_swayed 35 = .ok (.iload 4, 2)) rfl rfl, ?_⟩
  refine List.forall_mem_cons.mpr ⟨s_iconst C (by decide +kernel : decode c_X9_swayed 37 = .ok (.iconst 1, 1)) rfl rfl (by decide), ?_⟩
  refine List.forall_mem_cons.mpr ⟨s_iadd C (by decide +kernel : decode c_X9_swayed 38 = .ok (.iadd, 1)) rfl rfl, ?_⟩
  refine List.forall_mem_cons.mpr ⟨s_istore C (by decide +kernel : decode c_X9_swayed 39 = .ok (.istore 5, 2)) rfl rfl (by decide), ?_⟩
  refine List.forall_mem_cons.mpr ⟨s_iload C (by decide +kernel : decode c_X9_swayed 41 = .ok (.iload 5, 2)) rfl rfl, ?_⟩
  refine List.forall_mem_cons.mpr ⟨s_aload_n C (by decide +kernel : decode c_X9_swayed 43 = .ok (.aload_n 0, 1)) rfl rfl rfl, ?_⟩
  refine List.forall_mem_cons.mpr ⟨s_getf C (by decide +kernel : decode c_X9_swayed 44 = .ok (.getfield 41, 3)) rfl rfl em_cl_X9 (by decide) ew157 rfl, ?_⟩
  refine List.forall_mem_cons.mpr ⟨s_getf C (by decide +kernel : decode c_X9_swayed 47 = .ok (.getfield 120, 3)) rfl rfl em_cl_X7 (by decide) ew88 rfl, ?_⟩
  refine List.forall_mem_cons.mpr ⟨s_icmpge C (by decide +kernel : decode c_X9_swayed 50 = .ok (.if_icmp .ge 54, 3)) (by decide) rfl rfl rfl, ?_⟩
  refine List.forall_mem_cons.mpr ⟨s_aload_n C (by decide +kernel : decode c_X9_swayed 53 = .ok (.aload_n 0, 1)) rfl rfl rfl, ?_⟩
  refine List.forall_mem_cons.mpr ⟨s_getf C (by decide +kernel : decode c_X9_swayed 54 = .ok (.getfield 41, 3)) rfl rfl em_cl_X9 (by decide) ew157 rfl, ?_⟩
  refine List.forall_mem_cons.mpr ⟨s_aload_n C (by decide +kernel : decode c_X9_swayed 57 = .ok (.aload_n 0, 1)) rfl rfl rfl, ?_⟩
  refine List.forall_mem_cons.mpr ⟨s_getf C (by decide +kernel : decode c_X9_swayed 58 = .ok (.getfield 41, 3)) rfl rfl em_cl_X9 (by decide) ew157 rfl, ?_⟩
  refine List.forall_mem_cons.mpr ⟨s_getf C (by decide +kernel : decode c_X9_swayed 61 = .ok (.getfield 103, 3)) rfl rfl em_cl_X7 (by decide) ew94 rfl, ?_⟩
  refine List.forall_mem_cons.mpr ⟨s_iload C (by decide +kernel : decode c_X9_swayed 64 = .ok (.iload 4, 2)) rfl rfl, ?_⟩
  refine List.forall_mem_cons.mpr ⟨s_iload C (by decide +kernel : decode c_X9_swayed 66 = .ok (.iload 5, 2)) rfl rfl, ?_⟩
  refine List.forall_mem_cons.mpr ⟨s_callPV C hFok hF (ct_X7_behindTalk2 l D dA σ) ⟨rfl, rfl⟩ ew438 em_cl_X7 ew459 ew436 ew437 ew5 ⟨by decide, by decide, by decide +kernel⟩ ⟨by decide, by decide⟩ (by decide +kernel : decode c_X9_swayed 68 = .ok (.invokevirtual 149, 3)) rfl rfl ⟨Nat.zero_le _, Nat.zero_le _⟩ (by decide), ?_⟩
  refine List.forall_mem_cons.mpr ⟨s_aload_n C (by decide +kernel : decode c_X9_swayed 71 = .ok (.aload_n 0, 1)) rfl rfl rfl, ?_⟩
  refine List.forall_mem_cons.mpr ⟨s_getf C (by decide +kernel : decode c_X9_swayed 72 = .ok (.getfield 41, 3)) rfl rfl em_cl_X9 (by decide) ew157 rfl, ?_⟩
  refine List.forall_mem_cons.mpr ⟨s_getf C (by decide +kernel : decode c_X9_swayed 75 = .ok (.getfield 210, 3)) rfl rfl em_cl_X7 (by decide) ew96 rfl, ?_⟩
  refine List.forall_mem_cons.mpr ⟨s_lcmp C (by decide +kernel : decode c_X9_swayed 78 = .ok (.lcmp, 1)) rfl rfl, ?_⟩
  refine List.forall_mem_cons.mpr ⟨s_ifne C (by decide +kernel : decode c_X9_swayed 79 = .ok (.ifCond .ne 19, 3)) (by decide) rfl rfl rfl, ?_⟩
  refine List.forall_mem_cons.mpr ⟨s_iload_n C (by decide +kernel : decode c_X9_swayed 82 = .ok (.iload_n 2, 1)) rfl rfl rfl, ?_⟩
  refine List.forall_mem_cons.mpr ⟨s_ifne C (by decide +kernel : decode c_X9_swayed 83 = .ok (.ifCond .ne 12, 3)) (by decide) rfl rfl rfl, ?_⟩
  refine List.forall_mem_cons.mpr ⟨s_bipush C (by decide +kernel : decode c_X9_swayed 86 = .ok (.bipush 10, 2)) rfl rfl (by decide), ?_⟩
  refine List.forall_mem_cons.mpr ⟨s_iload C (by decide +kernel : decode c_X9_swayed 88 = .ok (.iload 4, 2)) rfl rfl, ?_⟩
  refine List.forall_mem_cons.mpr ⟨s_imul C (by decide +kernel : decode c_X9_swayed 90 = .ok (.imul, 1)) rfl rfl, ?_⟩
  refine List.forall_mem_cons.mpr ⟨s_iload C (by decide +kernel : decode c_X9_swayed 91 = .ok (.iload 5, 2)) rfl rfl, ?_⟩
  refine List.forall_mem_cons.mpr ⟨s_iadd C (by decide +kernel : decode c_X9_swayed 93 = .ok (.iadd, 1)) rfl rfl, ?_⟩
  refine List.forall_mem_cons.mpr ⟨s_istore_n C (by decide +kernel : decode c_X9_swayed 94 = .ok (.istore_n 3, 1)) rfl rfl rfl (by decide), ?_⟩
  refine List.forall_mem_cons.mpr ⟨s_iinc C (by decide +kernel : decode c_X9_swayed 95 = .ok (.iinc 2 1, 3)) rfl rfl (by decide) (by decide), ?_⟩
  refine List.forall_mem_cons.mpr ⟨s_iinc C (by decide +kernel : decode c_X9_swayed 98 = .ok (.iinc 5 1, 3)) rfl rfl (by decide) (by decide), ?_⟩
  refine List.forall_mem_cons.mpr ⟨s_goto C (by decide +kernel : decode c_X9_swayed 101 = .ok (.goto (-60), 3)) (by decide) rfl, ?_⟩
  refine List.forall_mem_cons.mpr ⟨s_iinc C (by decide +kernel : decode c_X9_swayed 104 = .ok (.iinc 4 1, 3)) rfl rfl (by decide) (by decide), ?_⟩
  refine List.forall_mem_cons.mpr ⟨s_goto C (by decide +kernel : decode c_X9_swayed 107 = .ok (.goto (-84), 3)) (by decide) rfl, ?_⟩
  refine List.forall_mem_cons.mpr ⟨s_iload_n C (by decide +kernel : decode c_X9_swayed 110 = .ok (.iload_n 1, 1)) rfl rfl rfl, ?_⟩
  refine List.forall_mem_cons.mpr ⟨s_ifne C (by decide +kernel : decode c_X9_swayed 111 = .ok (.ifCond .ne 7, 3)) (by decide) rfl rfl rfl, ?_⟩
  refine List.forall_mem_cons.mpr ⟨s_iload_n C (by decide +kernel : decode c_X9_swayed 114 = .ok (.iload_n 2, 1)) rfl rfl rfl, ?_⟩
  refine List.forall_mem_cons.mpr ⟨s_goto C (by decide +kernel : decode c_X9_swayed 115 = .ok (.goto 4, 3)) (by decide) rfl, ?_⟩
  refine List.forall_mem_cons.mpr ⟨s_iload_n C (by decide +kernel : decode c_X9_swayed 118 = .ok (.iload_n 3, 1)) rfl rfl rfl, ?_⟩
  refine List.forall_mem_cons.mpr ⟨s_iret C (by decide +kernel : decode c_X9_swayed 119 = .ok (.ireturn, 1)) hret hlk ⟨Nat.le_refl 0, Nat.le_refl 0⟩, ?_⟩
  exact fun _ h => absurd h List.not_mem_nil
def sp_X9_seats : em_Sp := fun av hp Q => ∃ by9 tln tst ten mm fa9 fb9 rf im pe ki mi se we lea mst pa fi sd ev un ma ea co ca clt Y w n, av = [.ref 0, .int w] ∧ hp = (wX by9 tln tst ten mm fa9 fb9 rf im pe ki mi se we lea mst pa fi sd ev un ma ea co ca clt Y) ∧ pe = nI n ∧ n ≤ 6 ∧ (¬ (-1) ≤ w → Q (some (.int (-10))) (wX by9 tln tst ten mm fa9 fb9 (rfu rf (-10)) im pe ki mi se we lea mst pa fi sd ev un ma ea co ca clt Y)) ∧ ((-1) ≤ w → ¬ w < pe → Q (some (.int (-5))) hp) ∧ (w = -1 → Q (some (.int (tbm n ki we lea mst (n - 1) 1 0 mi))) hp) ∧ (∀ j, w = nI j → j < n → Q (some (.int (nI (tsi n ki we lea mst j j 1 0 mi)))) hp)
def T_X9_seats : List (Nat × em_Op) := [(0, o_iload 1 1), (1, o_iconst (-1) 2), (2, o_icmpge 12 5), (5, o_aload 0 6), (6, o_iconst (-10) 8), (8, o_call 2 (some 4) (sp_X9_refuse) 11), (11, o_iret), (12, o_iload 1 13), (13, o_aload 0 14), (14, o_getf 4 5 17), (17, o_getf 2 0 20), (20, o_icmplt 26 23), (23, o_iconst (-5) 25), (25, o_iret), (26, o_iload 1 27), (27, o_iconst (-1) 28), (28, o_icmpne 49 31), (31, o_aload 0 32), (32, o_getf 4 5 35), (35, o_aload 0 36), (36, o_getf 4 5 39), (39, o_getf 2 2 42), (42, o_iconst 1 43), (43, o_iconst 0 44), (44, o_iconst 1 45), (45, o_callP 5 none [8, 9, 10, 11, 12, 13, 14, 15] (sp_X6_most 6) 48), (48, o_iret), (49, o_aload 0 50), (50, o_getf 4 5 53), (53, o_iload 1 54), (54, o_callP 2 none [8, 9, 10, 11, 12, 13, 14, 15] (sp_X6_sitter) 57), (57, o_iret)]
theorem me_X9_seats : em_Me T_X9_seats 2 sp_X9_seats := by
  intro Q K hK hle av hp hs
  obtain ⟨by9, tln, tst, ten, mm, fa9, fb9, rf, im, pe, ki, mi, se, we, lea, mst, pa, fi, sd, ev, un, ma, ea, co, ca, clt, Y, w, n, rfl, rfl, rfl, hn, hb, h5, hq1, hq2⟩ := hs
  refine ⟨Nat.le_of_ble_eq_true rfl, hK 0 9999 0 _ _ _ ?_⟩
  refine ⟨fun z => ⟨fun y => ⟨fun x => ?_, fun x => ?_⟩, fun y => h5 z y⟩, fun z => ⟨_, _, _, _, _, _, _, _, _, _, _, _, _, _, _, _, _, _, _, _, _, _, _, _, _, _, _, _, rfl, rfl, hb z⟩⟩
  · have hw0 : ¬ w < 0 := by
      intro q
      refine x ?_
      have e1 : (-1 : Int32).toInt = -1 := by decide
      have e0 : (0 : Int32).toInt = 0 := by decide
      have q' := Int32.lt_iff_toInt_lt.mp q
      have z' := Int32.le_iff_toInt_le.mp z
      apply Int32.toInt_inj.mp
      omega
    obtain ⟨j, hj, rfl⟩ := nI_of hw0
    have hjn : j < n := (nI_ltI hj (by omega)).mp y
    exact ⟨_, _, _, _, _, _, _, _, _, _, _, _, _, _, _, _, _, j, n, rfl, rfl, rfl, hn, hjn, hq2 j rfl hjn⟩
  · exact ⟨_, _, _, _, _, _, _, _, _, _, _, _, _, _, _, _, _, mi, 1, 0, 1, n, rfl, rfl, rfl, hn, by omega, by omega, by omega, hq1 x⟩
abbrev rm_X9_seats : Room := { frames := 13, cells := 0, slots := 0, locals := 351 }
set_option maxRecDepth 100000 in
set_option maxHeartbeats 4000000 in
theorem ct_X9_seats (l : Launch) (D : va_G) (dA : Nat → ClassId) (σ : Nat → Nat) : em_CT l D em_cl dA σ (em_F σ) y_X9_seats c_X9_seats 2 (Option.some ClassFile.FieldType.int) rm_X9_seats (sp_X9_seats ) := by
  refine em_CT_of (T := T_X9_seats ) (em_F_ok σ) (by decide) (fun p e s m args below meth c A ρ Q C hFok hF hret hlk hin => ?_) (me_X9_seats )
  unfold T_X9_seats
  refine List.forall_mem_cons.mpr ⟨s_iload_n C (by decide +kernel : decode c_X9_seats 0 = .ok (.iload_n 1, 1)) rfl rfl rfl, ?_⟩
  refine List.forall_mem_cons.mpr ⟨s_iconst C (by decide +kernel : decode c_X9_seats 1 = .ok (.iconst (-1), 1)) rfl rfl (by decide), ?_⟩
  refine List.forall_mem_cons.mpr ⟨s_icmpge C (by decide +kernel : decode c_X9_seats 2 = .ok (.if_icmp .ge 10, 3)) (by decide) rfl rfl rfl, ?_⟩
  refine List.forall_mem_cons.mpr ⟨s_aload_n C (by decide +kernel : decode c_X9_seats 5 = .ok (.aload_n 0, 1)) rfl rfl rfl, ?_⟩
  refine List.forall_mem_cons.mpr ⟨s_bipush C (by decide +kernel : decode c_X9_seats 6 = .ok (.bipush (-10), 2)) rfl rfl (by decide), ?_⟩
  refine List.forall_mem_cons.mpr ⟨s_callV C hFok hF (ct_X9_refuse l D dA σ) ⟨rfl, rfl⟩ ew200 em_cl_X9 ew197 ew199 ewp1 ew1 ⟨by decide, by decide, by decide +kernel⟩ ⟨by decide, by decide⟩ (by decide +kernel : decode c_X9_seats 8 = .ok (.invokevirtual 63, 3)) rfl rfl ⟨Nat.zero_le _, Nat.zero_le _⟩, ?_⟩
  refine List.forall_mem_cons.mpr ⟨s_iret C (by decide +kernel : decode c_X9_seats 11 = .ok (.ireturn, 1)) hret hlk ⟨Nat.le_refl 0, Nat.le_refl 0⟩, ?_⟩
  refine List.forall_mem_cons.mpr ⟨s_iload_n C (by decide +kernel : decode c_X9_seats 12 = .ok (.iload_n 1, 1)) rfl rfl rfl, ?_⟩
  refine List.forall_mem_cons.mpr ⟨s_aload_n C (by decide +kernel : decode c_X9_seats 13 = .ok (.aload_n 0, 1)) rfl rfl rfl, ?_⟩
  refine List.forall_mem_cons.mpr ⟨s_getf C (by decide +kernel : decode c_X9_seats 14 = .ok (.getfield 41, 3)) rfl rfl em_cl_X9 (by decide) ew157 rfl, ?_⟩
  refine List.forall_mem_cons.mpr ⟨s_getf C (by decide +kernel : decode c_X9_seats 17 = .ok (.getfield 120, 3)) rfl rfl em_cl_X7 (by decide) ew88 rfl, ?_⟩
  refine List.forall_mem_cons.mpr ⟨s_icmplt C (by decide +kernel : decode c_X9_seats 20 = .ok (.if_icmp .lt 6, 3)) (by decide) rfl rfl rfl, ?_⟩
  refine List.forall_mem_cons.mpr ⟨s_bipush C (by decide +kernel : decode c_X9_seats 23 = .ok (.bipush (-5), 2)) rfl rfl (by decide), ?_⟩
  refine List.forall_mem_cons.mpr ⟨s_iret C (by decide +kernel : decode c_X9_seats 25 = .ok (.ireturn, 1)) hret hlk ⟨Nat.le_refl 0, Nat.le_refl 0⟩, ?_⟩
  refine List.forall_mem_cons.mpr ⟨s_iload_n C (by decide +kernel : decode c_X9_seats 26 = .ok (.iload_n 1, 1)) rfl rfl rfl, ?_⟩
  refine List.forall_mem_cons.mpr ⟨s_iconst C (by decide +kernel : decode c_X9_seats 27 = .ok (.iconst (-1), 1)) rfl rfl (by decide), ?_⟩
  refine List.forall_mem_cons.mpr ⟨s_icmpne C (by decide +kernel : decode c_X9_seats 28 = .ok (.if_icmp .ne 21, 3)) (by decide) rfl rfl rfl, ?_⟩
  refine List.forall_mem_cons.mpr ⟨s_aload_n C (by decide +kernel : decode c_X9_seats 31 = .ok (.aload_n 0, 1)) rfl rfl rfl, ?_⟩
  refine List.forall_mem_cons.mpr ⟨s_getf C (by decide +kernel : decode c_X9_seats 32 = .ok (.getfield 41, 3)) rfl rfl em_cl_X9 (by decide) ew157 rfl, ?_⟩
  refine List.forall_mem_cons.mpr ⟨s_aload_n C (by decide +kernel : decode c_X9_seats 35 = .ok (.aload_n 0, 1)) rfl rfl rfl, ?_⟩
  refine List.forall_mem_cons.mpr ⟨s_getf C (by decide +kernel : decode c_X9_seats 36 = .ok (.getfield 41, 3)) rfl rfl em_cl_X9 (by decide) ew157 rfl, ?_⟩
  refine List.forall_mem_cons.mpr ⟨s_getf C (by decide +kernel : decode c_X9_seats 39 = .ok (.getfield 103, 3)) rfl rfl em_cl_X7 (by decide) ew94 rfl, ?_⟩
  refine List.forall_mem_cons.mpr ⟨s_iconst C (by decide +kernel : decode c_X9_seats 42 = .ok (.iconst 1, 1)) rfl rfl (by decide), ?_⟩
  refine List.forall_mem_cons.mpr ⟨s_iconst C (by decide +kernel : decode c_X9_seats 43 = .ok (.iconst 0, 1)) rfl rfl (by decide), ?_⟩
  refine List.forall_mem_cons.mpr ⟨s_iconst C (by decide +kernel : decode c_X9_seats 44 = .ok (.iconst 1, 1)) rfl rfl (by decide), ?_⟩
  refine List.forall_mem_cons.mpr ⟨s_callPSN C hFok hF (ct_X6_most l D dA σ 6) ⟨rfl, rfl⟩ ew590 (em_F_nest (host := "WedApart") hF () (by decide +kernel)) ew589 ew18 ⟨by decide, by decide, by decide +kernel⟩ ⟨by decide, by decide⟩ (by decide +kernel : decode c_X9_seats 45 = .ok (.invokestatic 216, 3)) rfl rfl ⟨Nat.zero_le _, Nat.zero_le _⟩ (by decide), ?_⟩
  refine List.forall_mem_cons.mpr ⟨s_iret C (by decide +kernel : decode c_X9_seats 48 = .ok (.ireturn, 1)) hret hlk ⟨Nat.le_refl 0, Nat.le_refl 0⟩, ?_⟩
  refine List.forall_mem_cons.mpr ⟨s_aload_n C (by decide +kernel : decode c_X9_seats 49 = .ok (.aload_n 0, 1)) rfl rfl rfl, ?_⟩
  refine List.forall_mem_cons.mpr ⟨s_getf C (by decide +kernel : decode c_X9_seats 50 = .ok (.getfield 41, 3)) rfl rfl em_cl_X9 (by decide) ew157 rfl, ?_⟩
  refine List.forall_mem_cons.mpr ⟨s_iload_n C (by decide +kernel : decode c_X9_seats 53 = .ok (.iload_n 1, 1)) rfl rfl rfl, ?_⟩
  refine List.forall_mem_cons.mpr ⟨s_callPS C hFok hF (ct_X6_sitter l D dA σ) ⟨rfl, rfl⟩ ew600 ew598 ew599 ew18 ⟨by decide, by decide, by decide +kernel⟩ ⟨by decide, by decide⟩ (by decide +kernel : decode c_X9_seats 54 = .ok (.invokestatic 220, 3)) rfl rfl ⟨Nat.zero_le _, Nat.zero_le _⟩ (by decide), ?_⟩
  refine List.forall_mem_cons.mpr ⟨s_iret C (by decide +kernel : decode c_X9_seats 57 = .ok (.ireturn, 1)) hret hlk ⟨Nat.le_refl 0, Nat.le_refl 0⟩, ?_⟩
  exact fun _ h => absurd h List.not_mem_nil
def sp_X9_couple : em_Sp := fun av hp Q => ∃ by9 tln tst ten mm fa9 fb9 rf im pe ki mi se we lea mst pa fi sd ev un ma ea co ca clt Y x l nc, av = [.ref 0, .int x, .int l] ∧ hp = (wX by9 tln tst ten mm fa9 fb9 rf im pe ki mi se we lea mst pa fi sd ev un ma ea co ca clt Y) ∧ (l = 0 ∨ l = 1) ∧ co = nI nc ∧ nc ≤ 10 ∧ (¬ rng20 x → Q (some (.int (-2))) (wX by9 tln tst ten mm fa9 fb9 (rfu rf (-2)) im pe ki mi se we lea mst pa fi sd ev un ma ea co ca clt Y)) ∧ (rng20 x → nc = 10 → Q (some (.int (-4))) (wX by9 tln tst ten mm fa9 fb9 (rfu rf (-4)) im pe ki mi se we lea mst pa fi sd ev un ma ea co ca clt Y)) ∧ (rng20 x → nc < 10 → Q (some (.int (nI (nc + 1)))) (wX by9 tln tst ten mm fa9 fb9 rf im pe ki mi se we lea mst pa fi sd ev un ma ea (nI (nc + 1)) (upd ca nc x) (upd clt nc l) Y))
def T_X9_couple : List (Nat × em_Op) := [(0, o_aload 0 1), (1, o_aload 0 2), (2, o_getf 4 5 5), (5, o_iload 1 6), (6, o_iload 2 7), (7, o_callP 3 (some 2) [8, 9, 10, 11, 12, 13, 14, 15] (sp_X7_note) 10), (10, o_call 2 (some 4) (sp_X9_counted) 13), (13, o_iret)]
theorem me_X9_couple : em_Me T_X9_couple 3 sp_X9_couple := by
  intro Q K hK hle av hp hs
  obtain ⟨by9, tln, tst, ten, mm, fa9, fb9, rf, im, pe, ki, mi, se, we, lea, mst, pa, fi, sd, ev, un, ma, ea, co, ca, clt, Y, x, l, nc, rfl, rfl, hl, rfl, hn, hb, hf, hq⟩ := hs
  refine ⟨Nat.le_of_ble_eq_true rfl, hK 0 9999 0 _ _ _ ?_⟩
  refine ⟨_, _, _, _, _, _, _, _, _, _, _, _, _, _, _, _, _, x, l, nc, rfl, rfl, hl, rfl, hn, fun z => ?_, fun z1 z3 => ?_, fun z1 z3 => ?_⟩
  · exact ⟨_, _, _, _, _, _, _, _, _, _, _, _, _, _, _, _, _, _, _, _, _, _, _, _, _, _, _, _, rfl, rfl, fun _ => hb z, fun y => absurd (Or.inl rfl) y⟩
  · exact ⟨_, _, _, _, _, _, _, _, _, _, _, _, _, _, _, _, _, _, _, _, _, _, _, _, _, _, _, _, rfl, rfl, fun _ => hf z1 z3, fun y => absurd (Or.inr (Or.inr rfl)) y⟩
  · exact ⟨_, _, _, _, _, _, _, _, _, _, _, _, _, _, _, _, _, _, _, _, _, _, _, _, _, _, _, _, rfl, rfl, fun y => absurd y (nbad (by omega)), fun _ => hq z1 z3⟩
abbrev rm_X9_couple : Room := { frames := 2, cells := 0, slots := 0, locals := 42 }
set_option maxRecDepth 100000 in
set_option maxHeartbeats 4000000 in
theorem ct_X9_couple (l : Launch) (D : va_G) (dA : Nat → ClassId) (σ : Nat → Nat) : em_CT l D em_cl dA σ (em_F σ) y_X9_couple c_X9_couple 3 (Option.some ClassFile.FieldType.int) rm_X9_couple (sp_X9_couple ) := by
  refine em_CT_of (T := T_X9_couple ) (em_F_ok σ) (by decide) (fun p e s m args below meth c A ρ Q C hFok hF hret hlk hin => ?_) (me_X9_couple )
  unfold T_X9_couple
  refine List.forall_mem_cons.mpr ⟨s_aload_n C (by decide +kernel : decode c_X9_couple 0 = .ok (.aload_n 0, 1)) rfl rfl rfl, ?_⟩
  refine List.forall_mem_cons.mpr ⟨s_aload_n C (by decide +kernel : decode c_X9_couple 1 = .ok (.aload_n 0, 1)) rfl rfl rfl, ?_⟩
  refine List.forall_mem_cons.mpr ⟨s_getf C (by decide +kernel : decode c_X9_couple 2 = .ok (.getfield 41, 3)) rfl rfl em_cl_X9 (by decide) ew157 rfl, ?_⟩
  refine List.forall_mem_cons.mpr ⟨s_iload_n C (by decide +kernel : decode c_X9_couple 5 = .ok (.iload_n 1, 1)) rfl rfl rfl, ?_⟩
  refine List.forall_mem_cons.mpr ⟨s_iload_n C (by decide +kernel : decode c_X9_couple 6 = .ok (.iload_n 2, 1)) rfl rfl rfl, ?_⟩
  refine List.forall_mem_cons.mpr ⟨s_callPV C hFok hF (ct_X7_note l D dA σ) ⟨rfl, rfl⟩ ew611 em_cl_X7 ew608 ew609 ew610 ew5 ⟨by decide, by decide, by decide +kernel⟩ ⟨by decide, by decide⟩ (by decide +kernel : decode c_X9_couple 7 = .ok (.invokevirtual 224, 3)) rfl rfl ⟨Nat.zero_le _, Nat.zero_le _⟩ (by decide), ?_⟩
  refine List.forall_mem_cons.mpr ⟨s_callV C hFok hF (ct_X9_counted l D dA σ) ⟨rfl, rfl⟩ ew196 em_cl_X9 ew193 ew195 ewp0 ew1 ⟨by decide, by decide, by decide +kernel⟩ ⟨by decide, by decide⟩ (by decide +kernel : decode c_X9_couple 10 = .ok (.invokevirtual 52, 3)) rfl rfl ⟨Nat.zero_le _, Nat.zero_le _⟩, ?_⟩
  refine List.forall_mem_cons.mpr ⟨s_iret C (by decide +kernel : decode c_X9_couple 13 = .ok (.ireturn, 1)) hret hlk ⟨Nat.le_refl 0, Nat.le_refl 0⟩, ?_⟩
  exact fun _ h => absurd h List.not_mem_nil
