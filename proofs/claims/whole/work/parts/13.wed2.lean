/-! ===== WedApart: evenings ===== -/
def sp_X9_evening : em_Sp := fun av hp Q => ∃ by9 tln tst ten mm fa9 fb9 rf im pe ki mi se we lea mst pa fi sd ev un ma ea co ca clt Y n np e0 nu fa fb, av = [.ref 0] ∧ hp = (wX by9 tln tst ten mm fa9 fb9 rf im pe ki mi se we lea mst pa fi sd ev un ma ea co ca clt Y) ∧ pe = nI n ∧ n ≤ 6 ∧ pa = nI np ∧ np ≤ 8 ∧ ev = nI e0 ∧ e0 < 2 ^ 20 ∧ un = nI nu ∧ nu ≤ 12 ∧ calOk n np fi sd fa fb ∧ Q (some (.int (nI (mu mi (evN np ki we fa fb e0 mi) 6)))) (wX by9 tln tst ten mm fa9 fb9 rf im pe ki (evN np ki we fa fb e0 mi) se we lea mst pa fi sd (nI (e0 + 1)) (nI (rmN nu)) (rmL ma nu mi) (rmI ea nu ev) co ca clt Y)
def T_X9_evening : List (Nat × em_Op) := [(0, o_aload 0 1), (1, o_getf 4 5 4), (4, o_getf 2 2 7), (7, o_lstore 1 8), (8, o_aload 0 9), (9, o_getf 4 5 12), (12, o_callP 1 (some 2) [8, 9, 10, 11, 12, 13, 14, 15] (sp_X7_remember) 15), (15, o_aload 0 16), (16, o_getf 4 5 19), (19, o_aload 0 20), (20, o_getf 4 5 23), (23, o_lload 1 24), (24, o_aload 0 25), (25, o_getf 4 5 28), (28, o_getf 2 10 31), (31, o_callP 3 (some 2) [8, 9, 10, 11, 12, 13, 14, 15] (sp_X7_behindEvening2) 34), (34, o_putL 2 2 37), (37, o_aload 0 38), (38, o_getf 4 5 41), (41, o_dup 42), (42, o_getf 2 10 45), (45, o_iconst 1 46), (46, o_iadd 47), (47, o_putI 2 10 50), (50, o_lload 1 51), (51, o_aload 0 52), (52, o_getf 4 5 55), (55, o_getf 2 2 58), (58, o_call 2 none (sp_X5_unlike) 61), (61, o_iret)]
theorem me_X9_evening : em_Me T_X9_evening 3 sp_X9_evening := by
  intro Q K hK hle av hp hs
  obtain ⟨by9, tln, tst, ten, mm, fa9, fb9, rf, im, pe, ki, mi, se, we, lea, mst, pa, fi, sd, ev, un, ma, ea, co, ca, clt, Y, n, np, e0, nu, fa, fb, rfl, rfl, rfl, hn, rfl, hnp, rfl, he0, rfl, hnu, hcal, hq⟩ := hs
  refine ⟨Nat.le_of_ble_eq_true rfl, hK 0 9999 0 _ _ _ ?_⟩
  rw [← nI_1 e0] at hq
  refine ⟨_, _, _, _, _, _, _, _, _, _, _, _, _, _, _, _, _, nu, rfl, rfl, rfl, hnu, ?_⟩
  exact ⟨_, _, _, _, _, _, _, _, _, _, _, _, _, _, _, _, _, mi, e0, n, np, fa, fb, rfl, rfl, rfl, hn, rfl, hnp, by omega, hcal, _, _, rfl, hq⟩
abbrev rm_X9_evening : Room := { frames := 4, cells := 0, slots := 0, locals := 105 }
set_option maxRecDepth 100000 in
set_option maxHeartbeats 4000000 in
theorem ct_X9_evening (l : Launch) (D : va_G) (dA : Nat → ClassId) (σ : Nat → Nat) : em_CT l D em_cl dA σ (em_F σ) y_X9_evening c_X9_evening 3 (Option.some ClassFile.FieldType.int) rm_X9_evening (sp_X9_evening ) := by
  refine em_CT_of (T := T_X9_evening ) (em_F_ok σ) (by decide) (fun p e s m args below meth c A ρ Q C hFok hF hret hlk hin => ?_) (me_X9_evening )
  unfold T_X9_evening
  refine List.forall_mem_cons.mpr ⟨s_aload_n C (by decide +kernel : decode c_X9_evening 0 = .ok (.aload_n 0, 1)) rfl rfl rfl, ?_⟩
  refine List.forall_mem_cons.mpr ⟨s_getf C (by decide +kernel : decode c_X9_evening 1 = .ok (.getfield 41, 3)) rfl rfl em_cl_X9 (by decide) ew157 rfl, ?_⟩
  refine List.forall_mem_cons.mpr ⟨s_getf C (by decide +kernel : decode c_X9_evening 4 = .ok (.getfield 103, 3)) rfl rfl em_cl_X7 (by decide) ew94 rfl, ?_⟩
  refine List.forall_mem_cons.mpr ⟨s_lstore_n C (by decide +kernel : decode c_X9_evening 7 = .ok (.lstore_n 1, 1)) rfl rfl rfl (by decide), ?_⟩
  refine List.forall_mem_cons.mpr ⟨s_aload_n C (by decide +kernel : decode c_X9_evening 8 = .ok (.aload_n 0, 1)) rfl rfl rfl, ?_⟩
  refine List.forall_mem_cons.mpr ⟨s_getf C (by decide +kernel : decode c_X9_evening 9 = .ok (.getfield 41, 3)) rfl rfl em_cl_X9 (by decide) ew157 rfl, ?_⟩
  refine List.forall_mem_cons.mpr ⟨s_callPV C hFok hF (ct_X7_remember l D dA σ) ⟨rfl, rfl⟩ ew427 em_cl_X7 ew424 ew425 ew426 ew5 ⟨by decide, by decide, by decide +kernel⟩ ⟨by decide, by decide⟩ (by decide +kernel : decode c_X9_evening 12 = .ok (.invokevirtual 135, 3)) rfl rfl ⟨Nat.zero_le _, Nat.zero_le _⟩ (by decide), ?_⟩
  refine List.forall_mem_cons.mpr ⟨s_aload_n C (by decide +kernel : decode c_X9_evening 15 = .ok (.aload_n 0, 1)) rfl rfl rfl, ?_⟩
  refine List.forall_mem_cons.mpr ⟨s_getf C (by decide +kernel : decode c_X9_evening 16 = .ok (.getfield 41, 3)) rfl rfl em_cl_X9 (by decide) ew157 rfl, ?_⟩
  refine List.forall_mem_cons.mpr ⟨s_aload_n C (by decide +kernel : decode c_X9_evening 19 = .ok (.aload_n 0, 1)) rfl rfl rfl, ?_⟩
  refine List.forall_mem_cons.mpr ⟨s_getf C (by decide +kernel : decode c_X9_evening 20 = .ok (.getfield 41, 3)) rfl rfl em_cl_X9 (by decide) ew157 rfl, ?_⟩
  refine List.forall_mem_cons.mpr ⟨s_lload_n C (by decide +kernel : decode c_X9_evening 23 = .ok (.lload_n 1, 1)) rfl rfl rfl, ?_⟩
  refine List.forall_mem_cons.mpr ⟨s_aload_n C (by decide +kernel : decode c_X9_evening 24 = .ok (.aload_n 0, 1)) rfl rfl rfl, ?_⟩
  refine List.forall_mem_cons.mpr ⟨s_getf C (by decide +kernel : decode c_X9_evening 25 = .ok (.getfield 41, 3)) rfl rfl em_cl_X9 (by decide) ew157 rfl, ?_⟩
  refine List.forall_mem_cons.mpr ⟨s_getf C (by decide +kernel : decode c_X9_evening 28 = .ok (.getfield 138, 3)) rfl rfl em_cl_X7 (by decide) ew106 rfl, ?_⟩
  refine List.forall_mem_cons.mpr ⟨s_callPV C hFok hF (ct_X7_behindEvening2 l D dA σ) ⟨rfl, rfl⟩ ew434 em_cl_X7 ew431 ew432 ew433 ew5 ⟨by decide, by decide, by decide +kernel⟩ ⟨by decide, by decide⟩ (by decide +kernel : decode c_X9_evening 31 = .ok (.invokevirtual 141, 3)) rfl rfl ⟨Nat.zero_le _, Nat.zero_le _⟩ (by decide), ?_⟩
  refine List.forall_mem_cons.mpr ⟨s_putL C (by decide +kernel : decode c_X9_evening 34 = .ok (.putfield 103, 3)) rfl rfl em_cl_X7 (by decide) ew94 rfl (by decide) (by decide +kernel), ?_⟩
  refine List.forall_mem_cons.mpr ⟨s_aload_n C (by decide +kernel : decode c_X9_evening 37 = .ok (.aload_n 0, 1)) rfl rfl rfl, ?_⟩
  refine List.forall_mem_cons.mpr ⟨s_getf C (by decide +kernel : decode c_X9_evening 38 = .ok (.getfield 41, 3)) rfl rfl em_cl_X9 (by decide) ew157 rfl, ?_⟩
  refine List.forall_mem_cons.mpr ⟨s_dup C (by decide +kernel : decode c_X9_evening 41 = .ok (.dup, 1)) rfl rfl, ?_⟩
  refine List.forall_mem_cons.mpr ⟨s_getf C (by decide +kernel : decode c_X9_evening 42 = .ok (.getfield 138, 3)) rfl rfl em_cl_X7 (by decide) ew106 rfl, ?_⟩
  refine List.forall_mem_cons.mpr ⟨s_iconst C (by decide +kernel : decode c_X9_evening 45 = .ok (.iconst 1, 1)) rfl rfl (by decide), ?_⟩
  refine List.forall_mem_cons.mpr ⟨s_iadd C (by decide +kernel : decode c_X9_evening 46 = .ok (.iadd, 1)) rfl rfl, ?_⟩
  refine List.forall_mem_cons.mpr ⟨s_putI C (by decide +kernel : decode c_X9_evening 47 = .ok (.putfield 138, 3)) rfl rfl em_cl_X7 (by decide) ew106 rfl (by decide) (by decide +kernel), ?_⟩
  refine List.forall_mem_cons.mpr ⟨s_lload_n C (by decide +kernel : decode c_X9_evening 50 = .ok (.lload_n 1, 1)) rfl rfl rfl, ?_⟩
  refine List.forall_mem_cons.mpr ⟨s_aload_n C (by decide +kernel : decode c_X9_evening 51 = .ok (.aload_n 0, 1)) rfl rfl rfl, ?_⟩
  refine List.forall_mem_cons.mpr ⟨s_getf C (by decide +kernel : decode c_X9_evening 52 = .ok (.getfield 41, 3)) rfl rfl em_cl_X9 (by decide) ew157 rfl, ?_⟩
  refine List.forall_mem_cons.mpr ⟨s_getf C (by decide +kernel : decode c_X9_evening 55 = .ok (.getfield 103, 3)) rfl rfl em_cl_X7 (by decide) ew94 rfl, ?_⟩
  refine List.forall_mem_cons.mpr ⟨s_callS C hFok hF (ct_X5_unlike l D dA σ) ⟨rfl, rfl⟩ ew453 ew451 ew452 ew8 ⟨by decide, by decide, by decide +kernel⟩ ⟨by decide, by decide⟩ (by decide +kernel : decode c_X9_evening 58 = .ok (.invokestatic 145, 3)) rfl rfl ⟨Nat.zero_le _, Nat.zero_le _⟩, ?_⟩
  refine List.forall_mem_cons.mpr ⟨s_iret C (by decide +kernel : decode c_X9_evening 61 = .ok (.ireturn, 1)) hret hlk ⟨Nat.le_refl 0, Nat.le_refl 0⟩, ?_⟩
  exact fun _ h => absurd h List.not_mem_nil
def sp_X9_meet : em_Sp := fun av hp Q => ∃ by9 tln tst ten mm fa9 fb9 rf im pe ki mi se we lea mst pa fi sd ev un ma ea co ca clt Y a b n nu, av = [.ref 0, .int a, .int b] ∧ hp = (wX by9 tln tst ten mm fa9 fb9 rf im pe ki mi se we lea mst pa fi sd ev un ma ea co ca clt Y) ∧ pe = nI n ∧ n ≤ 6 ∧ un = nI nu ∧ nu ≤ 12 ∧ (¬ h2 pe a b → Q (some (.int (-2))) (wX by9 tln tst ten mm fa9 fb9 (rfu rf (-2)) im pe ki mi se we lea mst pa fi sd ev un ma ea co ca clt Y)) ∧ (∀ i j, a = nI i → b = nI j → i < n → j < n → i ≠ j → Q (some (.int (nI (mu mi (btN n ki we mi i j) 6)))) (wX by9 tln tst ten mm fa9 fb9 rf im pe ki (btN n ki we mi i j) se we lea mst pa fi sd ev (nI (rmN nu)) (rmL ma nu mi) (rmI ea nu ev) co ca clt Y))
def T_X9_meet : List (Nat × em_Op) := [(0, o_aload 0 1), (1, o_getf 4 5 4), (4, o_iload 1 5), (5, o_iload 2 6), (6, o_callP 3 (some 2) [8, 9, 10, 11, 12, 13, 14, 15] (sp_X7_hasTwo) 9), (9, o_ifne 19 12), (12, o_aload 0 13), (13, o_iconst (-2) 15), (15, o_call 2 (some 4) (sp_X9_refuse) 18), (18, o_iret), (19, o_aload 0 20), (20, o_getf 4 5 23), (23, o_getf 2 2 26), (26, o_lstore 3 27), (27, o_aload 0 28), (28, o_getf 4 5 31), (31, o_callP 1 (some 2) [8, 9, 10, 11, 12, 13, 14, 15] (sp_X7_remember) 34), (34, o_aload 0 35), (35, o_getf 4 5 38), (38, o_aload 0 39), (39, o_getf 4 5 42), (42, o_lload 3 43), (43, o_iload 1 44), (44, o_iload 2 45), (45, o_callP 4 (some 2) [8, 9, 10, 11, 12, 13, 14, 15] (sp_X7_behindTalk2) 48), (48, o_putL 2 2 51), (51, o_lload 3 52), (52, o_aload 0 53), (53, o_getf 4 5 56), (56, o_getf 2 2 59), (59, o_call 2 none (sp_X5_unlike) 62), (62, o_iret)]
theorem me_X9_meet : em_Me T_X9_meet 5 sp_X9_meet := by
  intro Q K hK hle av hp hs
  obtain ⟨by9, tln, tst, ten, mm, fa9, fb9, rf, im, pe, ki, mi, se, we, lea, mst, pa, fi, sd, ev, un, ma, ea, co, ca, clt, Y, a, b, n, nu, rfl, rfl, rfl, hn, rfl, hnu, hb, hq⟩ := hs
  refine ⟨Nat.le_of_ble_eq_true rfl, hK 0 9999 0 _ _ _ ?_⟩
  refine ⟨_, _, _, _, _, _, _, _, _, _, _, _, _, _, _, _, _, a, b, rfl, rfl, fun z => ?_, fun z => ?_⟩
  · refine ⟨fun _ => ?_, fun y => absurd y (by decide)⟩
    obtain ⟨i, hi, rfl⟩ := nI_at rfl z.1
    obtain ⟨j, hj, rfl⟩ := nI_at rfl z.2.1
    have hij : i ≠ j := fun q => z.2.2 (by rw [q])
    refine ⟨_, _, _, _, _, _, _, _, _, _, _, _, _, _, _, _, _, nu, rfl, rfl, rfl, hnu, ?_⟩
    exact ⟨_, _, _, _, _, _, _, _, _, _, _, _, _, _, _, _, _, mi, i, j, n, rfl, rfl, rfl, hn, by omega, by omega, _, _, rfl, hq i j rfl rfl hi hj hij⟩
  · refine ⟨fun y => absurd rfl y, fun _ => ?_⟩
    exact ⟨_, _, _, _, _, _, _, _, _, _, _, _, _, _, _, _, _, _, _, _, _, _, _, _, _, _, _, _, rfl, rfl, hb z⟩
abbrev rm_X9_meet : Room := { frames := 3, cells := 0, slots := 0, locals := 81 }
set_option maxRecDepth 100000 in
set_option maxHeartbeats 4000000 in
theorem ct_X9_meet (l : Launch) (D : va_G) (dA : Nat → ClassId) (σ : Nat → Nat) : em_CT l D em_cl dA σ (em_F σ) y_X9_meet c_X9_meet 5 (Option.some ClassFile.FieldType.int) rm_X9_meet (sp_X9_meet ) := by
  refine em_CT_of (T := T_X9_meet ) (em_F_ok σ) (by decide) (fun p e s m args below meth c A ρ Q C hFok hF hret hlk hin => ?_) (me_X9_meet )
  unfold T_X9_meet
  refine List.forall_mem_cons.mpr ⟨s_aload_n C (by decide +kernel : decode c_X9_meet 0 = .ok (.aload_n 0, 1)) rfl rfl rfl, ?_⟩
  refine List.forall_mem_cons.mpr ⟨s_getf C (by decide +kernel : decode c_X9_meet 1 = .ok (.getfield 41, 3)) rfl rfl em_cl_X9 (by decide) ew157 rfl, ?_⟩
  refine List.forall_mem_cons.mpr ⟨s_iload_n C (by decide +kernel : decode c_X9_meet 4 = .ok (.iload_n 1, 1)) rfl rfl rfl, ?_⟩
  refine List.forall_mem_cons.mpr ⟨s_iload_n C (by decide +kernel : decode c_X9_meet 5 = .ok (.iload_n 2, 1)) rfl rfl rfl, ?_⟩
  refine List.forall_mem_cons.mpr ⟨s_callPV C hFok hF (ct_X7_hasTwo l D dA σ) ⟨rfl, rfl⟩ ew254 em_cl_X7 ew382 ew252 ew253 ew5 ⟨by decide, by decide, by decide +kernel⟩ ⟨by decide, by decide⟩ (by decide +kernel : decode c_X9_meet 6 = .ok (.invokevirtual 113, 3)) rfl rfl ⟨Nat.zero_le _, Nat.zero_le _⟩ (by decide), ?_⟩
  refine List.forall_mem_cons.mpr ⟨s_ifne C (by decide +kernel : decode c_X9_meet 9 = .ok (.ifCond .ne 10, 3)) (by decide) rfl rfl rfl, ?_⟩
  refine List.forall_mem_cons.mpr ⟨s_aload_n C (by decide +kernel : decode c_X9_meet 12 = .ok (.aload_n 0, 1)) rfl rfl rfl, ?_⟩
  refine List.forall_mem_cons.mpr ⟨s_bipush C (by decide +kernel : decode c_X9_meet 13 = .ok (.bipush (-2), 2)) rfl rfl (by decide), ?_⟩
  refine List.forall_mem_cons.mpr ⟨s_callV C hFok hF (ct_X9_refuse l D dA σ) ⟨rfl, rfl⟩ ew200 em_cl_X9 ew197 ew199 ewp1 ew1 ⟨by decide, by decide, by decide +kernel⟩ ⟨by decide, by decide⟩ (by decide +kernel : decode c_X9_meet 15 = .ok (.invokevirtual 63, 3)) rfl rfl ⟨Nat.zero_le _, Nat.zero_le _⟩, ?_⟩
  refine List.forall_mem_cons.mpr ⟨s_iret C (by decide +kernel : decode c_X9_meet 18 = .ok (.ireturn, 1)) hret hlk ⟨Nat.le_refl 0, Nat.le_refl 0⟩, ?_⟩
  refine List.forall_mem_cons.mpr ⟨s_aload_n C (by decide +kernel : decode c_X9_meet 19 = .ok (.aload_n 0, 1)) rfl rfl rfl, ?_⟩
  refine List.forall_mem_cons.mpr ⟨s_getf C (by decide +kernel : decode c_X9_meet 20 = .ok (.getfield 41, 3)) rfl rfl em_cl_X9 (by decide) ew157 rfl, ?_⟩
  refine List.forall_mem_cons.mpr ⟨s_getf C (by decide +kernel : decode c_X9_meet 23 = .ok (.getfield 103, 3)) rfl rfl em_cl_X7 (by decide) ew94 rfl, ?_⟩
  refine List.forall_mem_cons.mpr ⟨s_lstore_n C (by decide +kernel : decode c_X9_meet 26 = .ok (.lstore_n 3, 1)) rfl rfl rfl (by decide), ?_⟩
  refine List.forall_mem_cons.mpr ⟨s_aload_n C (by decide +kernel : decode c_X9_meet 27 = .ok (.aload_n 0, 1)) rfl rfl rfl, ?_⟩
  refine List.forall_mem_cons.mpr ⟨s_getf C (by decide +kernel : decode c_X9_meet 28 = .ok (.getfield 41, 3)) rfl rfl em_cl_X9 (by decide) ew157 rfl, ?_⟩
  refine List.forall_mem_cons.mpr ⟨s_callPV C hFok hF (ct_X7_remember l D dA σ) ⟨rfl, rfl⟩ ew427 em_cl_X7 ew424 ew425 ew426 ew5 ⟨by decide, by decide, by decide +kernel⟩ ⟨by decide, by decide⟩ (by decide +kernel : decode c_X9_meet 31 = .ok (.invokevirtual 135, 3)) rfl rfl ⟨Nat.zero_le _, Nat.zero_le _⟩ (by decide), ?_⟩
  refine List.forall_mem_cons.mpr ⟨s_aload_n C (by decide +kernel : decode c_X9_meet 34 = .ok (.aload_n 0, 1)) rfl rfl rfl, ?_⟩
  refine List.forall_mem_cons.mpr ⟨s_getf C (by decide +kernel : decode c_X9_meet 35 = .ok (.getfield 41, 3)) rfl rfl em_cl_X9 (by decide) ew157 rfl, ?_⟩
  refine List.forall_mem_cons.mpr ⟨s_aload_n C (by decide +kernel : decode c_X9_meet 38 = .ok (.aload_n 0, 1)) rfl rfl rfl, ?_⟩
  refine List.forall_mem_cons.mpr ⟨s_getf C (by decide +kernel : decode c_X9_meet 39 = .ok (.getfield 41, 3)) rfl rfl em_cl_X9 (by decide) ew157 rfl, ?_⟩
  refine List.forall_mem_cons.mpr ⟨s_lload_n C (by decide +kernel : decode c_X9_meet 42 = .ok (.lload_n 3, 1)) rfl rfl rfl, ?_⟩
  refine List.forall_mem_cons.mpr ⟨s_iload_n C (by decide +kernel : decode c_X9_meet 43 = .ok (.iload_n 1, 1)) rfl rfl rfl, ?_⟩
  refine List.forall_mem_cons.mpr ⟨s_iload_n C (by decide +kernel : decode c_X9_meet 44 = .ok (.iload_n 2, 1)) rfl rfl rfl, ?_⟩
  refine List.forall_mem_cons.mpr ⟨s_callPV C hFok hF (ct_X7_behindTalk2 l D dA σ) ⟨rfl, rfl⟩ ew438 em_cl_X7 ew459 ew436 ew437 ew5 ⟨by decide, by decide, by decide +kernel⟩ ⟨by decide, by decide⟩ (by decide +kernel : decode c_X9_meet 45 = .ok (.invokevirtual 149, 3)) rfl rfl ⟨Nat.zero_le _, Nat.zero_le _⟩ (by decide), ?_⟩
  refine List.forall_mem_cons.mpr ⟨s_putL C (by decide +kernel : decode c_X9_meet 48 = .ok (.putfield 103, 3)) rfl rfl em_cl_X7 (by decide) ew94 rfl (by decide) (by decide +kernel), ?_⟩
  refine List.forall_mem_cons.mpr ⟨s_lload_n C (by decide +kernel : decode c_X9_meet 51 = .ok (.lload_n 3, 1)) rfl rfl rfl, ?_⟩
  refine List.forall_mem_cons.mpr ⟨s_aload_n C (by decide +kernel : decode c_X9_meet 52 = .ok (.aload_n 0, 1)) rfl rfl rfl, ?_⟩
  refine List.forall_mem_cons.mpr ⟨s_getf C (by decide +kernel : decode c_X9_meet 53 = .ok (.getfield 41, 3)) rfl rfl em_cl_X9 (by decide) ew157 rfl, ?_⟩
  refine List.forall_mem_cons.mpr ⟨s_getf C (by decide +kernel : decode c_X9_meet 56 = .ok (.getfield 103, 3)) rfl rfl em_cl_X7 (by decide) ew94 rfl, ?_⟩
  refine List.forall_mem_cons.mpr ⟨s_callS C hFok hF (ct_X5_unlike l D dA σ) ⟨rfl, rfl⟩ ew453 ew451 ew452 ew8 ⟨by decide, by decide, by decide +kernel⟩ ⟨by decide, by decide⟩ (by decide +kernel : decode c_X9_meet 59 = .ok (.invokestatic 145, 3)) rfl rfl ⟨Nat.zero_le _, Nat.zero_le _⟩, ?_⟩
  refine List.forall_mem_cons.mpr ⟨s_iret C (by decide +kernel : decode c_X9_meet 62 = .ok (.ireturn, 1)) hret hlk ⟨Nat.le_refl 0, Nat.le_refl 0⟩, ?_⟩
  exact fun _ h => absurd h List.not_mem_nil
def sp_X9_undo : em_Sp := fun av hp Q => ∃ by9 tln tst ten mm fa9 fb9 rf im pe ki mi se we lea mst pa fi sd ev un ma ea co ca clt Y nu, av = [.ref 0] ∧ hp = (wX by9 tln tst ten mm fa9 fb9 rf im pe ki mi se we lea mst pa fi sd ev un ma ea co ca clt Y) ∧ un = nI nu ∧ nu ≤ 12 ∧ (nu = 0 → Q (some (.int (-3))) (wX by9 tln tst ten mm fa9 fb9 (rfu rf (-3)) im pe ki mi se we lea mst pa fi sd ev un ma ea co ca clt Y)) ∧ (∀ k, nu = k + 1 → Q (some (.int 1)) (wX by9 tln tst ten mm fa9 fb9 rf im pe ki (ma k) se we lea mst pa fi sd (ea k) (nI k) ma ea co ca clt Y))
def T_X9_undo : List (Nat × em_Op) := [(0, o_aload 0 1), (1, o_getf 4 5 4), (4, o_callP 1 (some 2) [8, 9, 10, 11, 12, 13, 14, 15] (sp_X7_takeBack) 7), (7, o_ifeq 14 10), (10, o_iconst 1 11), (11, o_goto 20), (14, o_aload 0 15), (15, o_iconst (-3) 17), (17, o_call 2 (some 4) (sp_X9_refuse) 20), (20, o_iret)]
theorem me_X9_undo : em_Me T_X9_undo 1 sp_X9_undo := by
  intro Q K hK hle av hp hs
  obtain ⟨by9, tln, tst, ten, mm, fa9, fb9, rf, im, pe, ki, mi, se, we, lea, mst, pa, fi, sd, ev, un, ma, ea, co, ca, clt, Y, nu, rfl, rfl, rfl, hnu, h0, h1⟩ := hs
  refine ⟨Nat.le_of_ble_eq_true rfl, hK 0 9999 0 _ _ _ ?_⟩
  refine ⟨_, _, _, _, _, _, _, _, _, _, _, _, _, _, _, _, _, nu, rfl, rfl, rfl, hnu, fun z => ?_, fun k z => ?_⟩
  · refine ⟨fun _ => ?_, fun y => absurd y (by decide)⟩
    exact ⟨_, _, _, _, _, _, _, _, _, _, _, _, _, _, _, _, _, _, _, _, _, _, _, _, _, _, _, _, rfl, rfl, h0 z⟩
  · exact ⟨fun y => absurd y (by decide), fun _ => h1 k z⟩
abbrev rm_X9_undo : Room := { frames := 1, cells := 0, slots := 0, locals := 21 }
set_option maxRecDepth 100000 in
set_option maxHeartbeats 4000000 in
theorem ct_X9_undo (l : Launch) (D : va_G) (dA : Nat → ClassId) (σ : Nat → Nat) : em_CT l D em_cl dA σ (em_F σ) y_X9_undo c_X9_undo 1 (Option.some ClassFile.FieldType.int) rm_X9_undo (sp_X9_undo ) := by
  refine em_CT_of (T := T_X9_undo ) (em_F_ok σ) (by decide) (fun p e s m args below meth c A ρ Q C hFok hF hret hlk hin => ?_) (me_X9_undo )
  unfold T_X9_undo
  refine List.forall_mem_cons.mpr ⟨s_aload_n C (by decide +kernel : decode c_X9_undo 0 = .ok (.aload_n 0, 1)) rfl rfl rfl, ?_⟩
  refine List.forall_mem_cons.mpr ⟨s_getf C (by decide +kernel : decode c_X9_undo 1 = .ok (.getfield 41, 3)) rfl rfl em_cl_X9 (by decide) ew157 rfl, ?_⟩
  refine List.forall_mem_cons.mpr ⟨s_callPV C hFok hF (ct_X7_takeBack l D dA σ) ⟨rfl, rfl⟩ ew467 em_cl_X7 ew464 ew465 ew466 ew5 ⟨by decide, by decide, by decide +kernel⟩ ⟨by decide, by decide⟩ (by decide +kernel : decode c_X9_undo 4 = .ok (.invokevirtual 153, 3)) rfl rfl ⟨Nat.zero_le _, Nat.zero_le _⟩ (by decide), ?_⟩
  refine List.forall_mem_cons.mpr ⟨s_ifeq C (by decide +kernel : decode c_X9_undo 7 = .ok (.ifCond .eq 7, 3)) (by decide) rfl rfl rfl, ?_⟩
  refine List.forall_mem_cons.mpr ⟨s_iconst C (by decide +kernel : decode c_X9_undo 10 = .ok (.iconst 1, 1)) rfl rfl (by decide), ?_⟩
  refine List.forall_mem_cons.mpr ⟨s_goto C (by decide +kernel : decode c_X9_undo 11 = .ok (.goto 9, 3)) (by decide) rfl, ?_⟩
  refine List.forall_mem_cons.mpr ⟨s_aload_n C (by decide +kernel : decode c_X9_undo 14 = .ok (.aload_n 0, 1)) rfl rfl rfl, ?_⟩
  refine List.forall_mem_cons.mpr ⟨s_bipush C (by decide +kernel : decode c_X9_undo 15 = .ok (.bipush (-3), 2)) rfl rfl (by decide), ?_⟩
  refine List.forall_mem_cons.mpr ⟨s_callV C hFok hF (ct_X9_refuse l D dA σ) ⟨rfl, rfl⟩ ew200 em_cl_X9 ew197 ew199 ewp1 ew1 ⟨by decide, by decide, by decide +kernel⟩ ⟨by decide, by decide⟩ (by decide +kernel : decode c_X9_undo 17 = .ok (.invokevirtual 63, 3)) rfl rfl ⟨Nat.zero_le _, Nat.zero_le _⟩, ?_⟩
  refine List.forall_mem_cons.mpr ⟨s_iret C (by decide +kernel : decode c_X9_undo 20 = .ok (.ireturn, 1)) hret hlk ⟨Nat.le_refl 0, Nat.le_refl 0⟩, ?_⟩
  exact fun _ h => absurd h List.not_mem_nil
def inm (m : Int32) : Prop := ¬ m < 0 ∧ m ≤ 200
theorem inm_at {m : Int32} (h : inm m) : ∃ k, k ≤ 200 ∧ m = nI k := by
  obtain ⟨j, hj, rfl⟩ := nI_of h.1
  refine ⟨j, ?_, rfl⟩
  have := (nI_leI (b := 200) hj (by omega)).mp h.2
  exact this
def sp_X9_behind : em_Sp := fun av hp Q => ∃ by9 tln tst ten mm fa9 fb9 rf im pe ki mi se we lea mst pa fi sd ev un ma ea co ca clt Y p m n np e0 fa fb, av = [.ref 0, .int p, .int m] ∧ hp = (wX by9 tln tst ten mm fa9 fb9 rf im pe ki mi se we lea mst pa fi sd ev un ma ea co ca clt Y) ∧ pe = nI n ∧ n ≤ 6 ∧ pa = nI np ∧ np ≤ 8 ∧ ev = nI e0 ∧ e0 < 2 ^ 20 ∧ calOk n np fi sd fa fb ∧ (¬ (hs pe p ∧ inm m) → Q (some (.int (-2))) (wX by9 tln tst ten mm fa9 fb9 (rfu rf (-2)) im pe ki mi se we lea mst pa fi sd ev un ma ea co ca clt Y)) ∧ (∀ k mm', hs pe p → m = nI k → k ≤ 200 → Q (some (.int (mo (csm np ki we fa fb e0 mi k) p))) (wX by9 tln tst ten (mm') fa9 fb9 rf im pe ki mi se we lea mst pa fi sd ev un ma ea co ca clt Y))
def T_X9_behind : List (Nat × em_Op) := [(0, o_aload 0 1), (1, o_getf 4 5 4), (4, o_iload 1 5), (5, o_callP 2 (some 2) [8, 9, 10, 11, 12, 13, 14, 15] (sp_X7_has) 8), (8, o_ifeq 22 11), (11, o_iload 2 12), (12, o_iflt 22 15), (15, o_iload 2 16), (16, o_iconst 200 19), (19, o_icmple 29 22), (22, o_aload 0 23), (23, o_iconst (-2) 25), (25, o_call 2 (some 4) (sp_X9_refuse) 28), (28, o_iret), (29, o_aload 0 30), (30, o_getf 4 1 33), (33, o_aload 0 34), (34, o_getf 4 5 37), (37, o_callP 2 (some 0) [3, 4, 8, 9, 10, 11, 12, 13, 14, 15] (sp_X0_follow) 40), (40, o_aload 0 41), (41, o_getf 4 1 44), (44, o_iload 2 45), (45, o_callP 2 (some 0) [3, 4] (sp_X0_mindsBehind) 48), (48, o_iload 1 49), (49, o_call 2 none (sp_X5_of) 52), (52, o_iret)]
theorem me_X9_behind : em_Me T_X9_behind 3 sp_X9_behind := by
  intro Q K hK hle av hp hs
  obtain ⟨by9, tln, tst, ten, mm, fa9, fb9, rf, im, pe, ki, mi, se, we, lea, mst, pa, fi, sd, ev, un, ma, ea, co, ca, clt, Y, p, m, n, np, e0, fa, fb, rfl, rfl, rfl, hn, rfl, hnp, rfl, he0, hcal, hb, hq⟩ := hs
  refine ⟨Nat.le_of_ble_eq_true rfl, hK 0 9999 0 _ _ _ ?_⟩
  refine ⟨_, _, _, _, _, _, _, _, _, _, _, _, _, _, _, _, _, p, rfl, rfl, fun z => ?_, fun z => ?_⟩
  · refine ⟨fun y => absurd y (by decide), fun _ => ?_⟩
    refine ⟨fun y => ⟨_, _, _, _, _, _, _, _, _, _, _, _, _, _, _, _, _, _, _, _, _, _, _, _, _, _, _, _, rfl, rfl, hb (fun q => q.2.1 y)⟩, fun y => ⟨fun x => ?_, fun x => ⟨_, _, _, _, _, _, _, _, _, _, _, _, _, _, _, _, _, _, _, _, _, _, _, _, _, _, _, _, rfl, rfl, hb (fun q => x q.2.2)⟩⟩⟩
    obtain ⟨k, hk, rfl⟩ := inm_at ⟨y, x⟩
    refine ⟨mm, _, _, _, _, _, _, _, _, _, _, _, _, _, _, _, _, _, n, np, e0, fa, fb, rfl, rfl, rfl, hn, rfl, hnp, rfl, he0, hcal, fun mm' hm => ?_⟩
    refine ⟨mm', k, rfl, rfl, hk, ?_⟩
    rw [hm k hk]
    exact ⟨_, _, rfl, hq k mm' z rfl hk⟩
  · refine ⟨fun _ => ?_, fun y => absurd y (by decide)⟩
    exact ⟨_, _, _, _, _, _, _, _, _, _, _, _, _, _, _, _, _, _, _, _, _, _, _, _, _, _, _, _, rfl, rfl, hb (fun q => z q.1)⟩
abbrev rm_X9_behind : Room := { frames := 5, cells := 0, slots := 0, locals := 127 }
set_option maxRecDepth 100000 in
set_option maxHeartbeats 4000000 in
theorem ct_X9_behind (l : Launch) (D : va_G) (dA : Nat → ClassId) (σ : Nat → Nat) : em_CT l D em_cl dA σ (em_F σ) y_X9_behind c_X9_behind 3 (Option.some ClassFile.FieldType.int) rm_X9_behind (sp_X9_behind ) := by
  refine em_CT_of (T := T_X9_behind ) (em_F_ok σ) (by decide) (fun p e s m args below meth c A ρ Q C hFok hF hret hlk hin => ?_) (me_X9_behind )
  unfold T_X9_behind
  refine List.forall_mem_cons.mpr ⟨s_aload_n C (by decide +kernel : decode c_X9_behind 0 = .ok (.aload_n 0, 1)) rfl rfl rfl, ?_⟩
  refine List.forall_mem_cons.mpr ⟨s_getf C (by decide +kernel : decode c_X9_behind 1 = .ok (.getfield 41, 3)) rfl rfl em_cl_X9 (by decide) ew157 rfl, ?_⟩
  refine List.forall_mem_cons.mpr ⟨s_iload_n C (by decide +kernel : decode c_X9_behind 4 = .ok (.iload_n 1, 1)) rfl rfl rfl, ?_⟩
  refine List.forall_mem_cons.mpr ⟨s_callPV C hFok hF (ct_X7_has l D dA σ) ⟨rfl, rfl⟩ ew208 em_cl_X7 ew205 ew206 ew207 ew5 ⟨by decide, by decide, by decide +kernel⟩ ⟨by decide, by decide⟩ (by decide +kernel : decode c_X9_behind 5 = .ok (.invokevirtual 56, 3)) rfl rfl ⟨Nat.zero_le _, Nat.zero_le _⟩ (by decide), ?_⟩
  refine List.forall_mem_cons.mpr ⟨s_ifeq C (by decide +kernel : decode c_X9_behind 8 = .ok (.ifCond .eq 14, 3)) (by decide) rfl rfl rfl, ?_⟩
  refine List.forall_mem_cons.mpr ⟨s_iload_n C (by decide +kernel : decode c_X9_behind 11 = .ok (.iload_n 2, 1)) rfl rfl rfl, ?_⟩
  refine List.forall_mem_cons.mpr ⟨s_iflt C (by decide +kernel : decode c_X9_behind 12 = .ok (.ifCond .lt 10, 3)) (by decide) rfl rfl rfl, ?_⟩
  refine List.forall_mem_cons.mpr ⟨s_iload_n C (by decide +kernel : decode c_X9_behind 15 = .ok (.iload_n 2, 1)) rfl rfl rfl, ?_⟩
  refine List.forall_mem_cons.mpr ⟨s_sipush C (by decide +kernel : decode c_X9_behind 16 = .ok (.sipush 200, 3)) rfl rfl (by decide), ?_⟩
  refine List.forall_mem_cons.mpr ⟨s_icmple C (by decide +kernel : decode c_X9_behind 19 = .ok (.if_icmp .le 10, 3)) (by decide) rfl rfl rfl, ?_⟩
  refine List.forall_mem_cons.mpr ⟨s_aload_n C (by decide +kernel : decode c_X9_behind 22 = .ok (.aload_n 0, 1)) rfl rfl rfl, ?_⟩
  refine List.forall_mem_cons.mpr ⟨s_bipush C (by decide +kernel : decode c_X9_behind 23 = .ok (.bipush (-2), 2)) rfl rfl (by decide), ?_⟩
  refine List.forall_mem_cons.mpr ⟨s_callV C hFok hF (ct_X9_refuse l D dA σ) ⟨rfl, rfl⟩ ew200 em_cl_X9 ew197 ew199 ewp1 ew1 ⟨by decide, by decide, by decide +kernel⟩ ⟨by decide, by decide⟩ (by decide +kernel : decode c_X9_behind 25 = .ok (.invokevirtual 63, 3)) rfl rfl ⟨Nat.zero_le _, Nat.zero_le _⟩, ?_⟩
  refine List.forall_mem_cons.mpr ⟨s_iret C (by decide +kernel : decode c_X9_behind 28 = .ok (.ireturn, 1)) hret hlk ⟨Nat.le_refl 0, Nat.le_refl 0⟩, ?_⟩
  refine List.forall_mem_cons.mpr ⟨s_aload_n C (by decide +kernel : decode c_X9_behind 29 = .ok (.aload_n 0, 1)) rfl rfl rfl, ?_⟩
  refine List.forall_mem_cons.mpr ⟨s_getf C (by decide +kernel : decode c_X9_behind 30 = .ok (.getfield 19, 3)) rfl rfl em_cl_X9 (by decide) ew153 rfl, ?_⟩
  refine List.forall_mem_cons.mpr ⟨s_aload_n C (by decide +kernel : decode c_X9_behind 33 = .ok (.aload_n 0, 1)) rfl rfl rfl, ?_⟩
  refine List.forall_mem_cons.mpr ⟨s_getf C (by decide +kernel : decode c_X9_behind 34 = .ok (.getfield 41, 3)) rfl rfl em_cl_X9 (by decide) ew157 rfl, ?_⟩
  refine List.forall_mem_cons.mpr ⟨s_callPV C hFok hF (ct_X0_follow l D dA σ) ⟨rfl, rfl⟩ ew475 em_cl_X0 ew472 ew473 ew474 ew3 ⟨by decide, by decide, by decide +kernel⟩ ⟨by decide, by decide⟩ (by decide +kernel : decode c_X9_behind 37 = .ok (.invokevirtual 157, 3)) rfl rfl ⟨Nat.zero_le _, Nat.zero_le _⟩ (by decide), ?_⟩
  refine List.forall_mem_cons.mpr ⟨s_aload_n C (by decide +kernel : decode c_X9_behind 40 = .ok (.aload_n 0, 1)) rfl rfl rfl, ?_⟩
  refine List.forall_mem_cons.mpr ⟨s_getf C (by decide +kernel : decode c_X9_behind 41 = .ok (.getfield 19, 3)) rfl rfl em_cl_X9 (by decide) ew153 rfl, ?_⟩
  refine List.forall_mem_cons.mpr ⟨s_iload_n C (by decide +kernel : decode c_X9_behind 44 = .ok (.iload_n 2, 1)) rfl rfl rfl, ?_⟩
  refine List.forall_mem_cons.mpr ⟨s_callPV C hFok hF (ct_X0_mindsBehind l D dA σ) ⟨rfl, rfl⟩ ew480 em_cl_X0 ew477 ew478 ew479 ew3 ⟨by decide, by decide, by decide +kernel⟩ ⟨by decide, by decide⟩ (by decide +kernel : decode c_X9_behind 45 = .ok (.invokevirtual 161, 3)) rfl rfl ⟨Nat.zero_le _, Nat.zero_le _⟩ (by decide), ?_⟩
  refine List.forall_mem_cons.mpr ⟨s_iload_n C (by decide +kernel : decode c_X9_behind 48 = .ok (.iload_n 1, 1)) rfl rfl rfl, ?_⟩
  refine List.forall_mem_cons.mpr ⟨s_callS C hFok hF (ct_X5_of l D dA σ) ⟨rfl, rfl⟩ ew216 ew377 ew215 ew8 ⟨by decide, by decide, by decide +kernel⟩ ⟨by decide, by decide⟩ (by decide +kernel : decode c_X9_behind 49 = .ok (.invokestatic 107, 3)) rfl rfl ⟨Nat.zero_le _, Nat.zero_le _⟩, ?_⟩
  refine List.forall_mem_cons.mpr ⟨s_iret C (by decide +kernel : decode c_X9_behind 52 = .ok (.ireturn, 1)) hret hlk ⟨Nat.le_refl 0, Nat.le_refl 0⟩, ?_⟩
  exact fun _ h => absurd h List.not_mem_nil
theorem ffd_congr {P P' : Nat → Bool} {N : Nat} (h : ∀ t, t < N → P t = P' t) : ∀ r, r ≤ N → ffd P N r = ffd P' N r
  | 0, _ => rfl
  | r + 1, hr => by
    rw [ffd, ffd, h _ (by omega), ffd_congr h r (by omega)]
/-- the first evening behind which two are not lawful -/
def lst9 (np n : Nat) (ki : Nat → Int32) (we lea mst : Int32) (fa fb : Nat → Nat) (e0 : Nat) (mi : Int64) (a b : Nat) : Option Nat := ffd (fun t => !mwB we lea mst (csm np ki we fa fb e0 mi t) a b) 201 201
def sp_X9_lasts : em_Sp := fun av hp Q => ∃ by9 tln tst ten mm fa9 fb9 rf im pe ki mi se we lea mst pa fi sd ev un ma ea co ca clt Y a b n np e0 fa fb, av = [.ref 0, .int a, .int b] ∧ hp = (wX by9 tln tst ten mm fa9 fb9 rf im pe ki mi se we lea mst pa fi sd ev un ma ea co ca clt Y) ∧ pe = nI n ∧ n ≤ 6 ∧ pa = nI np ∧ np ≤ 8 ∧ ev = nI e0 ∧ e0 < 2 ^ 20 ∧ calOk n np fi sd fa fb ∧ (¬ h2 pe a b → Q (some (.int (-2))) (wX by9 tln tst ten mm fa9 fb9 (rfu rf (-2)) im pe ki mi se we lea mst pa fi sd ev un ma ea co ca clt Y)) ∧ (∀ i j mm', a = nI i → b = nI j → i < n → j < n → i ≠ j → Q (some (.int (oI (lst9 np n ki we lea mst fa fb e0 mi i j)))) (wX by9 tln tst ten (mm') fa9 fb9 rf im pe ki mi se we lea mst pa fi sd ev un ma ea co ca clt Y))
def T_X9_lasts : List (Nat × em_Op) := [(0, o_aload 0 1), (1, o_getf 4 5 4), (4, o_iload 1 5), (5, o_iload 2 6), (6, o_callP 3 (some 2) [8, 9, 10, 11, 12, 13, 14, 15] (sp_X7_hasTwo) 9), (9, o_ifne 19 12), (12, o_aload 0 13), (13, o_iconst (-2) 15), (15, o_call 2 (some 4) (sp_X9_refuse) 18), (18, o_iret), (19, o_aload 0 20), (20, o_getf 4 1 23), (23, o_aload 0 24), (24, o_getf 4 5 27), (27, o_callP 2 (some 0) [3, 4, 8, 9, 10, 11, 12, 13, 14, 15] (sp_X0_follow) 30), (30, o_aload 0 31), (31, o_getf 4 1 34), (34, o_aload 0 35), (35, o_getf 4 5 38), (38, o_iload 1 39), (39, o_iload 2 40), (40, o_callP 4 (some 0) [3, 4, 8, 9, 10, 11, 12, 13, 14, 15] (sp_X0_parted) 43), (43, o_iret)]
theorem me_X9_lasts : em_Me T_X9_lasts 3 sp_X9_lasts := by
  intro Q K hK hle av hp hs
  obtain ⟨by9, tln, tst, ten, mm, fa9, fb9, rf, im, pe, ki, mi, se, we, lea, mst, pa, fi, sd, ev, un, ma, ea, co, ca, clt, Y, a, b, n, np, e0, fa, fb, rfl, rfl, rfl, hn, rfl, hnp, rfl, he0, hcal, hb, hq⟩ := hs
  refine ⟨Nat.le_of_ble_eq_true rfl, hK 0 9999 0 _ _ _ ?_⟩
  refine ⟨_, _, _, _, _, _, _, _, _, _, _, _, _, _, _, _, _, a, b, rfl, rfl, fun z => ?_, fun z => ?_⟩
  · refine ⟨fun _ => ?_, fun y => absurd y (by decide)⟩
    obtain ⟨i, hi, rfl⟩ := nI_at rfl z.1
    obtain ⟨j, hj, rfl⟩ := nI_at rfl z.2.1
    have hij : i ≠ j := fun q => z.2.2 (by rw [q])
    refine ⟨mm, _, _, _, _, _, _, _, _, _, _, _, _, _, _, _, _, _, n, np, e0, fa, fb, rfl, rfl, rfl, hn, rfl, hnp, rfl, he0, hcal, fun mm' hm => ?_⟩
    refine ⟨mm', _, _, _, _, _, _, _, _, _, _, _, _, _, _, _, _, _, i, j, rfl, rfl, ?_⟩
    rw [ffd_congr (P' := fun t => !mwB we lea mst (csm np ki we fa fb e0 mi t) i j) (fun t ht => by show (!mwB we lea mst (mm' t) i j) = _; rw [hm t (by omega)]) 201 (Nat.le_refl _)]
    exact hq i j mm' rfl rfl hi hj hij
  · refine ⟨fun y => absurd rfl y, fun _ => ?_⟩
    exact ⟨_, _, _, _, _, _, _, _, _, _, _, _, _, _, _, _, _, _, _, _, _, _, _, _, _, _, _, _, rfl, rfl, hb z⟩
abbrev rm_X9_lasts : Room := { frames := 5, cells := 0, slots := 0, locals := 127 }
set_option maxRecDepth 100000 in
set_option maxHeartbeats 4000000 in
theorem ct_X9_lasts (l : Launch) (D : va_G) (dA : Nat → ClassId) (σ : Nat → Nat) : em_CT l D em_cl dA σ (em_F σ) y_X9_lasts c_X9_lasts 3 (Option.some ClassFile.FieldType.int) rm_X9_lasts (sp_X9_lasts ) := by
  refine em_CT_of (T := T_X9_lasts ) (em_F_ok σ) (by decide) (fun p e s m args below meth c A ρ Q C hFok hF hret hlk hin => ?_) (me_X9_lasts )
  unfold T_X9_lasts
  refine List.forall_mem_cons.mpr ⟨s_aload_n C (by decide +kernel : decode c_X9_lasts 0 = .ok (.aload_n 0, 1)) rfl rfl rfl, ?_⟩
  refine List.forall_mem_cons.mpr ⟨s_getf C (by decide +kernel : decode c_X9_lasts 1 = .ok (.getfield 41, 3)) rfl rfl em_cl_X9 (by decide) ew157 rfl, ?_⟩
  refine List.forall_mem_cons.mpr ⟨s_iload_n C (by decide +kernel : decode c_X9_lasts 4 = .ok (.iload_n 1, 1)) rfl rfl rfl, ?_⟩
  refine List.forall_mem_cons.mpr ⟨s_iload_n C (by decide +kernel : decode c_X9_lasts 5 = .ok (.iload_n 2, 1)) rfl rfl rfl, ?_⟩
  refine List.forall_mem_cons.mpr ⟨s_callPV C hFok hF (ct_X7_hasTwo l D dA σ) ⟨rfl, rfl⟩ ew254 em_cl_X7 ew382 ew252 ew253 ew5 ⟨by decide, by decide, by decide +kernel⟩ ⟨by decide, by decide⟩ (by decide +kernel : decode c_X9_lasts 6 = .ok (.invokevirtual 113, 3)) rfl rfl ⟨Nat.zero_le _, Nat.zero_le _⟩ (by decide), ?_⟩
  refine List.forall_mem_cons.mpr ⟨s_ifne C (by decide +kernel : decode c_X9_lasts 9 = .ok (.ifCond .ne 10, 3)) (by decide) rfl rfl rfl, ?_⟩
  refine List.forall_mem_cons.mpr ⟨s_aload_n C (by decide +kernel : decode c_X9_lasts 12 = .ok (.aload_n 0, 1)) rfl rfl rfl, ?_⟩
  refine List.forall_mem_cons.mpr ⟨s_bipush C (by decide +kernel : decode c_X9_lasts 13 = .ok (.bipush (-2), 2)) rfl rfl (by decide), ?_⟩
  refine List.forall_mem_cons.mpr ⟨s_callV C hFok hF (ct_X9_refuse l D dA σ) ⟨rfl, rfl⟩ ew200 em_cl_X9 ew197 ew199 ewp1 ew1 ⟨by decide, by decide, by decide +kernel⟩ ⟨by decide, by decide⟩ (by decide +kernel : decode c_X9_lasts 15 = .ok (.invokevirtual 63, 3)) rfl rfl ⟨Nat.zero_le _, Nat.zero_le _⟩, ?_⟩
  refine List.forall_mem_cons.mpr ⟨s_iret C (by decide +kernel : decode c_X9_lasts 18 = .ok (.ireturn, 1)) hret hlk ⟨Nat.le_refl 0, Nat.le_refl 0⟩, ?_⟩
  refine List.forall_mem_cons.mpr ⟨s_aload_n C (by decide +kernel : decode c_X9_lasts 19 = .ok (.aload_n 0, 1)) rfl rfl rfl, ?_⟩
  refine List.forall_mem_cons.mpr ⟨s_getf C (by decide +kernel : decode c_X9_lasts 20 = .ok (.getfield 19, 3)) rfl rfl em_cl_X9 (by decide) ew153 rfl, ?_⟩
  refine List.forall_mem_cons.mpr ⟨s_aload_n C (by decide +kernel : decode c_X9_lasts 23 = .ok (.aload_n 0, 1)) rfl rfl rfl, ?_⟩
  refine List.forall_mem_cons.mpr ⟨s_getf C (by decide +kernel : decode c_X9_lasts 24 = .ok (.getfield 41, 3)) rfl rfl em_cl_X9 (by decide) ew157 rfl, ?_⟩
  refine List.forall_mem_cons.mpr ⟨s_callPV C hFok hF (ct_X0_follow l D dA σ) ⟨rfl, rfl⟩ ew475 em_cl_X0 ew472 ew473 ew474 ew3 ⟨by decide, by decide, by decide +kernel⟩ ⟨by decide, by decide⟩ (by decide +kernel : decode c_X9_lasts 27 = .ok (.invokevirtual 157, 3)) rfl rfl ⟨Nat.zero_le _, Nat.zero_le _⟩ (by decide), ?_⟩
  refine List.forall_mem_cons.mpr ⟨s_aload_n C (by decide +kernel : decode c_X9_lasts 30 = .ok (.aload_n 0, 1)) rfl rfl rfl, ?_⟩
  refine List.forall_mem_cons.mpr ⟨s_getf C (by decide +kernel : decode c_X9_lasts 31 = .ok (.getfield 19, 3)) rfl rfl em_cl_X9 (by decide) ew153 rfl, ?_⟩
  refine List.forall_mem_cons.mpr ⟨s_aload_n C (by decide +kernel : decode c_X9_lasts 34 = .ok (.aload_n 0, 1)) rfl rfl rfl, ?_⟩
  refine List.forall_mem_cons.mpr ⟨s_getf C (by decide +kernel : decode c_X9_lasts 35 = .ok (.getfield 41, 3)) rfl rfl em_cl_X9 (by decide) ew157 rfl, ?_⟩
  refine List.forall_mem_cons.mpr ⟨s_iload_n C (by decide +kernel : decode c_X9_lasts 38 = .ok (.iload_n 1, 1)) rfl rfl rfl, ?_⟩
  refine List.forall_mem_cons.mpr ⟨s_iload_n C (by decide +kernel : decode c_X9_lasts 39 = .ok (.iload_n 2, 1)) rfl rfl rfl, ?_⟩
  refine List.forall_mem_cons.mpr ⟨s_callPV C hFok hF (ct_X0_parted l D dA σ) ⟨rfl, rfl⟩ ew488 em_cl_X0 ew485 ew486 ew487 ew3 ⟨by decide, by decide, by decide +kernel⟩ ⟨by decide, by decide⟩ (by decide +kernel : decode c_X9_lasts 40 = .ok (.invokevirtual 165, 3)) rfl rfl ⟨Nat.zero_le _, Nat.zero_le _⟩ (by decide), ?_⟩
  refine List.forall_mem_cons.mpr ⟨s_iret C (by decide +kernel : decode c_X9_lasts 43 = .ok (.ireturn, 1)) hret hlk ⟨Nat.le_refl 0, Nat.le_refl 0⟩, ?_⟩
  exact fun _ h => absurd h List.not_mem_nil
def mnd9 (np n : Nat) (ki : Nat → Int32) (we : Int32) (fa fb : Nat → Nat) (e0 : Nat) (mi : Int64) : Option Nat := ffd (fun t => alB (csm np ki we fa fb e0 mi t) n) 201 201
def sp_X9_mind : em_Sp := fun av hp Q => ∃ by9 tln tst ten mm fa9 fb9 rf im pe ki mi se we lea mst pa fi sd ev un ma ea co ca clt Y n np e0 fa fb, av = [.ref 0] ∧ hp = (wX by9 tln tst ten mm fa9 fb9 rf im pe ki mi se we lea mst pa fi sd ev un ma ea co ca clt Y) ∧ pe = nI n ∧ n ≤ 6 ∧ pa = nI np ∧ np ≤ 8 ∧ ev = nI e0 ∧ e0 < 2 ^ 20 ∧ calOk n np fi sd fa fb ∧ (∀ mm', Q (some (.int (oI (mnd9 np n ki we fa fb e0 mi)))) (wX by9 tln tst ten (mm') fa9 fb9 rf im pe ki mi se we lea mst pa fi sd ev un ma ea co ca clt Y))
def T_X9_mind : List (Nat × em_Op) := [(0, o_aload 0 1), (1, o_getf 4 1 4), (4, o_aload 0 5), (5, o_getf 4 5 8), (8, o_callP 2 (some 0) [3, 4, 8, 9, 10, 11, 12, 13, 14, 15] (sp_X0_follow) 11), (11, o_aload 0 12), (12, o_getf 4 1 15), (15, o_aload 0 16), (16, o_getf 4 5 19), (19, o_getf 2 0 22), (22, o_callP 2 (some 0) [3, 4] (sp_X0_oneMind) 25), (25, o_iret)]
theorem me_X9_mind : em_Me T_X9_mind 1 sp_X9_mind := by
  intro Q K hK hle av hp hs
  obtain ⟨by9, tln, tst, ten, mm, fa9, fb9, rf, im, pe, ki, mi, se, we, lea, mst, pa, fi, sd, ev, un, ma, ea, co, ca, clt, Y, n, np, e0, fa, fb, rfl, rfl, rfl, hn, rfl, hnp, rfl, he0, hcal, hq⟩ := hs
  refine ⟨Nat.le_of_ble_eq_true rfl, hK 0 9999 0 _ _ _ ?_⟩
  refine ⟨mm, _, _, _, _, _, _, _, _, _, _, _, _, _, _, _, _, _, n, np, e0, fa, fb, rfl, rfl, rfl, hn, rfl, hnp, rfl, he0, hcal, fun mm' hm => ?_⟩
  refine ⟨mm', n, rfl, rfl, hn, ?_⟩
  rw [ffd_congr (P' := fun t => alB (csm np ki we fa fb e0 mi t) n) (fun t ht => by show alB (mm' t) n = _; rw [hm t (by omega)]) 201 (Nat.le_refl _)]
  exact hq mm'
abbrev rm_X9_mind : Room := { frames := 5, cells := 0, slots := 0, locals := 127 }
set_option maxRecDepth 100000 in
set_option maxHeartbeats 4000000 in
theorem ct_X9_mind (l : Launch) (D : va_G) (dA : Nat → ClassId) (σ : Nat → Nat) : em_CT l D em_cl dA σ (em_F σ) y_X9_mind c_X9_mind 1 (Option.some ClassFile.FieldType.int) rm_X9_mind (sp_X9_mind ) := by
  refine em_CT_of (T := T_X9_mind ) (em_F_ok σ) (by decide) (fun p e s m args below meth c A ρ Q C hFok hF hret hlk hin => ?_) (me_X9_mind )
  unfold T_X9_mind
  refine List.forall_mem_cons.mpr ⟨s_aload_n C (by decide +kernel : decode c_X9_mind 0 = .ok (.aload_n 0, 1)) rfl rfl rfl, ?_⟩
  refine List.forall_mem_cons.mpr ⟨s_getf C (by decide +kernel : decode c_X9_mind 1 = .ok (.getfield 19, 3)) rfl rfl em_cl_X9 (by decide) ew153 rfl, ?_⟩
  refine List.forall_mem_cons.mpr ⟨s_aload_n C (by decide +kernel : decode c_X9_mind 4 = .ok (.aload_n 0, 1)) rfl rfl rfl, ?_⟩
  refine List.forall_mem_cons.mpr ⟨s_getf C (by decide +kernel : decode c_X9_mind 5 = .ok (.getfield 41, 3)) rfl rfl em_cl_X9 (by decide) ew157 rfl, ?_⟩
  refine List.forall_mem_cons.mpr ⟨s_callPV C hFok hF (ct_X0_follow l D dA σ) ⟨rfl, rfl⟩ ew475 em_cl_X0 ew472 ew473 ew474 ew3 ⟨by decide, by decide, by decide +kernel⟩ ⟨by decide, by decide⟩ (by decide +kernel : decode c_X9_mind 8 = .ok (.invokevirtual 157, 3)) rfl rfl ⟨Nat.zero_le _, Nat.zero_le _⟩ (by decide), ?_⟩
  refine List.forall_mem_cons.mpr ⟨s_aload_n C (by decide +kernel : decode c_X9_mind 11 = .ok (.aload_n 0, 1)) rfl rfl rfl, ?_⟩
  refine List.forall_mem_cons.mpr ⟨s_getf C (by decide +kernel : decode c_X9_mind 12 = .ok (.getfield 19, 3)) rfl rfl em_cl_X9 (by decide) ew153 rfl, ?_⟩
  refine List.forall_mem_cons.mpr ⟨s_aload_n C (by decide +kernel : decode c_X9_mind 15 = .ok (.aload_n 0, 1)) rfl rfl rfl, ?_⟩
  refine List.forall_mem_cons.mpr ⟨s_getf C (by decide +kernel : decode c_X9_mind 16 = .ok (.getfield 41, 3)) rfl rfl em_cl_X9 (by decide) ew157 rfl, ?_⟩
  refine List.forall_mem_cons.mpr ⟨s_getf C (by decide +kernel : decode c_X9_mind 19 = .ok (.getfield 120, 3)) rfl rfl em_cl_X7 (by decide) ew88 rfl, ?_⟩
  refine List.forall_mem_cons.mpr ⟨s_callPV C hFok hF (ct_X0_oneMind l D dA σ) ⟨rfl, rfl⟩ ew508 em_cl_X0 ew505 ew506 ew507 ew3 ⟨by decide, by decide, by decide +kernel⟩ ⟨by decide, by decide⟩ (by decide +kernel : decode c_X9_mind 22 = .ok (.invokevirtual 177, 3)) rfl rfl ⟨Nat.zero_le _, Nat.zero_le _⟩ (by decide), ?_⟩
  refine List.forall_mem_cons.mpr ⟨s_iret C (by decide +kernel : decode c_X9_mind 25 = .ok (.ireturn, 1)) hret hlk ⟨Nat.le_refl 0, Nat.le_refl 0⟩, ?_⟩
  exact fun _ h => absurd h List.not_mem_nil
theorem upd_back (f : Nat → Int32) (k : Nat) (x : Int32) : upd (upd f k x) k (f k) = f := by
  funext j
  simp only [upd]
  by_cases h : j = k
  · rw [if_pos h, h]
  · rw [if_neg h, if_neg h]
def stp9 (np n : Nat) (ki : Nat → Int32) (we : Int32) (fa fb : Nat → Nat) (e0 : Nat) (mi : Int64) : Option Nat :=
  match mnd9 np n ki we fa fb e0 mi with
  | none => none
  | some _ => ffd (fun p => (mnd9 np n (upd ki p 4) we fa fb e0 mi).isNone) n n
theorem oI_m1 {o : Option Nat} (h : ∀ d, o = some d → d < 2 ^ 31) : (oI o = -1 ↔ o = none) := by
  cases o with
  | none => exact ⟨fun _ => rfl, fun _ => rfl⟩
  | some d => exact ⟨fun q => absurd q (nI_m1 (h d rfl)), fun q => by cases q⟩
theorem mnd9_lt {np n : Nat} {ki : Nat → Int32} {we : Int32} {fa fb : Nat → Nat} {e0 : Nat} {mi : Int64} : ∀ d, mnd9 np n ki we fa fb e0 mi = some d → d < 2 ^ 31 := fun d h => Nat.lt_trans (ffd_lt 201 d (Nat.le_refl _) h) (by omega)
def sp_X9_stops : em_Sp := fun av hp Q => ∃ by9 tln tst ten mm fa9 fb9 rf im pe ki mi se we lea mst pa fi sd ev un ma ea co ca clt Y n np e0 fa fb, av = [.ref 0] ∧ hp = (wX by9 tln tst ten mm fa9 fb9 rf im pe ki mi se we lea mst pa fi sd ev un ma ea co ca clt Y) ∧ pe = nI n ∧ n ≤ 6 ∧ pa = nI np ∧ np ≤ 8 ∧ ev = nI e0 ∧ e0 < 2 ^ 20 ∧ calOk n np fi sd fa fb ∧ (∀ mm', Q (some (.int (oI (stp9 np n ki we fa fb e0 mi)))) (wX by9 tln tst ten (mm') fa9 fb9 rf im pe ki mi se we lea mst pa fi sd ev un ma ea co ca clt Y))
def T_X9_stops : List (Nat × em_Op) := [(0, o_aload 0 1), (1, o_call 1 (some 4) (sp_X9_mind) 4), (4, o_iconst (-1) 5), (5, o_icmpne 10 8), (8, o_iconst (-1) 9), (9, o_iret), (10, o_iconst 0 11), (11, o_istore 1 12), (12, o_iload 1 13), (13, o_aload 0 14), (14, o_getf 4 5 17), (17, o_getf 2 0 20), (20, o_icmpge 80 23), (23, o_aload 0 24), (24, o_getf 4 5 27), (27, o_iload 1 28), (28, o_iconst 4 29), (29, o_callP 3 (some 2) [8, 9, 10, 11, 12, 13, 14, 15] (sp_X7_turn) 32), (32, o_istore 2 33), (33, o_aload 0 34), (34, o_getf 4 1 37), (37, o_aload 0 38), (38, o_getf 4 5 41), (41, o_callP 2 (some 0) [3, 4, 8, 9, 10, 11, 12, 13, 14, 15] (sp_X0_follow) 44), (44, o_aload 0 45), (45, o_getf 4 5 48), (48, o_iload 1 49), (49, o_iload 2 50), (50, o_callP 3 (some 2) [8, 9, 10, 11, 12, 13, 14, 15] (sp_X7_turn) 53), (53, o_pop 54), (54, o_aload 0 55), (55, o_getf 4 1 58), (58, o_aload 0 59), (59, o_getf 4 5 62), (62, o_getf 2 0 65), (65, o_callP 2 (some 0) [3, 4] (sp_X0_oneMind) 68), (68, o_iconst (-1) 69), (69, o_icmpne 74 72), (72, o_iload 1 73), (73, o_iret), (74, o_iinc 1 1 77), (77, o_goto 12), (80, o_iconst (-1) 81), (81, o_iret)]
theorem me_X9_stops : em_Me T_X9_stops 3 sp_X9_stops := by
  intro Q K hK hle av hp hs
  obtain ⟨by9, tln, tst, ten, mm, fa9, fb9, rf, im, pe, ki, mi, se, we, lea, mst, pa, fi, sd, ev, un, ma, ea, co, ca, clt, Y, n, np, e0, fa, fb, rfl, rfl, rfl, hn, rfl, hnp, rfl, he0, hcal, hq⟩ := hs
  refine ⟨Nat.le_of_ble_eq_true rfl, ?_⟩
  refine hK 0 8 0 _ _ _ ?_
  refine ⟨_, _, _, _, _, _, _, _, _, _, _, _, _, _, _, _, _, _, _, _, _, _, _, _, _, _, _, n, np, e0, fa, fb, rfl, rfl, rfl, hn, rfl, hnp, rfl, he0, hcal, fun mm1 => ?_⟩
  rw [stp9] at hq
  cases hm : mnd9 np n ki we fa fb e0 mi with
  | none =>
    rw [hm] at hq
    exact ⟨fun z => absurd rfl z, fun _ => hq mm1⟩
  | some d0 =>
    rw [hm] at hq
    refine ⟨fun _ => ?_, fun z => absurd z (nI_m1 (mnd9_lt d0 hm))⟩
    obtain ⟨V, hV⟩ : ∃ V, V = ffd (fun p => (mnd9 np n (upd ki p 4) we fa fb e0 mi).isNone) n n := ⟨_, rfl⟩
    have hq : ∀ mm', Q (some (.int (oI V))) (wX by9 tln tst ten (mm') fa9 fb9 rf im (nI n) ki mi se we lea mst (nI np) fi sd (nI e0) un ma ea co ca clt Y) := fun mm' => by rw [hV]; exact hq mm'
    have loop : ∀ (r : Nat) (mm2 : Nat → Int64), r ≤ n → V = ffd (fun p => (mnd9 np n (upd ki p 4) we fa fb e0 mi).isNone) n r → K 12 [some (.ref 0), some (.int (nI (n - r))), none] [] (wX by9 tln tst ten (mm2) fa9 fb9 rf im (nI n) ki mi se we lea mst (nI np) fi sd (nI e0) un ma ea co ca clt Y) := by
      intro r
      induction r with
      | zero =>
        intro mm2 hr hv
        have hq := hq mm2
        rw [hv] at hq
        refine hK 8 9999 12 _ _ _ ?_
        exact ⟨fun _ => hq, fun y => absurd (nI_le (a := n) (b := n - 0) (by omega) (by omega)) y⟩
      | succ r ih =>
        intro mm2 hr hv
        rw [ffd] at hv
        refine hK 8 9999 12 _ _ _ ?_
        refine ⟨fun y => absurd y (nI_ge (a := n - (r + 1)) (b := n) (by omega) (by omega)), fun _ => ?_⟩
        refine ⟨_, _, _, _, _, _, _, _, _, _, _, _, _, _, _, _, _, _, _, n, rfl, rfl, rfl, hn, fun y => absurd (hs_nI (by omega) (by omega)) y, fun j e hj => ?_⟩
        have e := (nI_eq (by omega) (by omega)).mp e
        subst e
        refine ⟨mm2, _, _, _, _, _, _, _, _, _, _, _, _, _, _, _, _, _, n, np, e0, fa, fb, rfl, rfl, rfl, hn, rfl, hnp, rfl, he0, hcal, fun mm3 hm3 => ?_⟩
        refine ⟨_, _, _, _, _, _, _, _, _, _, _, _, _, _, _, _, _, _, _, n, rfl, rfl, rfl, hn, fun y => absurd (hs_nI (by omega) (by omega)) y, fun j e hj => ?_⟩
        have e := (nI_eq (by omega) (by omega)).mp e
        subst e
        rw [upd_back]
        refine ⟨mm3, n, rfl, rfl, hn, ?_⟩
        rw [ffd_congr (P' := fun t => alB (csm np (upd ki (n - (r + 1)) 4) we fa fb e0 mi t) n) (fun t ht => by show alB (mm3 t) n = _; rw [hm3 t (by omega)]) 201 (Nat.le_refl _)]
        show (¬ oI (mnd9 np n (upd ki (n - (r + 1)) 4) we fa fb e0 mi) = -1 → _) ∧ (oI (mnd9 np n (upd ki (n - (r + 1)) 4) we fa fb e0 mi) = -1 → _)
        cases hm4 : mnd9 np n (upd ki (n - (r + 1)) 4) we fa fb e0 mi with
        | none =>
          rw [if_pos (by rw [hm4]; rfl)] at hv
          have hq := hq mm3
          rw [hv] at hq
          exact ⟨fun z => absurd rfl z, fun _ => hq⟩
        | some d4 =>
          rw [if_neg (by rw [hm4]; exact Bool.false_ne_true)] at hv
          refine ⟨fun _ => ?_, fun z => absurd z (nI_m1 (mnd9_lt d4 hm4))⟩
          have := ih mm3 (by omega) hv
          rw [show n - r = (n - (r + 1)) + 1 by omega, ← nI_1 (n - (r + 1))] at this
          exact hle _ _ _ _ _ (by repeat (first | exact trivial | refine ⟨rfl, ?_⟩)) this
    have := loop n mm1 (Nat.le_refl _) hV
    rw [Nat.sub_self] at this
    exact this
abbrev rm_X9_stops : Room := { frames := 6, cells := 0, slots := 0, locals := 147 }
set_option maxRecDepth 100000 in
set_option maxHeartbeats 4000000 in
theorem ct_X9_stops (l : Launch) (D : va_G) (dA : Nat → ClassId) (σ : Nat → Nat) : em_CT l D em_cl dA σ (em_F σ) y_X9_stops c_X9_stops 3 (Option.some ClassFile.FieldType.int) rm_X9_stops (sp_X9_stops ) := by
  refine em_CT_of (T := T_X9_stops ) (em_F_ok σ) (by decide) (fun p e s m args below meth c A ρ Q C hFok hF hret hlk hin => ?_) (me_X9_stops )
  unfold T_X9_stops
  refine List.forall_mem_cons.mpr ⟨s_aload_n C (by decide +kernel : decode c_X9_stops 0 = .ok (.aload_n 0, 1)) rfl rfl rfl, ?_⟩
  refine List.forall_mem_cons.mpr ⟨s_callV C hFok hF (ct_X9_mind l D dA σ) ⟨rfl, rfl⟩ ew504 em_cl_X9 ew516 ew502 ew503 ew1 ⟨by decide, by decide, by decide +kernel⟩ ⟨by decide, by decide⟩ (by decide +kernel : decode c_X9_stops 1 = .ok (.invokevirtual 180, 3)) rfl rfl ⟨Nat.zero_le _, Nat.zero_le _⟩, ?_⟩
  refine List.forall_mem_cons.mpr ⟨s_iconst C (by decide +kernel : decode c_X9_stops 4 = .ok (.iconst (-1), 1)) rfl rfl (by decide), ?_⟩
  refine List.forall_mem_cons.mpr ⟨s_icmpne C (by decide +kernel : decode c_X9_stops 5 = .ok (.if_icmp .ne 5, 3)) (by decide) rfl rfl rfl, ?_⟩
  refine List.forall_mem_cons.mpr ⟨s_iconst C (by decide +kernel : decode c_X9_stops 8 = .ok (.iconst (-1), 1)) rfl rfl (by decide), ?_⟩
  refine List.forall_mem_cons.mpr ⟨s_iret C (by decide +kernel : decode c_X9_stops 9 = .ok (.ireturn, 1)) hret hlk ⟨Nat.le_refl 0, Nat.le_refl 0⟩, ?_⟩
  refine List.forall_mem_cons.mpr ⟨s_iconst C (by decide +kernel : decode c_X9_stops 10 = .ok (.iconst 0, 1)) rfl rfl (by decide), ?_⟩
  refine List.forall_mem_cons.mpr ⟨s_istore_n C (by decide +kernel : decode c_X9_stops 11 = .ok (.istore_n 1, 1)) rfl rfl rfl (by decide), ?_⟩
  refine List.forall_mem_cons.mpr ⟨s_iload_n C (by decide +kernel : decode c_X9_stops 12 = .ok (.iload_n 1, 1)) rfl rfl rfl, ?_⟩
  refine List.forall_mem_cons.mpr ⟨s_aload_n C (by decide +kernel : decode c_X9_stops 13 = .ok (.aload_n 0, 1)) rfl rfl rfl, ?_⟩
  refine List.forall_mem_cons.mpr ⟨s_getf C (by decide +kernel : decode c_X9_stops 14 = .ok (.getfield 41, 3)) rfl rfl em_cl_X9 (by decide) ew157 rfl, ?_⟩
  refine List.forall_mem_cons.mpr ⟨s_getf C (by decide +kernel : decode c_X9_stops 17 = .ok (.getfield 120, 3)) rfl rfl em_cl_X7 (by decide) ew88 rfl, ?_⟩
  refine List.forall_mem_cons.mpr ⟨s_icmpge C (by decide +kernel : decode c_X9_stops 20 = .ok (.if_icmp .ge 60, 3)) (by decide) rfl rfl rfl, ?_⟩
  refine List.forall_mem_cons.mpr ⟨s_aload_n C (by decide +kernel : decode c_X9_stops 23 = .ok (.aload_n 0, 1)) rfl rfl rfl, ?_⟩
  refine List.forall_mem_cons.mpr ⟨s_getf C (by decide +kernel : decode c_X9_stops 24 = .ok (.getfield 41, 3)) rfl rfl em_cl_X9 (by decide) ew157 rfl, ?_⟩
  refine List.forall_mem_cons.mpr ⟨s_iload_n C (by decide +kernel : decode c_X9_stops 27 = .ok (.iload_n 1, 1)) rfl rfl rfl, ?_⟩
  refine List.forall_mem_cons.mpr ⟨s_iconst C (by decide +kernel : decode c_X9_stops 28 = .ok (.iconst 4, 1)) rfl rfl (by decide), ?_⟩
  refine List.forall_mem_cons.mpr ⟨s_callPV C hFok hF (ct_X7_turn l D dA σ) ⟨rfl, rfl⟩ ew225 em_cl_X7 ew222 ew223 ew224 ew5 ⟨by decide, by decide, by decide +kernel⟩ ⟨by decide, by decide⟩ (by decide +kernel : decode c_X9_stops 29 = .ok (.invokevirtual 74, 3)) rfl rfl ⟨Nat.zero_le _, Nat.zero_le _⟩ (by decide), ?_⟩
  refine List.forall_mem_cons.mpr ⟨s_istore_n C (by decide +kernel : decode c_X9_stops 32 = .ok (.istore_n 2, 1)) rfl rfl rfl (by decide), ?_⟩
  refine List.forall_mem_cons.mpr ⟨s_aload_n C (by decide +kernel : decode c_X9_stops 33 = .ok (.aload_n 0, 1)) rfl rfl rfl, ?_⟩
  refine List.forall_mem_cons.mpr ⟨s_getf C (by decide +kernel : decode c_X9_stops 34 = .ok (.getfield 19, 3)) rfl rfl em_cl_X9 (by decide) ew153 rfl, ?_⟩
  refine List.forall_mem_cons.mpr ⟨s_aload_n C (by decide +kernel : decode c_X9_stops 37 = .ok (.aload_n 0, 1)) rfl rfl rfl, ?_⟩
  refine List.forall_mem_cons.mpr ⟨s_getf C (by decide +kernel : decode c_X9_stops 38 = .ok (.getfield 41, 3)) rfl rfl em_cl_X9 (by decide) ew157 rfl, ?_⟩
  refine List.forall_mem_cons.mpr ⟨s_callPV C hFok hF (ct_X0_follow l D dA σ) ⟨rfl, rfl⟩ ew475 em_cl_X0 ew472 ew473 ew474 ew3 ⟨by decide, by decide, by decide +kernel⟩ ⟨by decide, by decide⟩ (by decide +kernel : decode c_X9_stops 41 = .ok (.invokevirtual 157, 3)) rfl rfl ⟨Nat.zero_le _, Nat.zero_le _⟩ (by decide), ?_⟩
  refine List.forall_mem_cons.mpr ⟨s_aload_n C (by decide +kernel : decode c_X9_stops 44 = .ok (.aload_n 0, 1)) rfl rfl rfl, ?_⟩
  refine List.forall_mem_cons.mpr ⟨s_getf C (by decide +kernel : decode c_X9_stops 45 = .ok (.getfield 41, 3)) rfl rfl em_cl_X9 (by decide) ew157 rfl, ?_⟩
  refine List.forall_mem_cons.mpr ⟨s_iload_n C (by decide +kernel : decode c_X9_stops 48 = .ok (.iload_n 1, 1)) rfl rfl rfl, ?_⟩
  refine List.forall_mem_cons.mpr ⟨s_iload_n C (by decide +kernel : decode c_X9_stops 49 = .ok (.iload_n 2, 1)) rfl rfl rfl, ?_⟩
  refine List.forall_mem_cons.mpr ⟨s_callPV C hFok hF (ct_X7_turn l D dA σ) ⟨rfl, rfl⟩ ew225 em_cl_X7 ew222 ew223 ew224 ew5 ⟨by decide, by decide, by decide +kernel⟩ ⟨by decide, by decide⟩ (by decide +kernel : decode c_X9_stops 50 = .ok (.invokevirtual 74, 3)) rfl rfl ⟨Nat.zero_le _, Nat.zero_le _⟩ (by decide), ?_⟩
  refine List.forall_mem_cons.mpr ⟨s_pop C (by decide +kernel : decode c_X9_stops 53 = .ok (.pop, 1)) rfl rfl, ?_⟩
  refine List.forall_mem_cons.mpr ⟨s_aload_n C (by decide +kernel : decode c_X9_stops 54 = .ok (.aload_n 0, 1)) rfl rfl rfl, ?_⟩
  refine List.forall_mem_cons.mpr ⟨s_getf C (by decide +kernel : decode c_X9_stops 55 = .ok (.getfield 19, 3)) rfl rfl em_cl_X9 (by decide) ew153 rfl, ?_⟩
  refine List.forall_mem_cons.mpr ⟨s_aload_n C (by decide +kernel : decode c_X9_stops 58 = .ok (.aload_n 0, 1)) rfl rfl rfl, ?_⟩
  refine List.forall_mem_cons.mpr ⟨s_getf C (by decide +kernel : decode c_X9_stops 59 = .ok (.getfield 41, 3)) rfl rfl em_cl_X9 (by decide) ew157 rfl, ?_⟩
  refine List.forall_mem_cons.mpr ⟨s_getf C (by decide +kernel : decode c_X9_stops 62 = .ok (.getfield 120, 3)) rfl rfl em_cl_X7 (by decide) ew88 rfl, ?_⟩
  refine List.forall_mem_cons.mpr ⟨s_callPV C hFok hF (ct_X0_oneMind l D dA σ) ⟨rfl, rfl⟩ ew508 em_cl_X0 ew505 ew506 ew507 ew3 ⟨by decide, by decide, by decide +kernel⟩ ⟨by decide, by decide⟩ (by decide +kernel : decode c_X9_stops 65 = .ok (.invokevirtual 177, 3)) rfl rfl ⟨Nat.zero_le _, Nat.zero_le _⟩ (by decide), ?_⟩
  refine List.forall_mem_cons.mpr ⟨s_iconst C (by decide +kernel : decode c_X9_stops 68 = .ok (.iconst (-1), 1)) rfl rfl (by decide), ?_⟩
  refine List.forall_mem_cons.mpr ⟨s_icmpne C (by decide +kernel : decode c_X9_stops 69 = .ok (.if_icmp .ne 5, 3)) (by decide) rfl rfl rfl, ?_⟩
  refine List.forall_mem_cons.mpr ⟨s_iload_n C (by decide +kernel : decode c_X9_stops 72 = .ok (.iload_n 1, 1)) rfl rfl rfl, ?_⟩
  refine List.forall_mem_cons.mpr ⟨s_iret C (by decide +kernel : decode c_X9_stops 73 = .ok (.ireturn, 1)) hret hlk ⟨Nat.le_refl 0, Nat.le_refl 0⟩, ?_⟩
  refine List.forall_mem_cons.mpr ⟨s_iinc C (by decide +kernel : decode c_X9_stops 74 = .ok (.iinc 1 1, 3)) rfl rfl (by decide) (by decide), ?_⟩
  refine List.forall_mem_cons.mpr ⟨s_goto C (by decide +kernel : decode c_X9_stops 77 = .ok (.goto (-65), 3)) (by decide) rfl, ?_⟩
  refine List.forall_mem_cons.mpr ⟨s_iconst C (by decide +kernel : decode c_X9_stops 80 = .ok (.iconst (-1), 1)) rfl rfl (by decide), ?_⟩
  refine List.forall_mem_cons.mpr ⟨s_iret C (by decide +kernel : decode c_X9_stops 81 = .ok (.ireturn, 1)) hret hlk ⟨Nat.le_refl 0, Nat.le_refl 0⟩, ?_⟩
  exact fun _ h => absurd h List.not_mem_nil
/-- what comes again: t and s, t of 201 - r .. 200 -/
def agN (np : Nat) (ki : Nat → Int32) (we : Int32) (fa fb : Nat → Nat) (e0 : Nat) (mi : Int64) (L : Nat) : Nat → Option (Nat × Nat)
  | 0 => none
  | r + 1 => match ffd (fun s => decide ((200 - r - s) % L = 0 ∧ csm np ki we fa fb e0 mi s = csm np ki we fa fb e0 mi (200 - r))) (200 - r) (200 - r) with
    | some s => some (200 - r, s)
    | none => agN np ki we fa fb e0 mi L r
def sp_X9_again : em_Sp := fun av hp Q => ∃ by9 tln tst ten mm fa9 fb9 rf im pe ki mi se we lea mst pa fi sd ev un ma ea co ca clt Y k n np e0 fa fb, av = [.ref 0, .int k] ∧ hp = (wX by9 tln tst ten mm fa9 fb9 rf im pe ki mi se we lea mst pa fi sd ev un ma ea co ca clt Y) ∧ pe = nI n ∧ n ≤ 6 ∧ pa = nI np ∧ np ≤ 8 ∧ ev = nI e0 ∧ e0 < 2 ^ 20 ∧ calOk n np fi sd fa fb ∧ (¬ k = 0 → ¬ k = 1 → Q (some (.int (-10))) (wX by9 tln tst ten mm fa9 fb9 (rfu rf (-10)) im pe ki mi se we lea mst pa fi sd ev un ma ea co ca clt Y)) ∧ (∀ mm', k = 0 → Q (some (.int (oI ((agN np ki we fa fb e0 mi (if np = 0 then 1 else np) 200).map (fun q => q.1))))) (wX by9 tln tst ten (mm') fa9 fb9 rf im pe ki mi se we lea mst pa fi sd ev un ma ea co ca clt Y)) ∧ (∀ mm', k = 1 → Q (some (.int (oI ((agN np ki we fa fb e0 mi (if np = 0 then 1 else np) 200).map (fun q => q.2))))) (wX by9 tln tst ten (mm') fa9 fb9 rf im pe ki mi se we lea mst pa fi sd ev un ma ea co ca clt Y))
def T_X9_again : List (Nat × em_Op) := [(0, o_iload 1 1), (1, o_ifeq 16 4), (4, o_iload 1 5), (5, o_iconst 1 6), (6, o_icmpeq 16 9), (9, o_aload 0 10), (10, o_iconst (-10) 12), (12, o_call 2 (some 4) (sp_X9_refuse) 15), (15, o_iret), (16, o_aload 0 17), (17, o_getf 4 1 20), (20, o_aload 0 21), (21, o_getf 4 5 24), (24, o_callP 2 (some 0) [3, 4, 8, 9, 10, 11, 12, 13, 14, 15] (sp_X0_follow) 27), (27, o_iconst 1 28), (28, o_aload 0 29), (29, o_getf 4 5 32), (32, o_getf 2 7 35), (35, o_max 38), (38, o_istore 2 39), (39, o_iconst 1 40), (40, o_istore 3 41), (41, o_iload 3 42), (42, o_iconst 200 45), (45, o_icmpgt 82 48), (48, o_aload 0 49), (49, o_getf 4 1 52), (52, o_iload 3 53), (53, o_iload 2 54), (54, o_callP 3 (some 0) [3, 4] (sp_X0_likeAhead) 57), (57, o_istore 4 59), (59, o_iload 4 61), (61, o_iconst (-1) 62), (62, o_icmpeq 76 65), (65, o_iload 1 66), (66, o_ifne 73 69), (69, o_iload 3 70), (70, o_goto 75), (73, o_iload 4 75), (75, o_iret), (76, o_iinc 3 1 79), (79, o_goto 41), (82, o_iconst (-1) 83), (83, o_iret)]
theorem me_X9_again : em_Me T_X9_again 5 sp_X9_again := by
  intro Q K hK hle av hp hs
  obtain ⟨by9, tln, tst, ten, mm, fa9, fb9, rf, im, pe, ki, mi, se, we, lea, mst, pa, fi, sd, ev, un, ma, ea, co, ca, clt, Y, k, n, np, e0, fa, fb, rfl, rfl, rfl, hn, rfl, hnp, rfl, he0, hcal, hb, hq0, hq1⟩ := hs
  refine ⟨Nat.le_of_ble_eq_true rfl, ?_⟩
  have hL1 : 1 ≤ (if np = 0 then 1 else np) := by split <;> omega
  have hL8 : (if np = 0 then 1 else np) ≤ 8 := by split <;> omega
  have eL : (if (1 : Int32) < nI np then nI np else 1) = nI (if np = 0 then 1 else np) := by
    by_cases h0 : np = 0
    · subst h0; rfl
    · rw [if_neg h0]
      by_cases h1 : np = 1
      · subst h1; rfl
      · rw [if_pos (show (1 : Int32) < nI np from nI_lt (a := 1) (b := np) (by omega) (by omega))]
  generalize (if np = 0 then 1 else np) = L at hL1 hL8 eL hq0 hq1
  obtain ⟨V, hV⟩ : ∃ V, V = agN np ki we fa fb e0 mi L 200 := ⟨_, rfl⟩
  rw [← hV] at hq0 hq1
  have ok : k = 0 ∨ k = 1 → K 16 [some (.ref 0), some (.int k), none, none, none] [] (wX by9 tln tst ten mm fa9 fb9 rf im (nI n) ki mi se we lea mst (nI np) fi sd (nI e0) un ma ea co ca clt Y) := by
    intro hk
    refine hK 9 13 16 _ _ _ ?_
    refine ⟨mm, _, _, _, _, _, _, _, _, _, _, _, _, _, _, _, _, _, n, np, e0, fa, fb, rfl, rfl, rfl, hn, rfl, hnp, rfl, he0, hcal, fun mm' hm => ?_⟩
    have loop : ∀ (r : Nat), r ≤ 200 → V = agN np ki we fa fb e0 mi L r → K 41 [some (.ref 0), some (.int k), some (.int (nI L)), some (.int (nI (201 - r))), none] [] (wX by9 tln tst ten (mm') fa9 fb9 rf im (nI n) ki mi se we lea mst (nI np) fi sd (nI e0) un ma ea co ca clt Y) := by
      intro r
      induction r with
      | zero =>
        intro hr hv
        refine hK 22 9999 41 _ _ _ ?_
        refine ⟨fun _ => ?_, fun y => absurd (nI_lt (a := 200) (b := 201 - 0) (by omega) (by omega)) y⟩
        rcases hk with z | z
        · have := hq0 mm' z
          rw [hv] at this
          exact this
        · have := hq1 mm' z
          rw [hv] at this
          exact this
      | succ r ih =>
        intro hr hv
        rw [show 201 - (r + 1) = 200 - r by omega]
        rw [agN] at hv
        refine hK 22 9999 41 _ _ _ ?_
        refine ⟨fun y => absurd y (nI_nlt (a := 200) (b := 200 - r) (by omega) (by omega)), fun _ => ?_⟩
        refine ⟨mm', 200 - r, L, rfl, rfl, by omega, hL1, hL8, ?_⟩
        rw [ffd_congr (P' := fun s => decide ((200 - r - s) % L = 0 ∧ csm np ki we fa fb e0 mi s = csm np ki we fa fb e0 mi (200 - r))) (fun t ht => by
          show decide ((200 - r - t) % L = 0 ∧ mm' t = mm' (200 - r)) = _
          rw [hm t (by omega), hm (200 - r) (by omega)]) (200 - r) (Nat.le_refl _)]
        cases hf : ffd (fun s => decide ((200 - r - s) % L = 0 ∧ csm np ki we fa fb e0 mi s = csm np ki we fa fb e0 mi (200 - r))) (200 - r) (200 - r) with
        | none =>
          rw [hf] at hv
          refine ⟨fun _ => ?_, fun z => absurd rfl z⟩
          have := ih (by omega) hv
          rw [show 201 - r = (200 - r) + 1 by omega, ← nI_1 (200 - r)] at this
          exact hle _ _ _ _ _ (by repeat (first | exact trivial | refine ⟨rfl, ?_⟩)) this
        | some s =>
          have hsl := ffd_lt (200 - r) s (Nat.le_refl _) hf
          rw [hf] at hv
          refine ⟨fun z => absurd z (nI_m1 (by omega)), fun _ => ⟨fun z => ?_, fun z => ?_⟩⟩
          · rcases hk with y | y
            · exact absurd y z
            · have := hq1 mm' y
              rw [hv] at this
              exact this
          · have := hq0 mm' z
            rw [hv] at this
            exact this
    have := loop 200 (Nat.le_refl _) hV
    rw [← eL] at this
    exact hle _ _ _ _ _ (by repeat (first | exact trivial | refine ⟨rfl, ?_⟩)) this
  refine hK 0 9 0 _ _ _ ?_
  refine ⟨fun z => ok (Or.inl z), fun z => ⟨fun z2 => ok (Or.inr z2), fun z2 => ?_⟩⟩
  exact ⟨_, _, _, _, _, _, _, _, _, _, _, _, _, _, _, _, _, _, _, _, _, _, _, _, _, _, _, _, rfl, rfl, hb z z2⟩
abbrev rm_X9_again : Room := { frames := 5, cells := 0, slots := 0, locals := 127 }
set_option maxRecDepth 100000 in
set_option maxHeartbeats 4000000 in
theorem ct_X9_again (l : Launch) (D : va_G) (dA : Nat → ClassId) (σ : Nat → Nat) : em_CT l D em_cl dA σ (em_F σ) y_X9_again c_X9_again 5 (Option.some ClassFile.FieldType.int) rm_X9_again (sp_X9_again ) := by
  refine em_CT_of (T := T_X9_again ) (em_F_ok σ) (by decide) (fun p e s m args below meth c A ρ Q C hFok hF hret hlk hin => ?_) (me_X9_again )
  unfold T_X9_again
  refine List.forall_mem_cons.mpr ⟨s_iload_n C (by decide +kernel : decode c_X9_again 0 = .ok (.iload_n 1, 1)) rfl rfl rfl, ?_⟩
  refine List.forall_mem_cons.mpr ⟨s_ifeq C (by decide +kernel : decode c_X9_again 1 = .ok (.ifCond .eq 15, 3)) (by decide) rfl rfl rfl, ?_⟩
  refine List.forall_mem_cons.mpr ⟨s_iload_n C (by decide +kernel : decode c_X9_again 4 = .ok (.iload_n 1, 1)) rfl rfl rfl, ?_⟩
  refine List.forall_mem_cons.mpr ⟨s_iconst C (by decide +kernel : decode c_X9_again 5 = .ok (.iconst 1, 1)) rfl rfl (by decide), ?_⟩
  refine List.forall_mem_cons.mpr ⟨s_icmpeq C (by decide +kernel : decode c_X9_again 6 = .ok (.if_icmp .eq 10, 3)) (by decide) rfl rfl rfl, ?_⟩
  refine List.forall_mem_cons.mpr ⟨s_aload_n C (by decide +kernel : decode c_X9_again 9 = .ok (.aload_n 0, 1)) rfl rfl rfl, ?_⟩
  refine List.forall_mem_cons.mpr ⟨s_bipush C (by decide +kernel : decode c_X9_again 10 = .ok (.bipush (-10), 2)) rfl rfl (by decide), ?_⟩
  refine List.forall_mem_cons.mpr ⟨s_callV C hFok hF (ct_X9_refuse l D dA σ) ⟨rfl, rfl⟩ ew200 em_cl_X9 ew197 ew199 ewp1 ew1 ⟨by decide, by decide, by decide +kernel⟩ ⟨by decide, by decide⟩ (by decide +kernel : decode c_X9_again 12 = .ok (.invokevirtual 63, 3)) rfl rfl ⟨Nat.zero_le _, Nat.zero_le _⟩, ?_⟩
  refine List.forall_mem_cons.mpr ⟨s_iret C (by decide +kernel : decode c_X9_again 15 = .ok (.ireturn, 1)) hret hlk ⟨Nat.le_refl 0, Nat.le_refl 0⟩, ?_⟩
  refine List.forall_mem_cons.mpr ⟨s_aload_n C (by decide +kernel : decode c_X9_again 16 = .ok (.aload_n 0, 1)) rfl rfl rfl, ?_⟩
  refine List.forall_mem_cons.mpr ⟨s_getf C (by decide +kernel : decode c_X9_again 17 = .ok (.getfield 19, 3)) rfl rfl em_cl_X9 (by decide) ew153 rfl, ?_⟩
  refine List.forall_mem_cons.mpr ⟨s_aload_n C (by decide +kernel : decode c_X9_again 20 = .ok (.aload_n 0, 1)) rfl rfl rfl, ?_⟩
  refine List.forall_mem_cons.mpr ⟨s_getf C (by decide +kernel : decode c_X9_again 21 = .ok (.getfield 41, 3)) rfl rfl em_cl_X9 (by decide) ew157 rfl, ?_⟩
  refine List.forall_mem_cons.mpr ⟨s_callPV C hFok hF (ct_X0_follow l D dA σ) ⟨rfl, rfl⟩ ew475 em_cl_X0 ew472 ew473 ew474 ew3 ⟨by decide, by decide, by decide +kernel⟩ ⟨by decide, by decide⟩ (by decide +kernel : decode c_X9_again 24 = .ok (.invokevirtual 157, 3)) rfl rfl ⟨Nat.zero_le _, Nat.zero_le _⟩ (by decide), ?_⟩
  refine List.forall_mem_cons.mpr ⟨s_iconst C (by decide +kernel : decode c_X9_again 27 = .ok (.iconst 1, 1)) rfl rfl (by decide), ?_⟩
  refine List.forall_mem_cons.mpr ⟨s_aload_n C (by decide +kernel : decode c_X9_again 28 = .ok (.aload_n 0, 1)) rfl rfl rfl, ?_⟩
  refine List.forall_mem_cons.mpr ⟨s_getf C (by decide +kernel : decode c_X9_again 29 = .ok (.getfield 41, 3)) rfl rfl em_cl_X9 (by decide) ew157 rfl, ?_⟩
  refine List.forall_mem_cons.mpr ⟨s_getf C (by decide +kernel : decode c_X9_again 32 = .ok (.getfield 86, 3)) rfl rfl em_cl_X7 (by decide) ew101 rfl, ?_⟩
  refine List.forall_mem_cons.mpr ⟨s_max C ew494 ew495 ew15 ew496 ⟨by decide, by decide⟩ ⟨Nat.zero_le _, Nat.zero_le _⟩ (by decide +kernel : decode c_X9_again 35 = .ok (.invokestatic 169, 3)) rfl rfl, ?_⟩
  refine List.forall_mem_cons.mpr ⟨s_istore_n C (by decide +kernel : decode c_X9_again 38 = .ok (.istore_n 2, 1)) rfl rfl rfl (by decide), ?_⟩
  refine List.forall_mem_cons.mpr ⟨s_iconst C (by decide +kernel : decode c_X9_again 39 = .ok (.iconst 1, 1)) rfl rfl (by decide), ?_⟩
  refine List.forall_mem_cons.mpr ⟨s_istore_n C (by decide +kernel : decode c_X9_again 40 = .ok (.istore_n 3, 1)) rfl rfl rfl (by decide), ?_⟩
  refine List.forall_mem_cons.mpr ⟨s_iload_n C (by decide +kernel : decode c_X9_again 41 = .ok (.iload_n 3, 1)) rfl rfl rfl, ?_⟩
  refine List.forall_mem_cons.mpr ⟨s_sipush C (by decide +kernel : decode c_X9_again 42 = .ok (.sipush 200, 3)) rfl rfl (by decide), ?_⟩
  refine List.forall_mem_cons.mpr ⟨s_icmpgt C (by decide +kernel : decode c_X9_again 45 = .ok (.if_icmp .gt 37, 3)) (by decide) rfl rfl rfl, ?_⟩
  refine List.forall_mem_cons.mpr ⟨s_aload_n C (by decide +kernel : decode c_X9_again 48 = .ok (.aload_n 0, 1)) rfl rfl rfl, ?_⟩
  refine List.forall_mem_cons.mpr ⟨s_getf C (by decide +kernel : decode c_X9_again 49 = .ok (.getfield 19, 3)) rfl rfl em_cl_X9 (by decide) ew153 rfl, ?_⟩
  refine List.forall_mem_cons.mpr ⟨s_iload_n C (by decide +kernel : decode c_X9_again 52 = .ok (.iload_n 3, 1)) rfl rfl rfl, ?_⟩
  refine List.forall_mem_cons.mpr ⟨s_iload_n C (by decide +kernel : decode c_X9_again 53 = .ok (.iload_n 2, 1)) rfl rfl rfl, ?_⟩
  refine List.forall_mem_cons.mpr ⟨s_callPV C hFok hF (ct_X0_likeAhead l D dA σ) ⟨rfl, rfl⟩ ew500 em_cl_X0 ew497 ew498 ew499 ew3 ⟨by decide, by decide, by decide +kernel⟩ ⟨by decide, by decide⟩ (by decide +kernel : decode c_X9_again 54 = .ok (.invokevirtual 174, 3)) rfl rfl ⟨Nat.zero_le _, Nat.zero_le _⟩ (by decide), ?_⟩
  refine List.forall_mem_cons.mpr ⟨s_istore C (by decide +kernel : decode c_X9_again 57 = .ok (.istore 4, 2)) rfl rfl (by decide), ?_⟩
  refine List.forall_mem_cons.mpr ⟨s_iload C (by decide +kernel : decode c_X9_again 59 = .ok (.iload 4, 2)) rfl rfl, ?_⟩
  refine List.forall_mem_cons.mpr ⟨s_iconst C (by decide +kernel : decode c_X9_again 61 = .ok (.iconst (-1), 1)) rfl rfl (by decide), ?_⟩
  refine List.forall_mem_cons.mpr ⟨s_icmpeq C (by decide +kernel : decode c_X9_again 62 = .ok (.if_icmp .eq 14, 3)) (by decide) rfl rfl rfl, ?_⟩
  refine List.forall_mem_cons.mpr ⟨s_iload_n C (by decide +kernel : decode c_X9_again 65 = .ok (.iload_n 1, 1)) rfl rfl rfl, ?_⟩
  refine List.forall_mem_cons.mpr ⟨s_ifne C (by decide +kernel : decode c_X9_again 66 = .ok (.ifCond .ne 7, 3)) (by decide) rfl rfl rfl, ?_⟩
  refine List.forall_mem_cons.mpr ⟨s_iload_n C (by decide +kernel : decode c_X9_again 69 = .ok (.iload_n 3, 1)) rfl rfl rfl, ?_⟩
  refine List.forall_mem_cons.mpr ⟨s_goto C (by decide +kernel : decode c_X9_again 70 = .ok (.goto 5, 3)) (by decide) rfl, ?_⟩
  refine List.forall_mem_cons.mpr ⟨s_iload C (by decide +kernel : decode c_X9_again 73 = .ok (.iload 4, 2)) rfl rfl, ?_⟩
  refine List.forall_mem_cons.mpr ⟨s_iret C (by decide +kernel : decode c_X9_again 75 = .ok (.ireturn, 1)) hret hlk ⟨Nat.le_refl 0, Nat.le_refl 0⟩, ?_⟩
  refine List.forall_mem_cons.mpr ⟨s_iinc C (by decide +kernel : decode c_X9_again 76 = .ok (.iinc 3 1, 3)) rfl rfl (by decide) (by decide), ?_⟩
  refine List.forall_mem_cons.mpr ⟨s_goto C (by decide +kernel : decode c_X9_again 79 = .ok (.goto (-38), 3)) (by decide) rfl, ?_⟩
  refine List.forall_mem_cons.mpr ⟨s_iconst C (by decide +kernel : decode c_X9_again 82 = .ok (.iconst (-1), 1)) rfl rfl (by decide), ?_⟩
  refine List.forall_mem_cons.mpr ⟨s_iret C (by decide +kernel : decode c_X9_again 83 = .ok (.ireturn, 1)) hret hlk ⟨Nat.le_refl 0, Nat.le_refl 0⟩, ?_⟩
  exact fun _ h => absurd h List.not_mem_nil
