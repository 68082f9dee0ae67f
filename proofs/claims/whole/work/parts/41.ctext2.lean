/-! ===== WedApart.type; Town.becomeLike ===== -/
def sp_X9_type : em_Sp := fun av hp Q => ∃ by9 tln tst ten mm fa9 fb9 rf im pe ki mi se we lea mst pa fi sd ev un ma ea co ca clt Y c C L, av = [.ref 0, .int c] ∧ hp = (wX by9 tln tst ten mm fa9 fb9 rf im pe ki mi se we lea mst pa fi sd ev un ma ea co ca clt Y) ∧ TY by9 tln C L ∧ (¬ (¬ c < 0 ∧ c ≤ 127) → Q (some (.int (-2))) (wX by9 tln tst ten mm fa9 fb9 (rfu rf (-2)) im pe ki mi se we lea mst pa fi sd ev un ma ea co ca clt Y)) ∧ (¬ c < 0 → c ≤ 127 → L = 150 → Q (some (.int (-4))) (wX by9 tln tst ten mm fa9 fb9 (rfu rf (-4)) im pe ki mi se we lea mst pa fi sd ev un ma ea co ca clt Y)) ∧ (¬ c < 0 → c ≤ 127 → L < 150 → Q (some (.int (nI (L + 1)))) (wX (upd by9 L c) (nI (L + 1)) tst ten mm fa9 fb9 rf im pe ki mi se we lea mst pa fi sd ev un ma ea co ca clt Y))
def T_X9_type : List (Nat × em_Op) := [(0, o_aload 0 1), (1, o_aload 0 2), (2, o_getf 4 0 5), (5, o_iload 1 6), (6, o_callP 2 (some 3) [1, 2] (sp_X8_append) 9), (9, o_call 2 (some 4) (sp_X9_counted) 12), (12, o_iret)]
theorem me_X9_type : em_Me T_X9_type 2 sp_X9_type := by
  intro Q K hK hle av hp hs
  obtain ⟨by9, tln, tst, ten, mm, fa9, fb9, rf, im, pe, ki, mi, se, we, lea, mst, pa, fi, sd, ev, un, ma, ea, co, ca, clt, Y, c, C, L, rfl, rfl, hT, hb, hf, hq⟩ := hs
  refine ⟨Nat.le_of_ble_eq_true rfl, hK 0 9999 0 _ _ _ ?_⟩
  refine ⟨_, _, _, _, c, C, L, rfl, rfl, hT, fun z => ?_, fun z1 z2 z3 => ?_, fun z1 z2 z3 => ?_⟩
  · exact ⟨_, _, _, _, _, _, _, _, _, _, _, _, _, _, _, _, _, _, _, _, _, _, _, _, _, _, _, _, rfl, rfl, fun _ => hb z, fun y => absurd (Or.inl rfl) y⟩
  · exact ⟨_, _, _, _, _, _, _, _, _, _, _, _, _, _, _, _, _, _, _, _, _, _, _, _, _, _, _, _, rfl, rfl, fun _ => hf z1 z2 z3, fun y => absurd (Or.inr (Or.inr rfl)) y⟩
  · exact ⟨_, _, _, _, _, _, _, _, _, _, _, _, _, _, _, _, _, _, _, _, _, _, _, _, _, _, _, _, rfl, rfl, fun y => absurd y (nbad (by omega)), fun _ => hq z1 z2 z3⟩
abbrev rm_X9_type : Room := { frames := 2, cells := 0, slots := 0, locals := 42 }
set_option maxRecDepth 100000 in
set_option maxHeartbeats 4000000 in
theorem ct_X9_type (l : Launch) (D : va_G) (dA : Nat → ClassId) (σ : Nat → Nat) : em_CT l D em_cl dA σ (em_F σ) y_X9_type c_X9_type 2 (Option.some ClassFile.FieldType.int) rm_X9_type (sp_X9_type ) := by
  refine em_CT_of (T := T_X9_type ) (em_F_ok σ) (by decide) (fun p e s m args below meth c A ρ Q C hFok hF hret hlk hin => ?_) (me_X9_type )
  unfold T_X9_type
  refine List.forall_mem_cons.mpr ⟨s_aload_n C (by decide +kernel : decode c_X9_type 0 = .ok (.aload_n 0, 1)) rfl rfl rfl, ?_⟩
  refine List.forall_mem_cons.mpr ⟨s_aload_n C (by decide +kernel : decode c_X9_type 1 = .ok (.aload_n 0, 1)) rfl rfl rfl, ?_⟩
  refine List.forall_mem_cons.mpr ⟨s_getf C (by decide +kernel : decode c_X9_type 2 = .ok (.getfield 10, 3)) rfl rfl em_cl_X9 (by decide) ew152 rfl, ?_⟩
  refine List.forall_mem_cons.mpr ⟨s_iload_n C (by decide +kernel : decode c_X9_type 5 = .ok (.iload_n 1, 1)) rfl rfl rfl, ?_⟩
  refine List.forall_mem_cons.mpr ⟨s_callPV C hFok hF (ct_X8_append l D dA σ) ⟨rfl, rfl⟩ ew266 em_cl_X8 ew263 ew264 ew265 ew2 ⟨by decide, by decide, by decide +kernel⟩ ⟨by decide, by decide⟩ (by decide +kernel : decode c_X9_type 6 = .ok (.invokevirtual 90, 3)) rfl rfl ⟨Nat.zero_le _, Nat.zero_le _⟩ (by decide), ?_⟩
  refine List.forall_mem_cons.mpr ⟨s_callV C hFok hF (ct_X9_counted l D dA σ) ⟨rfl, rfl⟩ ew196 em_cl_X9 ew193 ew195 ewp0 ew1 ⟨by decide, by decide, by decide +kernel⟩ ⟨by decide, by decide⟩ (by decide +kernel : decode c_X9_type 9 = .ok (.invokevirtual 52, 3)) rfl rfl ⟨Nat.zero_le _, Nat.zero_le _⟩, ?_⟩
  refine List.forall_mem_cons.mpr ⟨s_iret C (by decide +kernel : decode c_X9_type 12 = .ok (.ireturn, 1)) hret hlk ⟨Nat.le_refl 0, Nat.le_refl 0⟩, ?_⟩
  exact fun _ h => absurd h List.not_mem_nil
def wV (pe0 : Int32) (ki0 : Nat → Int32) (mi0 se0 : Int64) (we0 lea0 mst0 pa0 : Int32) (fi0 sd0 : Nat → Int32) (ev0 un0 : Int32) (ma0 : Nat → Int64) (ea0 : Nat → Int32) (co0 : Int32) (ca0 clt0 : Nat → Int32) (pe : Int32) (ki : Nat → Int32) (mi se : Int64) (we lea mst pa : Int32) (fi sd : Nat → Int32) (ev un : Int32) (ma : Nat → Int64) (ea : Nat → Int32) (co : Int32) (ca clt : Nat → Int32) : em_H := [.inr (2, [.int pe0, .ref 1, .long mi0, .long se0, .int we0, .int lea0, .int mst0, .int pa0, .ref 2, .ref 3, .int ev0, .int un0, .ref 4, .ref 5, .int co0, .ref 6, .ref 7]), .inl (0, 6, .inl ki0), .inl (0, 8, .inl fi0), .inl (0, 8, .inl sd0), .inl (1, 12, .inr (.inl ma0)), .inl (0, 12, .inl ea0), .inl (0, 10, .inl ca0), .inl (3, 10, .inl clt0), .inr (2, [.int pe, .ref 9, .long mi, .long se, .int we, .int lea, .int mst, .int pa, .ref 10, .ref 11, .int ev, .int un, .ref 12, .ref 13, .int co, .ref 14, .ref 15]), .inl (0, 6, .inl ki), .inl (0, 8, .inl fi), .inl (0, 8, .inl sd), .inl (1, 12, .inr (.inl ma)), .inl (0, 12, .inl ea), .inl (0, 10, .inl ca), .inl (3, 10, .inl clt)]
def sp_X7_becomeLike : em_Sp := fun av hp Q => ∃ pe0 ki0 mi0 se0 we0 lea0 mst0 pa0 fi0 sd0 ev0 un0 ma0 ea0 co0 ca0 clt0 pe ki mi se we lea mst pa fi sd ev un ma ea co ca clt, av = [.ref 0, .ref 8] ∧ hp = (wV pe0 ki0 mi0 se0 we0 lea0 mst0 pa0 fi0 sd0 ev0 un0 ma0 ea0 co0 ca0 clt0 pe ki mi se we lea mst pa fi sd ev un ma ea co ca clt) ∧ (∀ j, j < 10 → clt j = 0 ∨ clt j = 1) ∧ Q none (wV (pe) (va_cpy ki ki0 0 0 6) (mi) (se) (we) (lea) (mst) (pa) (va_cpy fi fi0 0 0 8) (va_cpy sd sd0 0 0 8) (ev) (un) (va_cpy ma ma0 0 0 12) (va_cpy ea ea0 0 0 12) (co) (va_cpy ca ca0 0 0 10) (va_cpy clt clt0 0 0 10) pe ki mi se we lea mst pa fi sd ev un ma ea co ca clt)
def T_X7_becomeLike : List (Nat × em_Op) := [(0, o_aload 0 1), (1, o_aload 1 2), (2, o_getf 2 0 5), (5, o_putI 2 0 8), (8, o_aload 1 9), (9, o_getf 2 1 12), (12, o_iconst 0 13), (13, o_aload 0 14), (14, o_getf 2 1 17), (17, o_iconst 0 18), (18, o_iconst 6 20), (20, o_acopyI 23), (23, o_aload 0 24), (24, o_aload 1 25), (25, o_getf 2 2 28), (28, o_putL 2 2 31), (31, o_aload 0 32), (32, o_aload 1 33), (33, o_getf 2 3 36), (36, o_putL 2 3 39), (39, o_aload 0 40), (40, o_aload 1 41), (41, o_getf 2 4 44), (44, o_putI 2 4 47), (47, o_aload 0 48), (48, o_aload 1 49), (49, o_getf 2 5 52), (52, o_putI 2 5 55), (55, o_aload 0 56), (56, o_aload 1 57), (57, o_getf 2 6 60), (60, o_putI 2 6 63), (63, o_aload 0 64), (64, o_aload 1 65), (65, o_getf 2 7 68), (68, o_putI 2 7 71), (71, o_aload 1 72), (72, o_getf 2 8 75), (75, o_iconst 0 76), (76, o_aload 0 77), (77, o_getf 2 8 80), (80, o_iconst 0 81), (81, o_iconst 8 83), (83, o_acopyI 86), (86, o_aload 1 87), (87, o_getf 2 9 90), (90, o_iconst 0 91), (91, o_aload 0 92), (92, o_getf 2 9 95), (95, o_iconst 0 96), (96, o_iconst 8 98), (98, o_acopyI 101), (101, o_aload 0 102), (102, o_aload 1 103), (103, o_getf 2 10 106), (106, o_putI 2 10 109), (109, o_aload 0 110), (110, o_aload 1 111), (111, o_getf 2 11 114), (114, o_putI 2 11 117), (117, o_aload 1 118), (118, o_getf 2 12 121), (121, o_iconst 0 122), (122, o_aload 0 123), (123, o_getf 2 12 126), (126, o_iconst 0 127), (127, o_iconst 12 129), (129, o_acopyL 132), (132, o_aload 1 133), (133, o_getf 2 13 136), (136, o_iconst 0 137), (137, o_aload 0 138), (138, o_getf 2 13 141), (141, o_iconst 0 142), (142, o_iconst 12 144), (144, o_acopyI 147), (147, o_aload 0 148), (148, o_aload 1 149), (149, o_getf 2 14 152), (152, o_putI 2 14 155), (155, o_aload 1 156), (156, o_getf 2 15 159), (159, o_iconst 0 160), (160, o_aload 0 161), (161, o_getf 2 15 164), (164, o_iconst 0 165), (165, o_iconst 10 167), (167, o_acopyI 170), (170, o_aload 1 171), (171, o_getf 2 16 174), (174, o_iconst 0 175), (175, o_aload 0 176), (176, o_getf 2 16 179), (179, o_iconst 0 180), (180, o_iconst 10 182), (182, o_acopyZ 185), (185, o_vret)]
theorem me_X7_becomeLike : em_Me T_X7_becomeLike 2 sp_X7_becomeLike := by
  intro Q K hK hle av hp hs
  obtain ⟨pe0, ki0, mi0, se0, we0, lea0, mst0, pa0, fi0, sd0, ev0, un0, ma0, ea0, co0, ca0, clt0, pe, ki, mi, se, we, lea, mst, pa, fi, sd, ev, un, ma, ea, co, ca, clt, rfl, rfl, hz, hq⟩ := hs
  refine ⟨Nat.le_of_ble_eq_true rfl, hK 0 9999 0 _ _ _ ?_⟩
  refine ⟨0, 0, 6, rfl, rfl, rfl, by decide, by decide, ?_⟩
  refine ⟨0, 0, 8, rfl, rfl, rfl, by decide, by decide, ?_⟩
  refine ⟨0, 0, 8, rfl, rfl, rfl, by decide, by decide, ?_⟩
  refine ⟨0, 0, 12, rfl, rfl, rfl, by decide, by decide, ?_⟩
  refine ⟨0, 0, 12, rfl, rfl, rfl, by decide, by decide, ?_⟩
  refine ⟨0, 0, 10, rfl, rfl, rfl, by decide, by decide, ?_⟩
  exact ⟨0, 0, 10, rfl, rfl, rfl, by decide, by decide, fun i hi => (hz (0 + i) (by omega)).elim (fun q => by rw [q]; rfl) (fun q => by rw [q]; rfl), hq⟩
abbrev rm_X7_becomeLike : Room := { frames := 1, cells := 0, slots := 0, locals := 60 }
set_option maxRecDepth 100000 in
set_option maxHeartbeats 4000000 in
theorem ct_X7_becomeLike (l : Launch) (D : va_G) (dA : Nat → ClassId) (σ : Nat → Nat) : em_CT l D em_cl dA σ (em_F σ) y_X7_becomeLike c_X7_becomeLike 2 (Option.none : Option ClassFile.FieldType) rm_X7_becomeLike (sp_X7_becomeLike ) := by
  refine em_CT_of (T := T_X7_becomeLike ) (em_F_ok σ) (by decide) (fun p e s m args below meth c A ρ Q C hFok hF hret hlk hin => ?_) (me_X7_becomeLike )
  unfold T_X7_becomeLike
  refine List.forall_mem_cons.mpr ⟨s_aload_n C (by decide +kernel : decode c_X7_becomeLike 0 = .ok (.aload_n 0, 1)) rfl rfl rfl, ?_⟩
  refine List.forall_mem_cons.mpr ⟨s_aload_n C (by decide +kernel : decode c_X7_becomeLike 1 = .ok (.aload_n 1, 1)) rfl rfl rfl, ?_⟩
  refine List.forall_mem_cons.mpr ⟨s_getf C (by decide +kernel : decode c_X7_becomeLike 2 = .ok (.getfield 38, 3)) rfl rfl em_cl_X7 (by decide) ew85 rfl, ?_⟩
  refine List.forall_mem_cons.mpr ⟨s_putI C (by decide +kernel : decode c_X7_becomeLike 5 = .ok (.putfield 38, 3)) rfl rfl em_cl_X7 (by decide) ew85 rfl (by decide) (by decide +kernel), ?_⟩
  refine List.forall_mem_cons.mpr ⟨s_aload_n C (by decide +kernel : decode c_X7_becomeLike 8 = .ok (.aload_n 1, 1)) rfl rfl rfl, ?_⟩
  refine List.forall_mem_cons.mpr ⟨s_getf C (by decide +kernel : decode c_X7_becomeLike 9 = .ok (.getfield 9, 3)) rfl rfl em_cl_X7 (by decide) ew89 rfl, ?_⟩
  refine List.forall_mem_cons.mpr ⟨s_iconst C (by decide +kernel : decode c_X7_becomeLike 12 = .ok (.iconst 0, 1)) rfl rfl (by decide), ?_⟩
  refine List.forall_mem_cons.mpr ⟨s_aload_n C (by decide +kernel : decode c_X7_becomeLike 13 = .ok (.aload_n 0, 1)) rfl rfl rfl, ?_⟩
  refine List.forall_mem_cons.mpr ⟨s_getf C (by decide +kernel : decode c_X7_becomeLike 14 = .ok (.getfield 9, 3)) rfl rfl em_cl_X7 (by decide) ew89 rfl, ?_⟩
  refine List.forall_mem_cons.mpr ⟨s_iconst C (by decide +kernel : decode c_X7_becomeLike 17 = .ok (.iconst 0, 1)) rfl rfl (by decide), ?_⟩
  refine List.forall_mem_cons.mpr ⟨s_bipush C (by decide +kernel : decode c_X7_becomeLike 18 = .ok (.bipush 6, 2)) rfl rfl (by decide), ?_⟩
  refine List.forall_mem_cons.mpr ⟨s_acopyI C ew428 ew430 ew429 ew14 ⟨by decide, by decide⟩ (by decide +kernel : decode c_X7_becomeLike 20 = .ok (.invokestatic 70, 3)) rfl rfl, ?_⟩
  refine List.forall_mem_cons.mpr ⟨s_aload_n C (by decide +kernel : decode c_X7_becomeLike 23 = .ok (.aload_n 0, 1)) rfl rfl rfl, ?_⟩
  refine List.forall_mem_cons.mpr ⟨s_aload_n C (by decide +kernel : decode c_X7_becomeLike 24 = .ok (.aload_n 1, 1)) rfl rfl rfl, ?_⟩
  refine List.forall_mem_cons.mpr ⟨s_getf C (by decide +kernel : decode c_X7_becomeLike 25 = .ok (.getfield 42, 3)) rfl rfl em_cl_X7 (by decide) ew91 rfl, ?_⟩
  refine List.forall_mem_cons.mpr ⟨s_putL C (by decide +kernel : decode c_X7_becomeLike 28 = .ok (.putfield 42, 3)) rfl rfl em_cl_X7 (by decide) ew91 rfl (by decide) (by decide +kernel), ?_⟩
  refine List.forall_mem_cons.mpr ⟨s_aload_n C (by decide +kernel : decode c_X7_becomeLike 31 = .ok (.aload_n 0, 1)) rfl rfl rfl, ?_⟩
  refine List.forall_mem_cons.mpr ⟨s_aload_n C (by decide +kernel : decode c_X7_becomeLike 32 = .ok (.aload_n 1, 1)) rfl rfl rfl, ?_⟩
  refine List.forall_mem_cons.mpr ⟨s_getf C (by decide +kernel : decode c_X7_becomeLike 33 = .ok (.getfield 46, 3)) rfl rfl em_cl_X7 (by decide) ew95 rfl, ?_⟩
  refine List.forall_mem_cons.mpr ⟨s_putL C (by decide +kernel : decode c_X7_becomeLike 36 = .ok (.putfield 46, 3)) rfl rfl em_cl_X7 (by decide) ew95 rfl (by decide) (by decide +kernel), ?_⟩
  refine List.forall_mem_cons.mpr ⟨s_aload_n C (by decide +kernel : decode c_X7_becomeLike 39 = .ok (.aload_n 0, 1)) rfl rfl rfl, ?_⟩
  refine List.forall_mem_cons.mpr ⟨s_aload_n C (by decide +kernel : decode c_X7_becomeLike 40 = .ok (.aload_n 1, 1)) rfl rfl rfl, ?_⟩
  refine List.forall_mem_cons.mpr ⟨s_getf C (by decide +kernel : decode c_X7_becomeLike 41 = .ok (.getfield 49, 3)) rfl rfl em_cl_X7 (by decide) ew97 rfl, ?_⟩
  refine List.forall_mem_cons.mpr ⟨s_putI C (by decide +kernel : decode c_X7_becomeLike 44 = .ok (.putfield 49, 3)) rfl rfl em_cl_X7 (by decide) ew97 rfl (by decide) (by decide +kernel), ?_⟩
  refine List.forall_mem_cons.mpr ⟨s_aload_n C (by decide +kernel : decode c_X7_becomeLike 47 = .ok (.aload_n 0, 1)) rfl rfl rfl, ?_⟩
  refine List.forall_mem_cons.mpr ⟨s_aload_n C (by decide +kernel : decode c_X7_becomeLike 48 = .ok (.aload_n 1, 1)) rfl rfl rfl, ?_⟩
  refine List.forall_mem_cons.mpr ⟨s_getf C (by decide +kernel : decode c_X7_becomeLike 49 = .ok (.getfield 52, 3)) rfl rfl em_cl_X7 (by decide) ew98 rfl, ?_⟩
  refine List.forall_mem_cons.mpr ⟨s_putI C (by decide +kernel : decode c_X7_becomeLike 52 = .ok (.putfield 52, 3)) rfl rfl em_cl_X7 (by decide) ew98 rfl (by decide) (by decide +kernel), ?_⟩
  refine List.forall_mem_cons.mpr ⟨s_aload_n C (by decide +kernel : decode c_X7_becomeLike 55 = .ok (.aload_n 0, 1)) rfl rfl rfl, ?_⟩
  refine List.forall_mem_cons.mpr ⟨s_aload_n C (by decide +kernel : decode c_X7_becomeLike 56 = .ok (.aload_n 1, 1)) rfl rfl rfl, ?_⟩
  refine List.forall_mem_cons.mpr ⟨s_getf C (by decide +kernel : decode c_X7_becomeLike 57 = .ok (.getfield 55, 3)) rfl rfl em_cl_X7 (by decide) ew99 rfl, ?_⟩
  refine List.forall_mem_cons.mpr ⟨s_putI C (by decide +kernel : decode c_X7_becomeLike 60 = .ok (.putfield 55, 3)) rfl rfl em_cl_X7 (by decide) ew99 rfl (by decide) (by decide +kernel), ?_⟩
  refine List.forall_mem_cons.mpr ⟨s_aload_n C (by decide +kernel : decode c_X7_becomeLike 63 = .ok (.aload_n 0, 1)) rfl rfl rfl, ?_⟩
  refine List.forall_mem_cons.mpr ⟨s_aload_n C (by decide +kernel : decode c_X7_becomeLike 64 = .ok (.aload_n 1, 1)) rfl rfl rfl, ?_⟩
  refine List.forall_mem_cons.mpr ⟨s_getf C (by decide +kernel : decode c_X7_becomeLike 65 = .ok (.getfield 58, 3)) rfl rfl em_cl_X7 (by decide) ew100 rfl, ?_⟩
  refine List.forall_mem_cons.mpr ⟨s_putI C (by decide +kernel : decode c_X7_becomeLike 68 = .ok (.putfield 58, 3)) rfl rfl em_cl_X7 (by decide) ew100 rfl (by decide) (by decide +kernel), ?_⟩
  refine List.forall_mem_cons.mpr ⟨s_aload_n C (by decide +kernel : decode c_X7_becomeLike 71 = .ok (.aload_n 1, 1)) rfl rfl rfl, ?_⟩
  refine List.forall_mem_cons.mpr ⟨s_getf C (by decide +kernel : decode c_X7_becomeLike 72 = .ok (.getfield 15, 3)) rfl rfl em_cl_X7 (by decide) ew102 rfl, ?_⟩
  refine List.forall_mem_cons.mpr ⟨s_iconst C (by decide +kernel : decode c_X7_becomeLike 75 = .ok (.iconst 0, 1)) rfl rfl (by decide), ?_⟩
  refine List.forall_mem_cons.mpr ⟨s_aload_n C (by decide +kernel : decode c_X7_becomeLike 76 = .ok (.aload_n 0, 1)) rfl rfl rfl, ?_⟩
  refine List.forall_mem_cons.mpr ⟨s_getf C (by decide +kernel : decode c_X7_becomeLike 77 = .ok (.getfield 15, 3)) rfl rfl em_cl_X7 (by decide) ew102 rfl, ?_⟩
  refine List.forall_mem_cons.mpr ⟨s_iconst C (by decide +kernel : decode c_X7_becomeLike 80 = .ok (.iconst 0, 1)) rfl rfl (by decide), ?_⟩
  refine List.forall_mem_cons.mpr ⟨s_bipush C (by decide +kernel : decode c_X7_becomeLike 81 = .ok (.bipush 8, 2)) rfl rfl (by decide), ?_⟩
  refine List.forall_mem_cons.mpr ⟨s_acopyI C ew428 ew430 ew429 ew14 ⟨by decide, by decide⟩ (by decide +kernel : decode c_X7_becomeLike 83 = .ok (.invokestatic 70, 3)) rfl rfl, ?_⟩
  refine List.forall_mem_cons.mpr ⟨s_aload_n C (by decide +kernel : decode c_X7_becomeLike 86 = .ok (.aload_n 1, 1)) rfl rfl rfl, ?_⟩
  refine List.forall_mem_cons.mpr ⟨s_getf C (by decide +kernel : decode c_X7_becomeLike 87 = .ok (.getfield 18, 3)) rfl rfl em_cl_X7 (by decide) ew103 rfl, ?_⟩
  refine List.forall_mem_cons.mpr ⟨s_iconst C (by decide +kernel : decode c_X7_becomeLike 90 = .ok (.iconst 0, 1)) rfl rfl (by decide), ?_⟩
  refine List.forall_mem_cons.mpr ⟨s_aload_n C (by decide +kernel : decode c_X7_becomeLike 91 = .ok (.aload_n 0, 1)) rfl rfl rfl, ?_⟩
  refine List.forall_mem_cons.mpr ⟨s_getf C (by decide +kernel : decode c_X7_becomeLike 92 = .ok (.getfield 18, 3)) rfl rfl em_cl_X7 (by decide) ew103 rfl, ?_⟩
  refine List.forall_mem_cons.mpr ⟨s_iconst C (by decide +kernel : decode c_X7_becomeLike 95 = .ok (.iconst 0, 1)) rfl rfl (by decide), ?_⟩
  refine List.forall_mem_cons.mpr ⟨s_bipush C (by decide +kernel : decode c_X7_becomeLike 96 = .ok (.bipush 8, 2)) rfl rfl (by decide), ?_⟩
  refine List.forall_mem_cons.mpr ⟨s_acopyI C ew428 ew430 ew429 ew14 ⟨by decide, by decide⟩ (by decide +kernel : decode c_X7_becomeLike 98 = .ok (.invokestatic 70, 3)) rfl rfl, ?_⟩
  refine List.forall_mem_cons.mpr ⟨s_aload_n C (by decide +kernel : decode c_X7_becomeLike 101 = .ok (.aload_n 0, 1)) rfl rfl rfl, ?_⟩
  refine List.forall_mem_cons.mpr ⟨s_aload_n C (by decide +kernel : decode c_X7_becomeLike 102 = .ok (.aload_n 1, 1)) rfl rfl rfl, ?_⟩
  refine List.forall_mem_cons.mpr ⟨s_getf C (by decide +kernel : decode c_X7_becomeLike 103 = .ok (.getfield 61, 3)) rfl rfl em_cl_X7 (by decide) ew105 rfl, ?_⟩
  refine List.forall_mem_cons.mpr ⟨s_putI C (by decide +kernel : decode c_X7_becomeLike 106 = .ok (.putfield 61, 3)) rfl rfl em_cl_X7 (by decide) ew105 rfl (by decide) (by decide +kernel), ?_⟩
  refine List.forall_mem_cons.mpr ⟨s_aload_n C (by decide +kernel : decode c_X7_becomeLike 109 = .ok (.aload_n 0, 1)) rfl rfl rfl, ?_⟩
  refine List.forall_mem_cons.mpr ⟨s_aload_n C (by decide +kernel : decode c_X7_becomeLike 110 = .ok (.aload_n 1, 1)) rfl rfl rfl, ?_⟩
  refine List.forall_mem_cons.mpr ⟨s_getf C (by decide +kernel : decode c_X7_becomeLike 111 = .ok (.getfield 64, 3)) rfl rfl em_cl_X7 (by decide) ew107 rfl, ?_⟩
  refine List.forall_mem_cons.mpr ⟨s_putI C (by decide +kernel : decode c_X7_becomeLike 114 = .ok (.putfield 64, 3)) rfl rfl em_cl_X7 (by decide) ew107 rfl (by decide) (by decide +kernel), ?_⟩
  refine List.forall_mem_cons.mpr ⟨s_aload_n C (by decide +kernel : decode c_X7_becomeLike 117 = .ok (.aload_n 1, 1)) rfl rfl rfl, ?_⟩
  refine List.forall_mem_cons.mpr ⟨s_getf C (by decide +kernel : decode c_X7_becomeLike 118 = .ok (.getfield 21, 3)) rfl rfl em_cl_X7 (by decide) ew109 rfl, ?_⟩
  refine List.forall_mem_cons.mpr ⟨s_iconst C (by decide +kernel : decode c_X7_becomeLike 121 = .ok (.iconst 0, 1)) rfl rfl (by decide), ?_⟩
  refine List.forall_mem_cons.mpr ⟨s_aload_n C (by decide +kernel : decode c_X7_becomeLike 122 = .ok (.aload_n 0, 1)) rfl rfl rfl, ?_⟩
  refine List.forall_mem_cons.mpr ⟨s_getf C (by decide +kernel : decode c_X7_becomeLike 123 = .ok (.getfield 21, 3)) rfl rfl em_cl_X7 (by decide) ew109 rfl, ?_⟩
  refine List.forall_mem_cons.mpr ⟨s_iconst C (by decide +kernel : decode c_X7_becomeLike 126 = .ok (.iconst 0, 1)) rfl rfl (by decide), ?_⟩
  refine List.forall_mem_cons.mpr ⟨s_bipush C (by decide +kernel : decode c_X7_becomeLike 127 = .ok (.bipush 12, 2)) rfl rfl (by decide), ?_⟩
  refine List.forall_mem_cons.mpr ⟨s_acopyL C ew428 ew430 ew429 ew14 ⟨by decide, by decide⟩ (by decide +kernel : decode c_X7_becomeLike 129 = .ok (.invokestatic 70, 3)) rfl rfl, ?_⟩
  refine List.forall_mem_cons.mpr ⟨s_aload_n C (by decide +kernel : decode c_X7_becomeLike 132 = .ok (.aload_n 1, 1)) rfl rfl rfl, ?_⟩
  refine List.forall_mem_cons.mpr ⟨s_getf C (by decide +kernel : decode c_X7_becomeLike 133 = .ok (.getfield 25, 3)) rfl rfl em_cl_X7 (by decide) ew110 rfl, ?_⟩
  refine List.forall_mem_cons.mpr ⟨s_iconst C (by decide +kernel : decode c_X7_becomeLike 136 = .ok (.iconst 0, 1)) rfl rfl (by decide), ?_⟩
  refine List.forall_mem_cons.mpr ⟨s_aload_n C (by decide +kernel : decode c_X7_becomeLike 137 = .ok (.aload_n 0, 1)) rfl rfl rfl, ?_⟩
  refine List.forall_mem_cons.mpr ⟨s_getf C (by decide +kernel : decode c_X7_becomeLike 138 = .ok (.getfield 25, 3)) rfl rfl em_cl_X7 (by decide) ew110 rfl, ?_⟩
  refine List.forall_mem_cons.mpr ⟨s_iconst C (by decide +kernel : decode c_X7_becomeLike 141 = .ok (.iconst 0, 1)) rfl rfl (by decide), ?_⟩
  refine List.forall_mem_cons.mpr ⟨s_bipush C (by decide +kernel : decode c_X7_becomeLike 142 = .ok (.bipush 12, 2)) rfl rfl (by decide), ?_⟩
  refine List.forall_mem_cons.mpr ⟨s_acopyI C ew428 ew430 ew429 ew14 ⟨by decide, by decide⟩ (by decide +kernel : decode c_X7_becomeLike 144 = .ok (.invokestatic 70, 3)) rfl rfl, ?_⟩
  refine List.forall_mem_cons.mpr ⟨s_aload_n C (by decide +kernel : decode c_X7_becomeLike 147 = .ok (.aload_n 0, 1)) rfl rfl rfl, ?_⟩
  refine List.forall_mem_cons.mpr ⟨s_aload_n C (by decide +kernel : decode c_X7_becomeLike 148 = .ok (.aload_n 1, 1)) rfl rfl rfl, ?_⟩
  refine List.forall_mem_cons.mpr ⟨s_getf C (by decide +kernel : decode c_X7_becomeLike 149 = .ok (.getfield 67, 3)) rfl rfl em_cl_X7 (by decide) ew111 rfl, ?_⟩
  refine List.forall_mem_cons.mpr ⟨s_putI C (by decide +kernel : decode c_X7_becomeLike 152 = .ok (.putfield 67, 3)) rfl rfl em_cl_X7 (by decide) ew111 rfl (by decide) (by decide +kernel), ?_⟩
  refine List.forall_mem_cons.mpr ⟨s_aload_n C (by decide +kernel : decode c_X7_becomeLike 155 = .ok (.aload_n 1, 1)) rfl rfl rfl, ?_⟩
  refine List.forall_mem_cons.mpr ⟨s_getf C (by decide +kernel : decode c_X7_becomeLike 156 = .ok (.getfield 28, 3)) rfl rfl em_cl_X7 (by decide) ew113 rfl, ?_⟩
  refine List.forall_mem_cons.mpr ⟨s_iconst C (by decide +kernel : decode c_X7_becomeLike 159 = .ok (.iconst 0, 1)) rfl rfl (by decide), ?_⟩
  refine List.forall_mem_cons.mpr ⟨s_aload_n C (by decide +kernel : decode c_X7_becomeLike 160 = .ok (.aload_n 0, 1)) rfl rfl rfl, ?_⟩
  refine List.forall_mem_cons.mpr ⟨s_getf C (by decide +kernel : decode c_X7_becomeLike 161 = .ok (.getfield 28, 3)) rfl rfl em_cl_X7 (by decide) ew113 rfl, ?_⟩
  refine List.forall_mem_cons.mpr ⟨s_iconst C (by decide +kernel : decode c_X7_becomeLike 164 = .ok (.iconst 0, 1)) rfl rfl (by decide), ?_⟩
  refine List.forall_mem_cons.mpr ⟨s_bipush C (by decide +kernel : decode c_X7_becomeLike 165 = .ok (.bipush 10, 2)) rfl rfl (by decide), ?_⟩
  refine List.forall_mem_cons.mpr ⟨s_acopyI C ew428 ew430 ew429 ew14 ⟨by decide, by decide⟩ (by decide +kernel : decode c_X7_becomeLike 167 = .ok (.invokestatic 70, 3)) rfl rfl, ?_⟩
  refine List.forall_mem_cons.mpr ⟨s_aload_n C (by decide +kernel : decode c_X7_becomeLike 170 = .ok (.aload_n 1, 1)) rfl rfl rfl, ?_⟩
  refine List.forall_mem_cons.mpr ⟨s_getf C (by decide +kernel : decode c_X7_becomeLike 171 = .ok (.getfield 31, 3)) rfl rfl em_cl_X7 (by decide) ew114 rfl, ?_⟩
  refine List.forall_mem_cons.mpr ⟨s_iconst C (by decide +kernel : decode c_X7_becomeLike 174 = .ok (.iconst 0, 1)) rfl rfl (by decide), ?_⟩
  refine List.forall_mem_cons.mpr ⟨s_aload_n C (by decide +kernel : decode c_X7_becomeLike 175 = .ok (.aload_n 0, 1)) rfl rfl rfl, ?_⟩
  refine List.forall_mem_cons.mpr ⟨s_getf C (by decide +kernel : decode c_X7_becomeLike 176 = .ok (.getfield 31, 3)) rfl rfl em_cl_X7 (by decide) ew114 rfl, ?_⟩
  refine List.forall_mem_cons.mpr ⟨s_iconst C (by decide +kernel : decode c_X7_becomeLike 179 = .ok (.iconst 0, 1)) rfl rfl (by decide), ?_⟩
  refine List.forall_mem_cons.mpr ⟨s_bipush C (by decide +kernel : decode c_X7_becomeLike 180 = .ok (.bipush 10, 2)) rfl rfl (by decide), ?_⟩
  refine List.forall_mem_cons.mpr ⟨s_acopyZ C ew428 ew430 ew429 ew14 ⟨by decide, by decide⟩ (by decide +kernel : decode c_X7_becomeLike 182 = .ok (.invokestatic 70, 3)) rfl rfl, ?_⟩
  refine List.forall_mem_cons.mpr ⟨s_vret C (by decide +kernel : decode c_X7_becomeLike 185 = .ok (.return_, 1)) hret hlk ⟨Nat.le_refl 0, Nat.le_refl 0⟩, ?_⟩
  exact fun _ h => absurd h List.not_mem_nil
