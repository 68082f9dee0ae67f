/-! ===== WedApart.read ===== -/
/-- the spare town behind the world's own cells -/
def tw16 (pe0 : Int32) (ki0 : Nat → Int32) (mi0 se0 : Int64) (we0 lea0 mst0 pa0 : Int32) (fi0 sd0 : Nat → Int32) (ev0 un0 : Int32) (ma0 : Nat → Int64) (ea0 : Nat → Int32) (co0 : Int32) (ca0 clt0 : Nat → Int32) (Y : em_H) : em_H :=
  .inr (2, [.int pe0, .ref 17, .long mi0, .long se0, .int we0, .int lea0, .int mst0, .int pa0, .ref 18, .ref 19, .int ev0, .int un0, .ref 20, .ref 21, .int co0, .ref 22, .ref 23]) :: .inl (0, 6, .inl ki0) :: .inl (0, 8, .inl fi0) :: .inl (0, 8, .inl sd0) :: .inl (1, 12, .inr (.inl ma0)) :: .inl (0, 12, .inl ea0) :: .inl (0, 10, .inl ca0) :: .inl (3, 10, .inl clt0) :: Y
/-- as wX, with the two towns' parts changed -/
def wX2 (by9 : Nat → Int32) (tln tst ten : Int32) (mm : Nat → Int64) (fa9 fb9 : Int32) (rf : Nat → Int32) (im : Nat → Option Nat) (pe : Int32) (ki : Nat → Int32) (mi se : Int64) (we lea mst pa : Int32) (fi sd : Nat → Int32) (ev un : Int32) (ma : Nat → Int64) (ea : Nat → Int32) (co : Int32) (ca clt : Nat → Int32) (Y : em_H) : em_H :=
  .inr (4, [.ref 1, .ref 3, .ref 5, .ref 6, .ref 7, .ref 16, .ref 8]) :: .inr (3, [.ref 2, .int tln, .int tst, .int ten]) :: .inl (2, 150, .inl by9) :: .inr (0, [.ref 4]) :: .inl (1, 201, .inr (.inl mm)) :: .inr (1, [.int fa9, .int fb9]) :: .inl (0, 3, .inl rf) :: .inl (4, 2, .inr (.inr (.inr (.inr im)))) ::
  .inr (2, [.int pe, .ref 9, .long mi, .long se, .int we, .int lea, .int mst, .int pa, .ref 10, .ref 11, .int ev, .int un, .ref 12, .ref 13, .int co, .ref 14, .ref 15]) :: .inl (0, 6, .inl ki) :: .inl (0, 8, .inl fi) :: .inl (0, 8, .inl sd) :: .inl (1, 12, .inr (.inl ma)) :: .inl (0, 12, .inl ea) :: .inl (0, 10, .inl ca) :: .inl (3, 10, .inl clt) :: Y
theorem neg10 : ∀ f, f < 151 → ¬ (0 : Int32) ≤ (-10) - nI f := by decide +kernel
theorem neg1000 : ∀ f, f < 151 → ¬ (0 : Int32) ≤ (-1000) - nI f := by decide +kernel
theorem prs_f {C : Nat → Nat} {L q : Nat} : ∀ f p, p ≤ L → (prs C L f p).2 = some q → q ≤ L
  | 0, p, hp, h => by cases h
  | f + 1, p, hp, h => by
    rw [prs] at h
    split at h
    · cases h
    · rw [prI_it] at h
      cases hI : itR C L p with
      | inl q' =>
        rw [hI] at h
        dsimp only at h
        have := (tkS_le (C := C) (itR_fl hp hI)).2
        have e := Option.some.inj h
        omega
      | inr x =>
        obtain ⟨v, a, b, q'⟩ := x
        rw [hI] at h
        dsimp only at h
        have hq := (itR_nx hp hI).2
        by_cases h3 : knd C L q' = 3
        · rw [if_pos h3] at h
          dsimp only at h
          exact prs_f f _ (nxp_le hq).2.1 h
        · rw [if_neg h3] at h
          dsimp only at h
          have := (tkS_le (C := C) hq).2
          have e := Option.some.inj h
          omega
def sp_X9_read : em_Sp := fun av hp Q => ∃ by9 tln tst ten mm fa9 fb9 rf im pe ki mi se we lea mst pa fi sd ev un ma ea co ca clt pe0 ki0 mi0 se0 we0 lea0 mst0 pa0 fi0 sd0 ev0 un0 ma0 ea0 co0 ca0 clt0 Yr C L nn B, av = [.ref 0] ∧ hp = (wX by9 tln tst ten mm fa9 fb9 rf im pe ki mi se we lea mst pa fi sd ev un ma ea co ca clt (tw16 pe0 ki0 mi0 se0 we0 lea0 mst0 pa0 fi0 sd0 ev0 un0 ma0 ea0 co0 ca0 clt0 Yr)) ∧ TY by9 tln C L ∧ (∀ j, j < 10 → clt0 j = 0 ∨ clt0 j = 1) ∧ (∀ f s' e' B1 pe1 ki1 mi1 se1 we1 lea1 mst1 pa1 fi1 sd1 ev1 un1 ma1 ea1 co1 ca1 clt1, (prs C L 151 0).2 = some f → RT nn B1 pe1 ki1 mi1 se1 we1 lea1 mst1 pa1 fi1 sd1 ev1 un1 ma1 ea1 co1 ca1 clt1 → Q (some (.int ((-10) - nI f))) (wX by9 tln (s') (e') mm fa9 fb9 rf im pe ki mi se we lea mst pa fi sd ev un ma ea co ca clt (tw16 pe1 ki1 mi1 se1 we1 lea1 mst1 pa1 fi1 sd1 ev1 un1 ma1 ea1 co1 ca1 clt1 Yr))) ∧ (∀ s' e' B1 pe1 ki1 mi1 se1 we1 lea1 mst1 pa1 fi1 sd1 ev1 un1 ma1 ea1 co1 ca1 clt1, (prs C L 151 0).2 = none → RT nn B1 pe1 ki1 mi1 se1 we1 lea1 mst1 pa1 fi1 sd1 ev1 un1 ma1 ea1 co1 ca1 clt1 → ((tlL (emB B) (prs C L 151 0).1).2.2 = true → B1 = (tlL (emB B) (prs C L 151 0).1).2.1 → Q (some (.int (nI (prs C L 151 0).1.length))) (wX2 by9 tln s' e' mm fa9 fb9 rf im pe ki mi se we lea mst pa fi sd ev un ma ea co ca clt (tw16 pe1 ki1 mi1 se1 we1 lea1 mst1 pa1 fi1 sd1 ev1 un1 ma1 ea1 co1 ca1 clt1 Yr))) ∧ ((tlL (emB B) (prs C L 151 0).1).2.2 = false → Q (some (.int ((-1000) - nI (tlL (emB B) (prs C L 151 0).1).1))) (wX by9 tln (s') (e') mm fa9 fb9 rf im pe ki mi se we lea mst pa fi sd ev un ma ea co ca clt (tw16 pe1 ki1 mi1 se1 we1 lea1 mst1 pa1 fi1 sd1 ev1 un1 ma1 ea1 co1 ca1 clt1 Yr))))
def T_X9_read : List (Nat × em_Op) := [(0, o_aload 0 1), (1, o_getf 4 6 4), (4, o_callP 1 (some 2) [16, 17, 18, 19, 20, 21, 22, 23] (sp_X7_begin) 7), (7, o_aload 0 8), (8, o_getf 4 0 11), (11, o_aload 0 12), (12, o_getf 4 6 15), (15, o_callP 2 (some 3) [1, 2, 16, 17, 18, 19, 20, 21, 22, 23] (sp_X8_tellTo) 18), (18, o_istore 1 19), (19, o_iload 1 20), (20, o_ifge 25 23), (23, o_iload 1 24), (24, o_iret), (25, o_aload 0 26), (26, o_getf 4 5 29), (29, o_astore 2 30), (30, o_aload 0 31), (31, o_aload 0 32), (32, o_getf 4 6 35), (35, o_putR 4 5 38), (38, o_aload 0 39), (39, o_aload 2 40), (40, o_putR 4 6 43), (43, o_iload 1 44), (44, o_iret)]
theorem me_X9_read : em_Me T_X9_read 3 sp_X9_read := by
  intro Q K hK hle av hp hs
  obtain ⟨by9, tln, tst, ten, mm, fa9, fb9, rf, im, pe, ki, mi, se, we, lea, mst, pa, fi, sd, ev, un, ma, ea, co, ca, clt, pe0, ki0, mi0, se0, we0, lea0, mst0, pa0, fi0, sd0, ev0, un0, ma0, ea0, co0, ca0, clt0, Yr, C, L, nn, B, rfl, rfl, hT, hz, hF, hG⟩ := hs
  have hL := hT.2.2.1
  refine ⟨Nat.le_of_ble_eq_true rfl, hK 0 9 0 _ _ _ ?_⟩
  refine ⟨_, _, _, _, _, _, _, _, _, _, _, _, _, _, _, _, _, rfl, rfl, ?_⟩
  refine ⟨_, _, _, _, _, _, _, _, _, _, _, _, _, _, _, _, _, _, _, _, _, C, L, nn, emB B, rfl, rfl, hT, RT_begin (pe := 0) (mi := 0) (se := 0) (we := 0) (lea := 0) (mst := 0) (pa := 0) (ev := 0) (un9 := 0) (co := 0) hz, fun f s' e' B1 pe1 ki1 mi1 se1 we1 lea1 mst1 pa1 fi1 sd1 ev1 un1 ma1 ea1 co1 ca1 clt1 hf hR => ?_, fun s' e' B1 pe1 ki1 mi1 se1 we1 lea1 mst1 pa1 fi1 sd1 ev1 un1 ma1 ea1 co1 ca1 clt1 hn hR => ⟨fun h1 h2 h3 => ?_, fun h1 h2 => ?_⟩⟩
  · have := prs_f 151 0 (Nat.zero_le L) hf
    exact hK 9 4 19 _ _ _ ⟨fun z => absurd z (neg10 f (by omega)), fun _ => hF f s' e' B1 _ _ _ _ _ _ _ _ _ _ _ _ _ _ _ _ _ hf hR⟩
  · have hq := (hG s' e' B1 _ _ _ _ _ _ _ _ _ _ _ _ _ _ _ _ _ hn hR).1 h1 h2
    refine hK 9 4 19 _ _ _ ⟨fun _ => ?_, fun z => absurd (Int32.not_lt.mp (nI_pos (by omega))) z⟩
    exact hK 13 9999 25 _ _ _ hq
  · have hq := (hG s' e' B1 _ _ _ _ _ _ _ _ _ _ _ _ _ _ _ _ _ hn hR).2 h1
    exact hK 9 4 19 _ _ _ ⟨fun z => absurd z (neg1000 _ (by omega)), fun _ => hq⟩
abbrev rm_X9_read : Room := { frames := 8, cells := 0, slots := 0, locals := 179 }
set_option maxRecDepth 100000 in
set_option maxHeartbeats 4000000 in
theorem ct_X9_read (l : Launch) (D : va_G) (dA : Nat → ClassId) (σ : Nat → Nat) : em_CT l D em_cl dA σ (em_F σ) y_X9_read c_X9_read 3 (Option.some ClassFile.FieldType.int) rm_X9_read (sp_X9_read ) := by
  refine em_CT_of (T := T_X9_read ) (em_F_ok σ) (by decide) (fun p e s m args below meth c A ρ Q C hFok hF hret hlk hin => ?_) (me_X9_read )
  unfold T_X9_read
  refine List.forall_mem_cons.mpr ⟨s_aload_n C (by decide +kernel : decode c_X9_read 0 = .ok (.aload_n 0, 1)) rfl rfl rfl, ?_⟩
  refine List.forall_mem_cons.mpr ⟨s_getf C (by decide +kernel : decode c_X9_read 1 = .ok (.getfield 45, 3)) rfl rfl em_cl_X9 (by decide) ew158 rfl, ?_⟩
  refine List.forall_mem_cons.mpr ⟨s_callPV C hFok hF (ct_X7_begin l D dA σ) ⟨rfl, rfl⟩ ew84 em_cl_X7 ew275 ew82 ew83 ew5 ⟨by decide, by decide, by decide +kernel⟩ ⟨by decide, by decide⟩ (by decide +kernel : decode c_X9_read 4 = .ok (.invokevirtual 96, 3)) rfl rfl ⟨Nat.zero_le _, Nat.zero_le _⟩ (by decide), ?_⟩
  refine List.forall_mem_cons.mpr ⟨s_aload_n C (by decide +kernel : decode c_X9_read 7 = .ok (.aload_n 0, 1)) rfl rfl rfl, ?_⟩
  refine List.forall_mem_cons.mpr ⟨s_getf C (by decide +kernel : decode c_X9_read 8 = .ok (.getfield 10, 3)) rfl rfl em_cl_X9 (by decide) ew152 rfl, ?_⟩
  refine List.forall_mem_cons.mpr ⟨s_aload_n C (by decide +kernel : decode c_X9_read 11 = .ok (.aload_n 0, 1)) rfl rfl rfl, ?_⟩
  refine List.forall_mem_cons.mpr ⟨s_getf C (by decide +kernel : decode c_X9_read 12 = .ok (.getfield 45, 3)) rfl rfl em_cl_X9 (by decide) ew158 rfl, ?_⟩
  refine List.forall_mem_cons.mpr ⟨s_callPV C hFok hF (ct_X8_tellTo l D dA σ) ⟨rfl, rfl⟩ ew279 em_cl_X8 ew276 ew277 ew278 ew2 ⟨by decide, by decide, by decide +kernel⟩ ⟨by decide, by decide⟩ (by decide +kernel : decode c_X9_read 15 = .ok (.invokevirtual 99, 3)) rfl rfl ⟨Nat.zero_le _, Nat.zero_le _⟩ (by decide), ?_⟩
  refine List.forall_mem_cons.mpr ⟨s_istore_n C (by decide +kernel : decode c_X9_read 18 = .ok (.istore_n 1, 1)) rfl rfl rfl (by decide), ?_⟩
  refine List.forall_mem_cons.mpr ⟨s_iload_n C (by decide +kernel : decode c_X9_read 19 = .ok (.iload_n 1, 1)) rfl rfl rfl, ?_⟩
  refine List.forall_mem_cons.mpr ⟨s_ifge C (by decide +kernel : decode c_X9_read 20 = .ok (.ifCond .ge 5, 3)) (by decide) rfl rfl rfl, ?_⟩
  refine List.forall_mem_cons.mpr ⟨s_iload_n C (by decide +kernel : decode c_X9_read 23 = .ok (.iload_n 1, 1)) rfl rfl rfl, ?_⟩
  refine List.forall_mem_cons.mpr ⟨s_iret C (by decide +kernel : decode c_X9_read 24 = .ok (.ireturn, 1)) hret hlk ⟨Nat.le_refl 0, Nat.le_refl 0⟩, ?_⟩
  refine List.forall_mem_cons.mpr ⟨s_aload_n C (by decide +kernel : decode c_X9_read 25 = .ok (.aload_n 0, 1)) rfl rfl rfl, ?_⟩
  refine List.forall_mem_cons.mpr ⟨s_getf C (by decide +kernel : decode c_X9_read 26 = .ok (.getfield 41, 3)) rfl rfl em_cl_X9 (by decide) ew157 rfl, ?_⟩
  refine List.forall_mem_cons.mpr ⟨s_astore_n C (by decide +kernel : decode c_X9_read 29 = .ok (.astore_n 2, 1)) rfl rfl rfl (by decide), ?_⟩
  refine List.forall_mem_cons.mpr ⟨s_aload_n C (by decide +kernel : decode c_X9_read 30 = .ok (.aload_n 0, 1)) rfl rfl rfl, ?_⟩
  refine List.forall_mem_cons.mpr ⟨s_aload_n C (by decide +kernel : decode c_X9_read 31 = .ok (.aload_n 0, 1)) rfl rfl rfl, ?_⟩
  refine List.forall_mem_cons.mpr ⟨s_getf C (by decide +kernel : decode c_X9_read 32 = .ok (.getfield 45, 3)) rfl rfl em_cl_X9 (by decide) ew158 rfl, ?_⟩
  refine List.forall_mem_cons.mpr ⟨s_putR C (by decide +kernel : decode c_X9_read 35 = .ok (.putfield 41, 3)) rfl rfl em_cl_X9 (by decide) ew157 rfl (by decide) (Or.inl ⟨_, rfl⟩) (fty := .object "WedApart$Town") (by decide +kernel), ?_⟩
  refine List.forall_mem_cons.mpr ⟨s_aload_n C (by decide +kernel : decode c_X9_read 38 = .ok (.aload_n 0, 1)) rfl rfl rfl, ?_⟩
  refine List.forall_mem_cons.mpr ⟨s_aload_n C (by decide +kernel : decode c_X9_read 39 = .ok (.aload_n 2, 1)) rfl rfl rfl, ?_⟩
  refine List.forall_mem_cons.mpr ⟨s_putR C (by decide +kernel : decode c_X9_read 40 = .ok (.putfield 45, 3)) rfl rfl em_cl_X9 (by decide) ew158 rfl (by decide) (Or.inl ⟨_, rfl⟩) (fty := .object "WedApart$Town") (by decide +kernel), ?_⟩
  refine List.forall_mem_cons.mpr ⟨s_iload_n C (by decide +kernel : decode c_X9_read 43 = .ok (.iload_n 1, 1)) rfl rfl rfl, ?_⟩
  refine List.forall_mem_cons.mpr ⟨s_iret C (by decide +kernel : decode c_X9_read 44 = .ok (.ireturn, 1)) hret hlk ⟨Nat.le_refl 0, Nat.le_refl 0⟩, ?_⟩
  exact fun _ h => absurd h List.not_mem_nil
