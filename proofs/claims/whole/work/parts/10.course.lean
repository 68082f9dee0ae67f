/-! ===== Course ===== -/
def wC (mm : Nat → Int64) (pe : Int32) (ki : Nat → Int32) (mi se : Int64) (we lea mst pa : Int32) (fi sd : Nat → Int32) (ev un : Int32) (ma : Nat → Int64) (ea : Nat → Int32) (co : Int32) (ca clt : Nat → Int32) : em_H :=
  [.inr (0, [.ref 1]), .inl (1, 201, .inr (.inl mm)), .inr (2, [.int pe, .ref 3, .long mi, .long se, .int we, .int lea, .int mst, .int pa, .ref 4, .ref 5, .int ev, .int un, .ref 6, .ref 7, .int co, .ref 8, .ref 9]), .inl (0, 6, .inl ki), .inl (0, 8, .inl fi), .inl (0, 8, .inl sd), .inl (1, 12, .inr (.inl ma)), .inl (0, 12, .inl ea), .inl (0, 10, .inl ca), .inl (3, 10, .inl clt)]
def wC2 (mm : Nat → Int64) : em_H := [.inr (0, [.ref 1]), .inl (1, 201, .inr (.inl mm))]
/-- the calendar's pairs are of people who are there -/
def calOk (n np : Nat) (fi sd : Nat → Int32) (fa fb : Nat → Nat) : Prop := ∀ k, k < np → fi k = nI (fa k) ∧ sd k = nI (fb k) ∧ fa k < n ∧ fb k < n ∧ fa k ≠ fb k
def evN (np : Nat) (ki : Nat → Int32) (we : Int32) (fa fb : Nat → Nat) (e : Nat) (m : Int64) : Int64 := if np = 0 then m else btk ki we m (fa (e % np)) (fb (e % np))
def sp_X7_behindEvening2 : em_Sp := fun av hp Q => ∃ pe ki mi se we lea mst pa fi sd ev un ma ea co ca clt m e n np fa fb, av = [.ref 0, .long m, .int (nI e)] ∧ hp = (wT pe ki mi se we lea mst pa fi sd ev un ma ea co ca clt) ∧ pe = nI n ∧ n ≤ 6 ∧ pa = nI np ∧ np ≤ 8 ∧ e < 2 ^ 30 ∧ calOk n np fi sd fa fb ∧ Q (some (.long (evN np ki we fa fb e m))) hp
theorem ct_X7_behindEvening2 (l : Launch) (D : va_G) (dA : Nat → ClassId) (σ : Nat → Nat) : em_CT l D em_cl dA σ (em_F σ) y_X7_behindEvening c_X7_behindEvening 5 (Option.some ClassFile.FieldType.long) rm_X7_behindEvening sp_X7_behindEvening2 := by
  refine (ct_X7_behindEvening l D dA σ).weak (fun av hp Q h => ?_)
  obtain ⟨pe, ki, mi, se, we, lea, mst, pa, fi, sd, ev, un, ma, ea, co, ca, clt, m, e, n, np, fa, fb, rfl, rfl, rfl, hn, rfl, hnp, he, hcal, hq⟩ := h
  refine ⟨_, _, _, _, _, _, _, _, _, _, _, _, _, _, _, _, _, m, e, n, np, rfl, rfl, rfl, hn, rfl, hnp, he, fun z => ?_, fun z => ?_⟩
  · rw [evN, if_pos z] at hq
    exact hq
  · obtain ⟨c1, c2, c3, c4, c5⟩ := hcal _ (Nat.mod_lt e z)
    rw [evN, if_neg (by omega)] at hq
    exact ⟨_, _, c1, c2, c3, c4, c5, hq⟩
def csm (np : Nat) (ki : Nat → Int32) (we : Int32) (fa fb : Nat → Nat) (e0 : Nat) (m0 : Int64) : Nat → Int64
  | 0 => m0
  | t + 1 => evN np ki we fa fb (e0 + t) (csm np ki we fa fb e0 m0 t)
def sp_X0_follow : em_Sp := fun av hp Q => ∃ mm pe ki mi se we lea mst pa fi sd ev un ma ea co ca clt n np e0 fa fb, av = [.ref 0, .ref 2] ∧ hp = (wC mm pe ki mi se we lea mst pa fi sd ev un ma ea co ca clt) ∧ pe = nI n ∧ n ≤ 6 ∧ pa = nI np ∧ np ≤ 8 ∧ ev = nI e0 ∧ e0 < 2 ^ 20 ∧ calOk n np fi sd fa fb ∧ (∀ mm', (∀ t, t ≤ 200 → mm' t = csm np ki we fa fb e0 mi t) → Q none (wC (mm') pe ki mi se we lea mst pa fi sd ev un ma ea co ca clt))
def T_X0_follow : List (Nat × em_Op) := [(0, o_aload 0 1), (1, o_getf 0 0 4), (4, o_iconst 0 5), (5, o_aload 1 6), (6, o_getf 2 2 9), (9, o_last 10), (10, o_iconst 1 11), (11, o_istore 2 12), (12, o_iload 2 13), (13, o_iconst 200 16), (16, o_icmpgt 51 19), (19, o_aload 0 20), (20, o_getf 0 0 23), (23, o_iload 2 24), (24, o_aload 1 25), (25, o_aload 0 26), (26, o_getf 0 0 29), (29, o_iload 2 30), (30, o_iconst 1 31), (31, o_isub 32), (32, o_aldL 1 33), (33, o_aload 1 34), (34, o_getf 2 10 37), (37, o_iload 2 38), (38, o_iadd 39), (39, o_iconst 1 40), (40, o_isub 41), (41, o_callP 3 (some 2) [2, 3, 4, 5, 6, 7, 8, 9] (sp_X7_behindEvening) 44), (44, o_last 45), (45, o_iinc 2 1 48), (48, o_goto 12), (51, o_vret)]
theorem me_X0_follow : em_Me T_X0_follow 3 sp_X0_follow := by
  intro Q K hK hle av hp hs
  obtain ⟨mm, pe, ki, mi, se, we, lea, mst, pa, fi, sd, ev, un, ma, ea, co, ca, clt, n, np, e0, fa, fb, rfl, rfl, rfl, hn, rfl, hnp, rfl, he0, hcal, hq⟩ := hs
  refine ⟨Nat.le_of_ble_eq_true rfl, ?_⟩
  have loop : ∀ (r i : Nat) (mm' : Nat → Int64), i + r = 201 → 1 ≤ i → (∀ t, t < i → mm' t = csm np ki we fa fb e0 mi t) → K 12 [some (.ref 0), some (.ref 2), some (.int (nI i))] [] (wC (mm') (nI n) ki mi se we lea mst (nI np) fi sd (nI e0) un ma ea co ca clt) := by
    intro r
    induction r with
    | zero =>
      intro i mm' hi h1 hm
      have hi : i = 201 := by omega
      subst hi
      refine hK 8 9999 12 _ _ _ ?_
      exact ⟨fun _ => hq mm' (fun t ht => hm t (by omega)), fun z => absurd (nI_lt (a := 200) (b := 201) (by omega) (by omega)) z⟩
    | succ r ih =>
      intro i mm' hi h1 hm
      obtain ⟨j, rfl⟩ : ∃ j, i = j + 1 := ⟨i - 1, by omega⟩
      refine hK 8 9999 12 _ _ _ ?_
      refine ⟨fun z => absurd z (nI_nlt (a := 200) (b := j + 1) (by omega) (by omega)), fun _ => ?_⟩
      refine ⟨j, nI_pred j, by omega, ?_⟩
      have e1 : nI e0 + nI (j + 1) - 1 = nI (e0 + j) := by rw [nI_add, ← Nat.add_assoc, nI_pred]
      have fin : K 44 [some (.ref 0), some (.ref 2), some (.int (nI (j + 1)))] [.long (evN np ki we fa fb (e0 + j) (mm' j)), .int (nI (j + 1)), .ref 1] (wC (mm') (nI n) ki mi se we lea mst (nI np) fi sd (nI e0) un ma ea co ca clt) := by
        refine hK 28 3 44 _ _ _ ?_
        refine ⟨j + 1, rfl, by omega, ?_⟩
        have := ih (j + 1 + 1) (vp_updL mm' (j + 1) (evN np ki we fa fb (e0 + j) (mm' j))) (by omega) (by omega) (fun t ht => by
          by_cases hz : t = j + 1
          · subst hz
            rw [pk_uLs, csm, hm j (by omega)]
          · rw [pk_uLn hz, hm t (by omega)])
        rw [← nI_1 (j + 1)] at this
        exact this
      refine ⟨_, _, _, _, _, _, _, _, _, _, _, _, _, _, _, _, _, mm' j, e0 + j, n, np, by rw [← e1], rfl, rfl, hn, rfl, hnp, by omega, fun z => ?_, fun z => ?_⟩
      · rw [evN, if_pos z] at fin
        exact ⟨j + 1, rfl, by omega, by
          have := ih (j + 1 + 1) (vp_updL mm' (j + 1) (mm' j)) (by omega) (by omega) (fun t ht => by
            by_cases hz : t = j + 1
            · subst hz
              rw [pk_uLs, csm, evN, if_pos z, hm j (by omega)]
            · rw [pk_uLn hz, hm t (by omega)])
          rw [← nI_1 (j + 1)] at this
          exact this⟩
      · obtain ⟨c1, c2, c3, c4, c5⟩ := hcal _ (Nat.mod_lt (e0 + j) z)
        refine ⟨_, _, c1, c2, c3, c4, c5, ?_⟩
        exact ⟨j + 1, rfl, by omega, by
          have := ih (j + 1 + 1) (vp_updL mm' (j + 1) (btk ki we (mm' j) (fa ((e0 + j) % np)) (fb ((e0 + j) % np)))) (by omega) (by omega) (fun t ht => by
            by_cases hz : t = j + 1
            · subst hz
              rw [pk_uLs, csm, evN, if_neg (by omega), hm j (by omega)]
            · rw [pk_uLn hz, hm t (by omega)])
          rw [← nI_1 (j + 1)] at this
          exact this⟩
  refine hK 0 8 0 _ _ _ ?_
  refine ⟨0, rfl, by omega, ?_⟩
  exact loop 200 1 _ rfl (Nat.le_refl 1) (fun t ht => by
    have : t = 0 := by omega
    subst this
    rw [pk_uLs, csm])
abbrev rm_X0_follow : Room := { frames := 4, cells := 0, slots := 0, locals := 105 }
set_option maxRecDepth 100000 in
set_option maxHeartbeats 4000000 in
theorem ct_X0_follow (l : Launch) (D : va_G) (dA : Nat → ClassId) (σ : Nat → Nat) : em_CT l D em_cl dA σ (em_F σ) y_X0_follow c_X0_follow 3 (Option.none : Option ClassFile.FieldType) rm_X0_follow (sp_X0_follow ) := by
  refine em_CT_of (T := T_X0_follow ) (em_F_ok σ) (by decide) (fun p e s m args below meth c A ρ Q C hFok hF hret hlk hin => ?_) (me_X0_follow )
  unfold T_X0_follow
  refine List.forall_mem_cons.mpr ⟨s_aload_n C (by decide +kernel : decode c_X0_follow 0 = .ok (.aload_n 0, 1)) rfl rfl rfl, ?_⟩
  refine List.forall_mem_cons.mpr ⟨s_getf C (by decide +kernel : decode c_X0_follow 1 = .ok (.getfield 9, 3)) rfl rfl em_cl_X0 (by decide) ew54 rfl, ?_⟩
  refine List.forall_mem_cons.mpr ⟨s_iconst C (by decide +kernel : decode c_X0_follow 4 = .ok (.iconst 0, 1)) rfl rfl (by decide), ?_⟩
  refine List.forall_mem_cons.mpr ⟨s_aload_n C (by decide +kernel : decode c_X0_follow 5 = .ok (.aload_n 1, 1)) rfl rfl rfl, ?_⟩
  refine List.forall_mem_cons.mpr ⟨s_getf C (by decide +kernel : decode c_X0_follow 6 = .ok (.getfield 15, 3)) rfl rfl em_cl_X7 (by decide) ew90 rfl, ?_⟩
  refine List.forall_mem_cons.mpr ⟨s_last C (by decide +kernel : decode c_X0_follow 9 = .ok (.lastore, 1)) rfl rfl, ?_⟩
  refine List.forall_mem_cons.mpr ⟨s_iconst C (by decide +kernel : decode c_X0_follow 10 = .ok (.iconst 1, 1)) rfl rfl (by decide), ?_⟩
  refine List.forall_mem_cons.mpr ⟨s_istore_n C (by decide +kernel : decode c_X0_follow 11 = .ok (.istore_n 2, 1)) rfl rfl rfl (by decide), ?_⟩
  refine List.forall_mem_cons.mpr ⟨s_iload_n C (by decide +kernel : decode c_X0_follow 12 = .ok (.iload_n 2, 1)) rfl rfl rfl, ?_⟩
  refine List.forall_mem_cons.mpr ⟨s_sipush C (by decide +kernel : decode c_X0_follow 13 = .ok (.sipush 200, 3)) rfl rfl (by decide), ?_⟩
  refine List.forall_mem_cons.mpr ⟨s_icmpgt C (by decide +kernel : decode c_X0_follow 16 = .ok (.if_icmp .gt 35, 3)) (by decide) rfl rfl rfl, ?_⟩
  refine List.forall_mem_cons.mpr ⟨s_aload_n C (by decide +kernel : decode c_X0_follow 19 = .ok (.aload_n 0, 1)) rfl rfl rfl, ?_⟩
  refine List.forall_mem_cons.mpr ⟨s_getf C (by decide +kernel : decode c_X0_follow 20 = .ok (.getfield 9, 3)) rfl rfl em_cl_X0 (by decide) ew54 rfl, ?_⟩
  refine List.forall_mem_cons.mpr ⟨s_iload_n C (by decide +kernel : decode c_X0_follow 23 = .ok (.iload_n 2, 1)) rfl rfl rfl, ?_⟩
  refine List.forall_mem_cons.mpr ⟨s_aload_n C (by decide +kernel : decode c_X0_follow 24 = .ok (.aload_n 1, 1)) rfl rfl rfl, ?_⟩
  refine List.forall_mem_cons.mpr ⟨s_aload_n C (by decide +kernel : decode c_X0_follow 25 = .ok (.aload_n 0, 1)) rfl rfl rfl, ?_⟩
  refine List.forall_mem_cons.mpr ⟨s_getf C (by decide +kernel : decode c_X0_follow 26 = .ok (.getfield 9, 3)) rfl rfl em_cl_X0 (by decide) ew54 rfl, ?_⟩
  refine List.forall_mem_cons.mpr ⟨s_iload_n C (by decide +kernel : decode c_X0_follow 29 = .ok (.iload_n 2, 1)) rfl rfl rfl, ?_⟩
  refine List.forall_mem_cons.mpr ⟨s_iconst C (by decide +kernel : decode c_X0_follow 30 = .ok (.iconst 1, 1)) rfl rfl (by decide), ?_⟩
  refine List.forall_mem_cons.mpr ⟨s_isub C (by decide +kernel : decode c_X0_follow 31 = .ok (.isub, 1)) rfl rfl, ?_⟩
  refine List.forall_mem_cons.mpr ⟨s_lald C (by decide +kernel : decode c_X0_follow 32 = .ok (.laload, 1)) rfl rfl, ?_⟩
  refine List.forall_mem_cons.mpr ⟨s_aload_n C (by decide +kernel : decode c_X0_follow 33 = .ok (.aload_n 1, 1)) rfl rfl rfl, ?_⟩
  refine List.forall_mem_cons.mpr ⟨s_getf C (by decide +kernel : decode c_X0_follow 34 = .ok (.getfield 20, 3)) rfl rfl em_cl_X7 (by decide) ew104 rfl, ?_⟩
  refine List.forall_mem_cons.mpr ⟨s_iload_n C (by decide +kernel : decode c_X0_follow 37 = .ok (.iload_n 2, 1)) rfl rfl rfl, ?_⟩
  refine List.forall_mem_cons.mpr ⟨s_iadd C (by decide +kernel : decode c_X0_follow 38 = .ok (.iadd, 1)) rfl rfl, ?_⟩
  refine List.forall_mem_cons.mpr ⟨s_iconst C (by decide +kernel : decode c_X0_follow 39 = .ok (.iconst 1, 1)) rfl rfl (by decide), ?_⟩
  refine List.forall_mem_cons.mpr ⟨s_isub C (by decide +kernel : decode c_X0_follow 40 = .ok (.isub, 1)) rfl rfl, ?_⟩
  refine List.forall_mem_cons.mpr ⟨s_callPV C hFok hF (ct_X7_behindEvening l D dA σ) ⟨rfl, rfl⟩ ew434 em_cl_X7 ew476 ew432 ew433 ew5 ⟨by decide, by decide, by decide +kernel⟩ ⟨by decide, by decide⟩ (by decide +kernel : decode c_X0_follow 41 = .ok (.invokevirtual 24, 3)) rfl rfl ⟨Nat.zero_le _, Nat.zero_le _⟩ (by decide), ?_⟩
  refine List.forall_mem_cons.mpr ⟨s_last C (by decide +kernel : decode c_X0_follow 44 = .ok (.lastore, 1)) rfl rfl, ?_⟩
  refine List.forall_mem_cons.mpr ⟨s_iinc C (by decide +kernel : decode c_X0_follow 45 = .ok (.iinc 2 1, 3)) rfl rfl (by decide) (by decide), ?_⟩
  refine List.forall_mem_cons.mpr ⟨s_goto C (by decide +kernel : decode c_X0_follow 48 = .ok (.goto (-36), 3)) (by decide) rfl, ?_⟩
  refine List.forall_mem_cons.mpr ⟨s_vret C (by decide +kernel : decode c_X0_follow 51 = .ok (.return_, 1)) hret hlk ⟨Nat.le_refl 0, Nat.le_refl 0⟩, ?_⟩
  exact fun _ h => absurd h List.not_mem_nil
def sp_X0_mindsBehind : em_Sp := fun av hp Q => ∃ mm t, av = [.ref 0, .int (nI t)] ∧ hp = wC2 mm ∧ t ≤ 200 ∧ Q (some (.long (mm t))) hp
def T_X0_mindsBehind : List (Nat × em_Op) := [(0, o_iload 1 1), (1, o_iflt 20 4), (4, o_iload 1 5), (5, o_iconst 200 8), (8, o_icmpgt 20 11), (11, o_aload 0 12), (12, o_getf 0 0 15), (15, o_iload 1 16), (16, o_aldL 1 17), (17, o_goto 21), (20, o_lconst 0 21), (21, o_lret)]
theorem me_X0_mindsBehind : em_Me T_X0_mindsBehind 2 sp_X0_mindsBehind := by
  intro Q K hK hle av hp hs
  obtain ⟨mm, t, rfl, rfl, ht, hq⟩ := hs
  refine ⟨Nat.le_of_ble_eq_true rfl, hK 0 9999 0 _ _ _ ?_⟩
  exact ⟨fun z => absurd z (nI_pos (by omega)), fun _ => ⟨fun z => absurd z (nI_nlt (a := 200) (b := t) (by omega) (by omega)), fun _ => ⟨t, rfl, by omega, hq⟩⟩⟩
abbrev rm_X0_mindsBehind : Room := { frames := 0, cells := 0, slots := 0, locals := 0 }
set_option maxRecDepth 100000 in
set_option maxHeartbeats 4000000 in
theorem ct_X0_mindsBehind (l : Launch) (D : va_G) (dA : Nat → ClassId) (σ : Nat → Nat) : em_CT l D em_cl dA σ (em_F σ) y_X0_mindsBehind c_X0_mindsBehind 2 (Option.some ClassFile.FieldType.long) rm_X0_mindsBehind (sp_X0_mindsBehind ) := by
  refine em_CT_of (T := T_X0_mindsBehind ) (em_F_ok σ) (by decide) (fun p e s m args below meth c A ρ Q C hFok hF hret hlk hin => ?_) (me_X0_mindsBehind )
  unfold T_X0_mindsBehind
  refine List.forall_mem_cons.mpr ⟨s_iload_n C (by decide +kernel : decode c_X0_mindsBehind 0 = .ok (.iload_n 1, 1)) rfl rfl rfl, ?_⟩
  refine List.forall_mem_cons.mpr ⟨s_iflt C (by decide +kernel : decode c_X0_mindsBehind 1 = .ok (.ifCond .lt 19, 3)) (by decide) rfl rfl rfl, ?_⟩
  refine List.forall_mem_cons.mpr ⟨s_iload_n C (by decide +kernel : decode c_X0_mindsBehind 4 = .ok (.iload_n 1, 1)) rfl rfl rfl, ?_⟩
  refine List.forall_mem_cons.mpr ⟨s_sipush C (by decide +kernel : decode c_X0_mindsBehind 5 = .ok (.sipush 200, 3)) rfl rfl (by decide), ?_⟩
  refine List.forall_mem_cons.mpr ⟨s_icmpgt C (by decide +kernel : decode c_X0_mindsBehind 8 = .ok (.if_icmp .gt 12, 3)) (by decide) rfl rfl rfl, ?_⟩
  refine List.forall_mem_cons.mpr ⟨s_aload_n C (by decide +kernel : decode c_X0_mindsBehind 11 = .ok (.aload_n 0, 1)) rfl rfl rfl, ?_⟩
  refine List.forall_mem_cons.mpr ⟨s_getf C (by decide +kernel : decode c_X0_mindsBehind 12 = .ok (.getfield 9, 3)) rfl rfl em_cl_X0 (by decide) ew54 rfl, ?_⟩
  refine List.forall_mem_cons.mpr ⟨s_iload_n C (by decide +kernel : decode c_X0_mindsBehind 15 = .ok (.iload_n 1, 1)) rfl rfl rfl, ?_⟩
  refine List.forall_mem_cons.mpr ⟨s_lald C (by decide +kernel : decode c_X0_mindsBehind 16 = .ok (.laload, 1)) rfl rfl, ?_⟩
  refine List.forall_mem_cons.mpr ⟨s_goto C (by decide +kernel : decode c_X0_mindsBehind 17 = .ok (.goto 4, 3)) (by decide) rfl, ?_⟩
  refine List.forall_mem_cons.mpr ⟨s_lconst C (by decide +kernel : decode c_X0_mindsBehind 20 = .ok (.lconst 0, 1)) rfl rfl (by decide), ?_⟩
  refine List.forall_mem_cons.mpr ⟨s_lret C (by decide +kernel : decode c_X0_mindsBehind 21 = .ok (.lreturn, 1)) hret hlk ⟨Nat.le_refl 0, Nat.le_refl 0⟩, ?_⟩
  exact fun _ h => absurd h List.not_mem_nil
/-- the first of N - r .. N - 1 -/
def ffd (P : Nat → Bool) (N : Nat) : Nat → Option Nat
  | 0 => none
  | r + 1 => if P (N - (r + 1)) = true then some (N - (r + 1)) else ffd P N r
def sp_X0_parted : em_Sp := fun av hp Q => ∃ mm pe ki mi se we lea mst pa fi sd ev un ma ea co ca clt a b, av = [.ref 0, .ref 2, .int (nI a), .int (nI b)] ∧ hp = (wC mm pe ki mi se we lea mst pa fi sd ev un ma ea co ca clt) ∧ Q (some (.int (oI (ffd (fun t => !mwB we lea mst (mm t) a b) 201 201)))) hp
def T_X0_parted : List (Nat × em_Op) := [(0, o_iconst 0 1), (1, o_istore 4 3), (3, o_iload 4 5), (5, o_iconst 200 8), (8, o_icmpgt 36 11), (11, o_aload 1 12), (12, o_aload 0 13), (13, o_getf 0 0 16), (16, o_iload 4 18), (18, o_aldL 1 19), (19, o_iload 2 20), (20, o_iload 3 21), (21, o_callP 4 (some 2) [2, 3, 4, 5, 6, 7, 8, 9] (sp_X7_mayWed) 24), (24, o_ifne 30 27), (27, o_iload 4 29), (29, o_iret), (30, o_iinc 4 1 33), (33, o_goto 3), (36, o_iconst (-1) 37), (37, o_iret)]
theorem me_X0_parted : em_Me T_X0_parted 5 sp_X0_parted := by
  intro Q K hK hle av hp hs
  obtain ⟨mm, pe, ki, mi, se, we, lea, mst, pa, fi, sd, ev, un, ma, ea, co, ca, clt, a, b, rfl, rfl, hq⟩ := hs
  refine ⟨Nat.le_of_ble_eq_true rfl, ?_⟩
  generalize hP : (fun t => !mwB we lea mst (mm t) a b) = P at hq
  obtain ⟨V, hV⟩ : ∃ V, V = ffd P 201 201 := ⟨_, rfl⟩
  rw [← hV] at hq
  have loop : ∀ (r : Nat), r ≤ 201 → V = ffd P 201 r → K 3 [some (.ref 0), some (.ref 2), some (.int (nI a)), some (.int (nI b)), some (.int (nI (201 - r)))] [] (wC mm pe ki mi se we lea mst pa fi sd ev un ma ea co ca clt) := by
    intro r
    induction r with
    | zero =>
      intro hr hv
      rw [hv] at hq
      refine hK 2 9999 3 _ _ _ ?_
      exact ⟨fun _ => hq, fun z => absurd (nI_lt (a := 200) (b := 201) (by omega) (by omega)) z⟩
    | succ r ih =>
      intro hr hv
      rw [ffd] at hv
      refine hK 2 9999 3 _ _ _ ?_
      refine ⟨fun z => absurd z (nI_nlt (a := 200) (b := 201 - (r + 1)) (by omega) (by omega)), fun _ => ?_⟩
      refine ⟨201 - (r + 1), rfl, by omega, ?_⟩
      have ep : P (201 - (r + 1)) = !mwB we lea mst (mm (201 - (r + 1))) a b := by rw [← hP]
      refine ⟨_, _, _, _, _, _, _, _, _, _, _, _, _, _, _, _, _, _, _, _, rfl, rfl, fun z => ?_, fun z => ?_⟩
      · refine ⟨fun _ => ?_, fun y => absurd y (by decide)⟩
        rw [if_neg (by rw [ep, mwB_t z]; exact Bool.false_ne_true)] at hv
        have := ih (by omega) hv
        rw [show 201 - r = (201 - (r + 1)) + 1 by omega, ← nI_1] at this
        exact this
      · refine ⟨fun y => absurd rfl y, fun _ => ?_⟩
        rw [if_pos (by rw [ep, mwB_f z]; rfl)] at hv
        rw [hv] at hq
        exact hq
  exact hK 0 2 0 _ _ _ (loop 201 (Nat.le_refl _) hV)
abbrev rm_X0_parted : Room := { frames := 3, cells := 0, slots := 0, locals := 67 }
set_option maxRecDepth 100000 in
set_option maxHeartbeats 4000000 in
theorem ct_X0_parted (l : Launch) (D : va_G) (dA : Nat → ClassId) (σ : Nat → Nat) : em_CT l D em_cl dA σ (em_F σ) y_X0_parted c_X0_parted 5 (Option.some ClassFile.FieldType.int) rm_X0_parted (sp_X0_parted ) := by
  refine em_CT_of (T := T_X0_parted ) (em_F_ok σ) (by decide) (fun p e s m args below meth c A ρ Q C hFok hF hret hlk hin => ?_) (me_X0_parted )
  unfold T_X0_parted
  refine List.forall_mem_cons.mpr ⟨s_iconst C (by decide +kernel : decode c_X0_parted 0 = .ok (.iconst 0, 1)) rfl rfl (by decide), ?_⟩
  refine List.forall_mem_cons.mpr ⟨s_istore C (by decide +kernel : decode c_X0_parted 1 = .ok (.istore 4, 2)) rfl rfl (by decide), ?_⟩
  refine List.forall_mem_cons.mpr ⟨s_iload C (by decide +kernel : decode c_X0_parted 3 = .ok (.iload 4, 2)) rfl rfl, ?_⟩
  refine List.forall_mem_cons.mpr ⟨s_sipush C (by decide +kernel : decode c_X0_parted 5 = .ok (.sipush 200, 3)) rfl rfl (by decide), ?_⟩
  refine List.forall_mem_cons.mpr ⟨s_icmpgt C (by decide +kernel : decode c_X0_parted 8 = .ok (.if_icmp .gt 28, 3)) (by decide) rfl rfl rfl, ?_⟩
  refine List.forall_mem_cons.mpr ⟨s_aload_n C (by decide +kernel : decode c_X0_parted 11 = .ok (.aload_n 1, 1)) rfl rfl rfl, ?_⟩
  refine List.forall_mem_cons.mpr ⟨s_aload_n C (by decide +kernel : decode c_X0_parted 12 = .ok (.aload_n 0, 1)) rfl rfl rfl, ?_⟩
  refine List.forall_mem_cons.mpr ⟨s_getf C (by decide +kernel : decode c_X0_parted 13 = .ok (.getfield 9, 3)) rfl rfl em_cl_X0 (by decide) ew54 rfl, ?_⟩
  refine List.forall_mem_cons.mpr ⟨s_iload C (by decide +kernel : decode c_X0_parted 16 = .ok (.iload 4, 2)) rfl rfl, ?_⟩
  refine List.forall_mem_cons.mpr ⟨s_lald C (by decide +kernel : decode c_X0_parted 18 = .ok (.laload, 1)) rfl rfl, ?_⟩
  refine List.forall_mem_cons.mpr ⟨s_iload_n C (by decide +kernel : decode c_X0_parted 19 = .ok (.iload_n 2, 1)) rfl rfl rfl, ?_⟩
  refine List.forall_mem_cons.mpr ⟨s_iload_n C (by decide +kernel : decode c_X0_parted 20 = .ok (.iload_n 3, 1)) rfl rfl rfl, ?_⟩
  refine List.forall_mem_cons.mpr ⟨s_callPV C hFok hF (ct_X7_mayWed l D dA σ) ⟨rfl, rfl⟩ ew404 em_cl_X7 ew489 ew402 ew403 ew5 ⟨by decide, by decide, by decide +kernel⟩ ⟨by decide, by decide⟩ (by decide +kernel : decode c_X0_parted 21 = .ok (.invokevirtual 28, 3)) rfl rfl ⟨Nat.zero_le _, Nat.zero_le _⟩ (by decide), ?_⟩
  refine List.forall_mem_cons.mpr ⟨s_ifne C (by decide +kernel : decode c_X0_parted 24 = .ok (.ifCond .ne 6, 3)) (by decide) rfl rfl rfl, ?_⟩
  refine List.forall_mem_cons.mpr ⟨s_iload C (by decide +kernel : decode c_X0_parted 27 = .ok (.iload 4, 2)) rfl rfl, ?_⟩
  refine List.forall_mem_cons.mpr ⟨s_iret C (by decide +kernel : decode c_X0_parted 29 = .ok (.ireturn, 1)) hret hlk ⟨Nat.le_refl 0, Nat.le_refl 0⟩, ?_⟩
  refine List.forall_mem_cons.mpr ⟨s_iinc C (by decide +kernel : decode c_X0_parted 30 = .ok (.iinc 4 1, 3)) rfl rfl (by decide) (by decide), ?_⟩
  refine List.forall_mem_cons.mpr ⟨s_goto C (by decide +kernel : decode c_X0_parted 33 = .ok (.goto (-30), 3)) (by decide) rfl, ?_⟩
  refine List.forall_mem_cons.mpr ⟨s_iconst C (by decide +kernel : decode c_X0_parted 36 = .ok (.iconst (-1), 1)) rfl rfl (by decide), ?_⟩
  refine List.forall_mem_cons.mpr ⟨s_iret C (by decide +kernel : decode c_X0_parted 37 = .ok (.ireturn, 1)) hret hlk ⟨Nat.le_refl 0, Nat.le_refl 0⟩, ?_⟩
  exact fun _ h => absurd h List.not_mem_nil
theorem lg_cmp0 {x y : Int64} : lg_cmp x y = 0 ↔ x = y := by
  unfold lg_cmp
  constructor
  · intro h
    split at h
    · exact absurd h (by decide)
    · split at h
      · assumption
      · exact absurd h (by decide)
  · intro h
    subst h
    simp
def sp_X0_likeAhead : em_Sp := fun av hp Q => ∃ mm t L, av = [.ref 0, .int (nI t), .int (nI L)] ∧ hp = wC2 mm ∧ t ≤ 200 ∧ 1 ≤ L ∧ L ≤ 8 ∧ Q (some (.int (oI (ffd (fun s => decide ((t - s) % L = 0 ∧ mm s = mm t)) t t)))) hp
def T_X0_likeAhead : List (Nat × em_Op) := [(0, o_iload 1 1), (1, o_iconst 200 4), (4, o_icmpgt 12 7), (7, o_iload 2 8), (8, o_iconst 1 9), (9, o_icmpge 14 12), (12, o_iconst (-1) 13), (13, o_iret), (14, o_iconst 0 15), (15, o_istore 3 16), (16, o_iload 3 17), (17, o_iload 1 18), (18, o_icmpge 53 21), (21, o_iload 1 22), (22, o_iload 3 23), (23, o_isub 24), (24, o_iload 2 25), (25, o_irem 26), (26, o_ifne 47 29), (29, o_aload 0 30), (30, o_getf 0 0 33), (33, o_iload 3 34), (34, o_aldL 1 35), (35, o_aload 0 36), (36, o_getf 0 0 39), (39, o_iload 1 40), (40, o_aldL 1 41), (41, o_lcmp 42), (42, o_ifne 47 45), (45, o_iload 3 46), (46, o_iret), (47, o_iinc 3 1 50), (50, o_goto 16), (53, o_iconst (-1) 54), (54, o_iret)]
theorem me_X0_likeAhead : em_Me T_X0_likeAhead 4 sp_X0_likeAhead := by
  intro Q K hK hle av hp hs
  obtain ⟨mm, t, L, rfl, rfl, ht, hL, hL8, hq⟩ := hs
  refine ⟨Nat.le_of_ble_eq_true rfl, ?_⟩
  generalize hP : (fun s => decide ((t - s) % L = 0 ∧ mm s = mm t)) = P at hq
  obtain ⟨V, hV⟩ : ∃ V, V = ffd P t t := ⟨_, rfl⟩
  rw [← hV] at hq
  have loop : ∀ (r : Nat), r ≤ t → V = ffd P t r → K 16 [some (.ref 0), some (.int (nI t)), some (.int (nI L)), some (.int (nI (t - r)))] [] (wC2 mm) := by
    intro r
    induction r with
    | zero =>
      intro hr hv
      rw [hv] at hq
      refine hK 10 9999 16 _ _ _ ?_
      exact ⟨fun _ => hq, fun z => absurd (nI_le (a := t) (b := t - 0) (by omega) (by omega)) z⟩
    | succ r ih =>
      intro hr hv
      rw [ffd] at hv
      have next : ¬ P (t - (r + 1)) = true → K 47 [some (.ref 0), some (.int (nI t)), some (.int (nI L)), some (.int (nI (t - (r + 1))))] [] (wC2 mm) := by
        intro hz
        rw [if_neg hz] at hv
        have := ih (by omega) hv
        rw [show t - r = (t - (r + 1)) + 1 by omega, ← nI_1] at this
        exact hK 31 2 47 _ _ _ this
      have ep : P (t - (r + 1)) = decide ((t - (t - (r + 1))) % L = 0 ∧ mm (t - (r + 1)) = mm t) := by rw [← hP]
      refine hK 10 21 16 _ _ _ ?_
      refine ⟨fun z => absurd z (nI_ge (a := t - (r + 1)) (b := t) (by omega) (by omega)), fun _ => ?_⟩
      refine ⟨nI_ne0 (by omega) (by omega), ?_⟩
      have em : nI t - nI (t - (r + 1)) - (nI t - nI (t - (r + 1))) / nI L * nI L = nI ((t - (t - (r + 1))) % L) := by
        rw [pk_sub (by omega)]
        exact pk_rem (by omega) (by omega) (by omega)
      rw [em]
      have hml := Nat.mod_lt (t - (t - (r + 1))) (show L > 0 by omega)
      refine ⟨fun z => ?_, fun z => ?_⟩
      · refine next (fun y => ?_)
        rw [ep, decide_eq_true_eq] at y
        rw [y.1] at z
        exact z rfl
      · have hz0 : (t - (t - (r + 1))) % L = 0 := (nI_eq (b := 0) (by omega) (by omega)).mp z
        refine ⟨t - (r + 1), rfl, by omega, t, rfl, by omega, fun z2 => ?_, fun z2 => ?_⟩
        · refine next (fun y => ?_)
          rw [ep, decide_eq_true_eq] at y
          exact z2 (lg_cmp0.mpr y.2)
        · rw [if_pos (by rw [ep, decide_eq_true_eq]; exact ⟨hz0, lg_cmp0.mp z2⟩)] at hv
          rw [hv] at hq
          exact hq
  refine hK 0 10 0 _ _ _ ?_
  have := loop t (Nat.le_refl _) hV
  rw [Nat.sub_self] at this
  exact ⟨fun z => absurd z (nI_nlt (a := 200) (b := t) (by omega) (by omega)), fun _ => ⟨fun _ => this, fun z => absurd (nI_le (a := 1) (b := L) (by omega) (by omega)) z⟩⟩
abbrev rm_X0_likeAhead : Room := { frames := 0, cells := 0, slots := 0, locals := 0 }
set_option maxRecDepth 100000 in
set_option maxHeartbeats 4000000 in
theorem ct_X0_likeAhead (l : Launch) (D : va_G) (dA : Nat → ClassId) (σ : Nat → Nat) : em_CT l D em_cl dA σ (em_F σ) y_X0_likeAhead c_X0_likeAhead 4 (Option.some ClassFile.FieldType.int) rm_X0_likeAhead (sp_X0_likeAhead ) := by
  refine em_CT_of (T := T_X0_likeAhead ) (em_F_ok σ) (by decide) (fun p e s m args below meth c A ρ Q C hFok hF hret hlk hin => ?_) (me_X0_likeAhead )
  unfold T_X0_likeAhead
  refine List.forall_mem_cons.mpr ⟨s_iload_n C (by decide +kernel : decode c_X0_likeAhead 0 = .ok (.iload_n 1, 1)) rfl rfl rfl, ?_⟩
  refine List.forall_mem_cons.mpr ⟨s_sipush C (by decide +kernel : decode c_X0_likeAhead 1 = .ok (.sipush 200, 3)) rfl rfl (by decide), ?_⟩
  refine List.forall_mem_cons.mpr ⟨s_icmpgt C (by decide +kernel : decode c_X0_likeAhead 4 = .ok (.if_icmp .gt 8, 3)) (by decide) rfl rfl rfl, ?_⟩
  refine List.forall_mem_cons.mpr ⟨s_iload_n C (by decide +kernel : decode c_X0_likeAhead 7 = .ok (.iload_n 2, 1)) rfl rfl rfl, ?_⟩
  refine List.forall_mem_cons.mpr ⟨s_iconst C (by decide +kernel : decode c_X0_likeAhead 8 = .ok (.iconst 1, 1)) rfl rfl (by decide), ?_⟩
  refine List.forall_mem_cons.mpr ⟨s_icmpge C (by decide +kernel : decode c_X0_likeAhead 9 = .ok (.if_icmp .ge 5, 3)) (by decide) rfl rfl rfl, ?_⟩
  refine List.forall_mem_cons.mpr ⟨s_iconst C (by decide +kernel : decode c_X0_likeAhead 12 = .ok (.iconst (-1), 1)) rfl rfl (by decide), ?_⟩
  refine List.forall_mem_cons.mpr ⟨s_iret C (by decide +kernel : decode c_X0_likeAhead 13 = .ok (.ireturn, 1)) hret hlk ⟨Nat.le_refl 0, Nat.le_refl 0⟩, ?_⟩
  refine List.forall_mem_cons.mpr ⟨s_iconst C (by decide +kernel : decode c_X0_likeAhead 14 = .ok (.iconst 0, 1)) rfl rfl (by decide), ?_⟩
  refine List.forall_mem_cons.mpr ⟨s_istore_n C (by decide +kernel : decode c_X0_likeAhead 15 = .ok (.istore_n 3, 1)) rfl rfl rfl (by decide), ?_⟩
  refine List.forall_mem_cons.mpr ⟨s_iload_n C (by decide +kernel : decode c_X0_likeAhead 16 = .ok (.iload_n 3, 1)) rfl rfl rfl, ?_⟩
  refine List.forall_mem_cons.mpr ⟨s_iload_n C (by decide +kernel : decode c_X0_likeAhead 17 = .ok (.iload_n 1, 1)) rfl rfl rfl, ?_⟩
  refine List.forall_mem_cons.mpr ⟨s_icmpge C (by decide +kernel : decode c_X0_likeAhead 18 = .ok (.if_icmp .ge 35, 3)) (by decide) rfl rfl rfl, ?_⟩
  refine List.forall_mem_cons.mpr ⟨s_iload_n C (by decide +kernel : decode c_X0_likeAhead 21 = .ok (.iload_n 1, 1)) rfl rfl rfl, ?_⟩
  refine List.forall_mem_cons.mpr ⟨s_iload_n C (by decide +kernel : decode c_X0_likeAhead 22 = .ok (.iload_n 3, 1)) rfl rfl rfl, ?_⟩
  refine List.forall_mem_cons.mpr ⟨s_isub C (by decide +kernel : decode c_X0_likeAhead 23 = .ok (.isub, 1)) rfl rfl, ?_⟩
  refine List.forall_mem_cons.mpr ⟨s_iload_n C (by decide +kernel : decode c_X0_likeAhead 24 = .ok (.iload_n 2, 1)) rfl rfl rfl, ?_⟩
  refine List.forall_mem_cons.mpr ⟨s_irem C (by decide +kernel : decode c_X0_likeAhead 25 = .ok (.irem, 1)) rfl rfl, ?_⟩
  refine List.forall_mem_cons.mpr ⟨s_ifne C (by decide +kernel : decode c_X0_likeAhead 26 = .ok (.ifCond .ne 21, 3)) (by decide) rfl rfl rfl, ?_⟩
  refine List.forall_mem_cons.mpr ⟨s_aload_n C (by decide +kernel : decode c_X0_likeAhead 29 = .ok (.aload_n 0, 1)) rfl rfl rfl, ?_⟩
  refine List.forall_mem_cons.mpr ⟨s_getf C (by decide +kernel : decode c_X0_likeAhead 30 = .ok (.getfield 9, 3)) rfl rfl em_cl_X0 (by decide) ew54 rfl, ?_⟩
  refine List.forall_mem_cons.mpr ⟨s_iload_n C (by decide +kernel : decode c_X0_likeAhead 33 = .ok (.iload_n 3, 1)) rfl rfl rfl, ?_⟩
  refine List.forall_mem_cons.mpr ⟨s_lald C (by decide +kernel : decode c_X0_likeAhead 34 = .ok (.laload, 1)) rfl rfl, ?_⟩
  refine List.forall_mem_cons.mpr ⟨s_aload_n C (by decide +kernel : decode c_X0_likeAhead 35 = .ok (.aload_n 0, 1)) rfl rfl rfl, ?_⟩
  refine List.forall_mem_cons.mpr ⟨s_getf C (by decide +kernel : decode c_X0_likeAhead 36 = .ok (.getfield 9, 3)) rfl rfl em_cl_X0 (by decide) ew54 rfl, ?_⟩
  refine List.forall_mem_cons.mpr ⟨s_iload_n C (by decide +kernel : decode c_X0_likeAhead 39 = .ok (.iload_n 1, 1)) rfl rfl rfl, ?_⟩
  refine List.forall_mem_cons.mpr ⟨s_lald C (by decide +kernel : decode c_X0_likeAhead 40 = .ok (.laload, 1)) rfl rfl, ?_⟩
  refine List.forall_mem_cons.mpr ⟨s_lcmp C (by decide +kernel : decode c_X0_likeAhead 41 = .ok (.lcmp, 1)) rfl rfl, ?_⟩
  refine List.forall_mem_cons.mpr ⟨s_ifne C (by decide +kernel : decode c_X0_likeAhead 42 = .ok (.ifCond .ne 5, 3)) (by decide) rfl rfl rfl, ?_⟩
  refine List.forall_mem_cons.mpr ⟨s_iload_n C (by decide +kernel : decode c_X0_likeAhead 45 = .ok (.iload_n 3, 1)) rfl rfl rfl, ?_⟩
  refine List.forall_mem_cons.mpr ⟨s_iret C (by decide +kernel : decode c_X0_likeAhead 46 = .ok (.ireturn, 1)) hret hlk ⟨Nat.le_refl 0, Nat.le_refl 0⟩, ?_⟩
  refine List.forall_mem_cons.mpr ⟨s_iinc C (by decide +kernel : decode c_X0_likeAhead 47 = .ok (.iinc 3 1, 3)) rfl rfl (by decide) (by decide), ?_⟩
  refine List.forall_mem_cons.mpr ⟨s_goto C (by decide +kernel : decode c_X0_likeAhead 50 = .ok (.goto (-34), 3)) (by decide) rfl, ?_⟩
  refine List.forall_mem_cons.mpr ⟨s_iconst C (by decide +kernel : decode c_X0_likeAhead 53 = .ok (.iconst (-1), 1)) rfl rfl (by decide), ?_⟩
  refine List.forall_mem_cons.mpr ⟨s_iret C (by decide +kernel : decode c_X0_likeAhead 54 = .ok (.ireturn, 1)) hret hlk ⟨Nat.le_refl 0, Nat.le_refl 0⟩, ?_⟩
  exact fun _ h => absurd h List.not_mem_nil
def alB (m : Int64) (n : Nat) : Bool := decide (∀ j, j < n → 1 ≤ j → mo m (nI j) = mo m 0)
def sp_X0_oneMind : em_Sp := fun av hp Q => ∃ mm n, av = [.ref 0, .int (nI n)] ∧ hp = wC2 mm ∧ n ≤ 6 ∧ Q (some (.int (oI (ffd (fun t => alB (mm t) n) 201 201)))) hp
def T_X0_oneMind : List (Nat × em_Op) := [(0, o_iconst 0 1), (1, o_istore 2 2), (2, o_iload 2 3), (3, o_iconst 200 6), (6, o_icmpgt 30 9), (9, o_aload 0 10), (10, o_getf 0 0 13), (13, o_iload 2 14), (14, o_aldL 1 15), (15, o_iload 1 16), (16, o_call 2 none (sp_X5_alike) 19), (19, o_ifeq 24 22), (22, o_iload 2 23), (23, o_iret), (24, o_iinc 2 1 27), (27, o_goto 2), (30, o_iconst (-1) 31), (31, o_iret)]
theorem me_X0_oneMind : em_Me T_X0_oneMind 3 sp_X0_oneMind := by
  intro Q K hK hle av hp hs
  obtain ⟨mm, n, rfl, rfl, hn, hq⟩ := hs
  refine ⟨Nat.le_of_ble_eq_true rfl, ?_⟩
  obtain ⟨V, hV⟩ : ∃ V, V = ffd (fun t => alB (mm t) n) 201 201 := ⟨_, rfl⟩
  rw [← hV] at hq
  have loop : ∀ (r : Nat), r ≤ 201 → V = ffd (fun t => alB (mm t) n) 201 r → K 2 [some (.ref 0), some (.int (nI n)), some (.int (nI (201 - r)))] [] (wC2 mm) := by
    intro r
    induction r with
    | zero =>
      intro hr hv
      rw [hv] at hq
      refine hK 2 9999 2 _ _ _ ?_
      exact ⟨fun _ => hq, fun z => absurd (nI_lt (a := 200) (b := 201) (by omega) (by omega)) z⟩
    | succ r ih =>
      intro hr hv
      rw [ffd] at hv
      refine hK 2 9999 2 _ _ _ ?_
      refine ⟨fun z => absurd z (nI_nlt (a := 200) (b := 201 - (r + 1)) (by omega) (by omega)), fun _ => ?_⟩
      refine ⟨201 - (r + 1), rfl, by omega, ?_⟩
      refine ⟨_, n, rfl, by omega, fun z => ?_, fun z => ?_⟩
      · refine ⟨fun y => absurd y (by decide), fun _ => ?_⟩
        rw [if_pos (show alB (mm (201 - (r + 1))) n = true from decide_eq_true (fun j a b => z j b a))] at hv
        rw [hv] at hq
        exact hq
      · refine ⟨fun _ => ?_, fun y => absurd y (by decide)⟩
        rw [if_neg (by
          intro y
          have y := of_decide_eq_true y
          obtain ⟨j, a, b, d⟩ := z
          exact d (y j b a))] at hv
        have := ih (by omega) hv
        rw [show 201 - r = (201 - (r + 1)) + 1 by omega, ← nI_1] at this
        exact this
  exact hK 0 2 0 _ _ _ (loop 201 (Nat.le_refl _) hV)
abbrev rm_X0_oneMind : Room := { frames := 2, cells := 0, slots := 0, locals := 45 }
set_option maxRecDepth 100000 in
set_option maxHeartbeats 4000000 in
theorem ct_X0_oneMind (l : Launch) (D : va_G) (dA : Nat → ClassId) (σ : Nat → Nat) : em_CT l D em_cl dA σ (em_F σ) y_X0_oneMind c_X0_oneMind 3 (Option.some ClassFile.FieldType.int) rm_X0_oneMind (sp_X0_oneMind ) := by
  refine em_CT_of (T := T_X0_oneMind ) (em_F_ok σ) (by decide) (fun p e s m args below meth c A ρ Q C hFok hF hret hlk hin => ?_) (me_X0_oneMind )
  unfold T_X0_oneMind
  refine List.forall_mem_cons.mpr ⟨s_iconst C (by decide +kernel : decode c_X0_oneMind 0 = .ok (.iconst 0, 1)) rfl rfl (by decide), ?_⟩
  refine List.forall_mem_cons.mpr ⟨s_istore_n C (by decide +kernel : decode c_X0_oneMind 1 = .ok (.istore_n 2, 1)) rfl rfl rfl (by decide), ?_⟩
  refine List.forall_mem_cons.mpr ⟨s_iload_n C (by decide +kernel : decode c_X0_oneMind 2 = .ok (.iload_n 2, 1)) rfl rfl rfl, ?_⟩
  refine List.forall_mem_cons.mpr ⟨s_sipush C (by decide +kernel : decode c_X0_oneMind 3 = .ok (.sipush 200, 3)) rfl rfl (by decide), ?_⟩
  refine List.forall_mem_cons.mpr ⟨s_icmpgt C (by decide +kernel : decode c_X0_oneMind 6 = .ok (.if_icmp .gt 24, 3)) (by decide) rfl rfl rfl, ?_⟩
  refine List.forall_mem_cons.mpr ⟨s_aload_n C (by decide +kernel : decode c_X0_oneMind 9 = .ok (.aload_n 0, 1)) rfl rfl rfl, ?_⟩
  refine List.forall_mem_cons.mpr ⟨s_getf C (by decide +kernel : decode c_X0_oneMind 10 = .ok (.getfield 9, 3)) rfl rfl em_cl_X0 (by decide) ew54 rfl, ?_⟩
  refine List.forall_mem_cons.mpr ⟨s_iload_n C (by decide +kernel : decode c_X0_oneMind 13 = .ok (.iload_n 2, 1)) rfl rfl rfl, ?_⟩
  refine List.forall_mem_cons.mpr ⟨s_lald C (by decide +kernel : decode c_X0_oneMind 14 = .ok (.laload, 1)) rfl rfl, ?_⟩
  refine List.forall_mem_cons.mpr ⟨s_iload_n C (by decide +kernel : decode c_X0_oneMind 15 = .ok (.iload_n 1, 1)) rfl rfl rfl, ?_⟩
  refine List.forall_mem_cons.mpr ⟨s_callS C hFok hF (ct_X5_alike l D dA σ) ⟨rfl, rfl⟩ ew511 ew509 ew510 ew8 ⟨by decide, by decide, by decide +kernel⟩ ⟨by decide, by decide⟩ (by decide +kernel : decode c_X0_oneMind 16 = .ok (.invokestatic 32, 3)) rfl rfl ⟨Nat.zero_le _, Nat.zero_le _⟩, ?_⟩
  refine List.forall_mem_cons.mpr ⟨s_ifeq C (by decide +kernel : decode c_X0_oneMind 19 = .ok (.ifCond .eq 5, 3)) (by decide) rfl rfl rfl, ?_⟩
  refine List.forall_mem_cons.mpr ⟨s_iload_n C (by decide +kernel : decode c_X0_oneMind 22 = .ok (.iload_n 2, 1)) rfl rfl rfl, ?_⟩
  refine List.forall_mem_cons.mpr ⟨s_iret C (by decide +kernel : decode c_X0_oneMind 23 = .ok (.ireturn, 1)) hret hlk ⟨Nat.le_refl 0, Nat.le_refl 0⟩, ?_⟩
  refine List.forall_mem_cons.mpr ⟨s_iinc C (by decide +kernel : decode c_X0_oneMind 24 = .ok (.iinc 2 1, 3)) rfl rfl (by decide) (by decide), ?_⟩
  refine List.forall_mem_cons.mpr ⟨s_goto C (by decide +kernel : decode c_X0_oneMind 27 = .ok (.goto (-25), 3)) (by decide) rfl, ?_⟩
  refine List.forall_mem_cons.mpr ⟨s_iconst C (by decide +kernel : decode c_X0_oneMind 30 = .ok (.iconst (-1), 1)) rfl rfl (by decide), ?_⟩
  refine List.forall_mem_cons.mpr ⟨s_iret C (by decide +kernel : decode c_X0_oneMind 31 = .ok (.ireturn, 1)) hret hlk ⟨Nat.le_refl 0, Nat.le_refl 0⟩, ?_⟩
  exact fun _ h => absurd h List.not_mem_nil
def lpI (P : Nat → Nat → Bool) (a : Nat) (acc : Int64) : Nat → Int64
  | 0 => acc
  | k + 1 => if P a (a + 1 + k) = true then lpI P a acc k ||| bitL (nI a) (nI (a + 1 + k)) else lpI P a acc k
def lpO (P : Nat → Nat → Bool) (n : Nat) : Nat → Int64
  | 0 => 0
  | a + 1 => lpI P a (lpO P n a) (n - (a + 1))
def ltB (we lea mst : Int32) (mm : Nat → Int64) (k a b : Nat) : Bool := match ffd (fun t => !mwB we lea mst (mm t) a b) 201 201 with
  | none => true
  | some e => decide (k < e)
theorem ffd_lt {P : Nat → Bool} {N : Nat} : ∀ r d, r ≤ N → ffd P N r = some d → d < N
  | 0, d, _, h => by cases h
  | r + 1, d, hr, h => by
    rw [ffd] at h
    split at h
    · cases h; omega
    · exact ffd_lt r d (by omega) h
theorem nI_m1 {n : Nat} (h : n < 2 ^ 31) : ¬ nI n = -1 := by
  intro q
  have : (nI n).toInt = ((-1 : Int32)).toInt := by rw [q]
  rw [nI_toInt h] at this
  have h2 : ((-1 : Int32)).toInt = -1 := by decide
  omega
def sp_X0_lastingPairs : em_Sp := fun av hp Q => ∃ mm pe ki mi se we lea mst pa fi sd ev un ma ea co ca clt k n, av = [.ref 0, .ref 2, .int (nI k)] ∧ hp = (wC mm pe ki mi se we lea mst pa fi sd ev un ma ea co ca clt) ∧ pe = nI n ∧ n ≤ 6 ∧ k ≤ 40 ∧ Q (some (.long (lpO (ltB we lea mst mm k) n n))) hp
def T_X0_lastingPairs : List (Nat × em_Op) := [(0, o_lconst 0 1), (1, o_lstore 3 2), (2, o_iconst 0 3), (3, o_istore 5 5), (5, o_iload 5 7), (7, o_aload 1 8), (8, o_getf 2 0 11), (11, o_icmpge 74 14), (14, o_iload 5 16), (16, o_iconst 1 17), (17, o_iadd 18), (18, o_istore 6 20), (20, o_iload 6 22), (22, o_aload 1 23), (23, o_getf 2 0 26), (26, o_icmpge 68 29), (29, o_aload 0 30), (30, o_aload 1 31), (31, o_iload 5 33), (33, o_iload 6 35), (35, o_call 4 (some 0) (sp_X0_parted) 38), (38, o_istore 7 40), (40, o_iload 7 42), (42, o_iconst (-1) 43), (43, o_icmpeq 52 46), (46, o_iload 7 48), (48, o_iload 2 49), (49, o_icmple 62 52), (52, o_lload 3 53), (53, o_iload 5 55), (55, o_iload 6 57), (57, o_call 2 none (sp_X4_bit) 60), (60, o_lor 61), (61, o_lstore 3 62), (62, o_iinc 6 1 65), (65, o_goto 20), (68, o_iinc 5 1 71), (71, o_goto 5), (74, o_lload 3 75), (75, o_lret)]
theorem me_X0_lastingPairs : em_Me T_X0_lastingPairs 8 sp_X0_lastingPairs := by
  intro Q K hK hle av hp hs
  obtain ⟨mm, pe, ki, mi, se, we, lea, mst, pa, fi, sd, ev, un, ma, ea, co, ca, clt, k, n, rfl, rfl, rfl, hn, hk, hq⟩ := hs
  refine ⟨Nat.le_of_ble_eq_true rfl, ?_⟩
  generalize hP : ltB we lea mst mm k = P at hq
  have inner : ∀ (a : Nat) (acc : Int64), a < n → K 5 [some (.ref 0), some (.ref 2), some (.int (nI k)), some (.long (lpI P a acc (n - (a + 1)))), none, some (.int (nI (a + 1))), none, none] [] (wC mm (nI n) ki mi se we lea mst pa fi sd ev un ma ea co ca clt) → ∀ (r j : Nat), j + r = n - (a + 1) → K 20 [some (.ref 0), some (.ref 2), some (.int (nI k)), some (.long (lpI P a acc j)), none, some (.int (nI a)), some (.int (nI (a + 1 + j))), none] [] (wC mm (nI n) ki mi se we lea mst pa fi sd ev un ma ea co ca clt) := by
    intro a acc ha hend r
    induction r with
    | zero =>
      intro j hj
      have hj : j = n - (a + 1) := by omega
      subst hj
      refine hK 12 9999 20 _ _ _ ?_
      refine ⟨fun _ => ?_, fun z => absurd (nI_le (a := n) (b := a + 1 + (n - (a + 1))) (by omega) (by omega)) z⟩
      rw [← nI_1] at hend
      exact hle _ _ _ _ _ (by repeat (first | exact trivial | refine ⟨rfl, ?_⟩)) hend
    | succ r ih =>
      intro j hj
      have next : ∀ v x, v = lpI P a acc (j + 1) → K 62 [some (.ref 0), some (.ref 2), some (.int (nI k)), some (.long v), none, some (.int (nI a)), some (.int (nI (a + 1 + j))), x] [] (wC mm (nI n) ki mi se we lea mst pa fi sd ev un ma ea co ca clt) := by
        intro v x hv
        subst hv
        have := ih (j + 1) (by omega)
        rw [show a + 1 + (j + 1) = (a + 1 + j) + 1 by omega, ← nI_1 (a + 1 + j)] at this
        exact hK 34 2 62 _ _ _ (hle _ _ _ _ _ (by repeat (first | exact trivial | refine ⟨rfl, ?_⟩)) this)
      refine hK 12 22 20 _ _ _ ?_
      refine ⟨fun z => absurd z (nI_ge (a := a + 1 + j) (b := n) (by omega) (by omega)), fun _ => ?_⟩
      refine ⟨mm, _, _, _, _, _, _, _, _, _, _, _, _, _, _, _, _, _, a, a + 1 + j, rfl, rfl, ?_⟩
      have ep : P a (a + 1 + j) = ltB we lea mst mm k a (a + 1 + j) := by rw [← hP]
      cases hf : ffd (fun t => !mwB we lea mst (mm t) a (a + 1 + j)) 201 201 with
      | none =>
        have e2 : P a (a + 1 + j) = true := by rw [ep, ltB, hf]
        refine ⟨fun _ => ⟨_, _, rfl, ?_⟩, fun z => absurd rfl z⟩
        exact next _ _ (by rw [lpI, if_pos e2])
      | some d =>
        have hd := ffd_lt 201 d (Nat.le_refl _) hf
        have e2 : P a (a + 1 + j) = decide (k < d) := by rw [ep, ltB, hf]
        refine ⟨fun z => absurd z (nI_m1 (by omega)), fun _ => ⟨fun z => ?_, fun z => ⟨_, _, rfl, ?_⟩⟩⟩
        · have hz := (nI_leI (by omega) (by omega)).mp z
          exact next _ _ (by rw [lpI, if_neg (by rw [e2, decide_eq_true_eq]; omega)])
        · have hz : k < d := by
            rcases Nat.lt_or_ge k d with q | q
            · exact q
            · exact absurd (nI_le q (by omega)) z
          exact next _ _ (by rw [lpI, if_pos (by rw [e2, decide_eq_true_eq]; exact hz)])
  have outer : ∀ (r a : Nat), a + r = n → K 5 [some (.ref 0), some (.ref 2), some (.int (nI k)), some (.long (lpO P n a)), none, some (.int (nI a)), none, none] [] (wC mm (nI n) ki mi se we lea mst pa fi sd ev un ma ea co ca clt) := by
    intro r
    induction r with
    | zero =>
      intro a ha
      have ha : a = n := by omega
      subst ha
      refine hK 4 9999 5 _ _ _ ?_
      exact ⟨fun _ => hq, fun z => absurd (nI_le (Nat.le_refl a) (by omega)) z⟩
    | succ r ih =>
      intro a ha
      refine hK 4 8 5 _ _ _ ?_
      refine ⟨fun z => absurd z (nI_ge (by omega) (by omega)), fun _ => ?_⟩
      have := inner a (lpO P n a) (by omega) (ih (a + 1) (by omega)) (n - (a + 1)) 0 (by omega)
      rw [Nat.add_zero, ← nI_1] at this
      exact hle _ _ _ _ _ (by repeat (first | exact trivial | refine ⟨rfl, ?_⟩)) this
  exact hK 0 4 0 _ _ _ (outer n 0 (by omega))
abbrev rm_X0_lastingPairs : Room := { frames := 4, cells := 0, slots := 0, locals := 91 }
set_option maxRecDepth 100000 in
set_option maxHeartbeats 4000000 in
theorem ct_X0_lastingPairs (l : Launch) (D : va_G) (dA : Nat → ClassId) (σ : Nat → Nat) : em_CT l D em_cl dA σ (em_F σ) y_X0_lastingPairs c_X0_lastingPairs 8 (Option.some ClassFile.FieldType.long) rm_X0_lastingPairs (sp_X0_lastingPairs ) := by
  refine em_CT_of (T := T_X0_lastingPairs ) (em_F_ok σ) (by decide) (fun p e s m args below meth c A ρ Q C hFok hF hret hlk hin => ?_) (me_X0_lastingPairs )
  unfold T_X0_lastingPairs
  refine List.forall_mem_cons.mpr ⟨s_lconst C (by decide +kernel : decode c_X0_lastingPairs 0 = .ok (.lconst 0, 1)) rfl rfl (by decide), ?_⟩
  refine List.forall_mem_cons.mpr ⟨s_lstore_n C (by decide +kernel : decode c_X0_lastingPairs 1 = .ok (.lstore_n 3, 1)) rfl rfl rfl (by decide), ?_⟩
  refine List.forall_mem_cons.mpr ⟨s_iconst C (by decide +kernel : decode c_X0_lastingPairs 2 = .ok (.iconst 0, 1)) rfl rfl (by decide), ?_⟩
  refine List.forall_mem_cons.mpr ⟨s_istore C (by decide +kernel : decode c_X0_lastingPairs 3 = .ok (.istore 5, 2)) rfl rfl (by decide), ?_⟩
  refine List.forall_mem_cons.mpr ⟨s_iload C (by decide +kernel : decode c_X0_lastingPairs 5 = .ok (.iload 5, 2)) rfl rfl, ?_⟩
  refine List.forall_mem_cons.mpr ⟨s_aload_n C (by decide +kernel : decode c_X0_lastingPairs 7 = .ok (.aload_n 1, 1)) rfl rfl rfl, ?_⟩
  refine List.forall_mem_cons.mpr ⟨s_getf C (by decide +kernel : decode c_X0_lastingPairs 8 = .ok (.getfield 38, 3)) rfl rfl em_cl_X7 (by decide) ew87 rfl, ?_⟩
  refine List.forall_mem_cons.mpr ⟨s_icmpge C (by decide +kernel : decode c_X0_lastingPairs 11 = .ok (.if_icmp .ge 63, 3)) (by decide) rfl rfl rfl, ?_⟩
  refine List.forall_mem_cons.mpr ⟨s_iload C (by decide +kernel : decode c_X0_lastingPairs 14 = .ok (.iload 5, 2)) rfl rfl, ?_⟩
  refine List.forall_mem_cons.mpr ⟨s_iconst C (by decide +kernel : decode c_X0_lastingPairs 16 = .ok (.iconst 1, 1)) rfl rfl (by decide), ?_⟩
  refine List.forall_mem_cons.mpr ⟨s_iadd C (by decide +kernel : decode c_X0_lastingPairs 17 = .ok (.iadd, 1)) rfl rfl, ?_⟩
  refine List.forall_mem_cons.mpr ⟨s_istore C (by decide +kernel : decode c_X0_lastingPairs 18 = .ok (.istore 6, 2)) rfl rfl (by decide), ?_⟩
  refine List.forall_mem_cons.mpr ⟨s_iload C (by decide +kernel : decode c_X0_lastingPairs 20 = .ok (.iload 6, 2)) rfl rfl, ?_⟩
  refine List.forall_mem_cons.mpr ⟨s_aload_n C (by decide +kernel : decode c_X0_lastingPairs 22 = .ok (.aload_n 1, 1)) rfl rfl rfl, ?_⟩
  refine List.forall_mem_cons.mpr ⟨s_getf C (by decide +kernel : decode c_X0_lastingPairs 23 = .ok (.getfield 38, 3)) rfl rfl em_cl_X7 (by decide) ew87 rfl, ?_⟩
  refine List.forall_mem_cons.mpr ⟨s_icmpge C (by decide +kernel : decode c_X0_lastingPairs 26 = .ok (.if_icmp .ge 42, 3)) (by decide) rfl rfl rfl, ?_⟩
  refine List.forall_mem_cons.mpr ⟨s_aload_n C (by decide +kernel : decode c_X0_lastingPairs 29 = .ok (.aload_n 0, 1)) rfl rfl rfl, ?_⟩
  refine List.forall_mem_cons.mpr ⟨s_aload_n C (by decide +kernel : decode c_X0_lastingPairs 30 = .ok (.aload_n 1, 1)) rfl rfl rfl, ?_⟩
  refine List.forall_mem_cons.mpr ⟨s_iload C (by decide +kernel : decode c_X0_lastingPairs 31 = .ok (.iload 5, 2)) rfl rfl, ?_⟩
  refine List.forall_mem_cons.mpr ⟨s_iload C (by decide +kernel : decode c_X0_lastingPairs 33 = .ok (.iload 6, 2)) rfl rfl, ?_⟩
  refine List.forall_mem_cons.mpr ⟨s_callV C hFok hF (ct_X0_parted l D dA σ) ⟨rfl, rfl⟩ ew488 em_cl_X0 ew525 ew486 ew487 ew3 ⟨by decide, by decide, by decide +kernel⟩ ⟨by decide, by decide⟩ (by decide +kernel : decode c_X0_lastingPairs 35 = .ok (.invokevirtual 41, 3)) rfl rfl ⟨Nat.zero_le _, Nat.zero_le _⟩, ?_⟩
  refine List.forall_mem_cons.mpr ⟨s_istore C (by decide +kernel : decode c_X0_lastingPairs 38 = .ok (.istore 7, 2)) rfl rfl (by decide), ?_⟩
  refine List.forall_mem_cons.mpr ⟨s_iload C (by decide +kernel : decode c_X0_lastingPairs 40 = .ok (.iload 7, 2)) rfl rfl, ?_⟩
  refine List.forall_mem_cons.mpr ⟨s_iconst C (by decide +kernel : decode c_X0_lastingPairs 42 = .ok (.iconst (-1), 1)) rfl rfl (by decide), ?_⟩
  refine List.forall_mem_cons.mpr ⟨s_icmpeq C (by decide +kernel : decode c_X0_lastingPairs 43 = .ok (.if_icmp .eq 9, 3)) (by decide) rfl rfl rfl, ?_⟩
  refine List.forall_mem_cons.mpr ⟨s_iload C (by decide +kernel : decode c_X0_lastingPairs 46 = .ok (.iload 7, 2)) rfl rfl, ?_⟩
  refine List.forall_mem_cons.mpr ⟨s_iload_n C (by decide +kernel : decode c_X0_lastingPairs 48 = .ok (.iload_n 2, 1)) rfl rfl rfl, ?_⟩
  refine List.forall_mem_cons.mpr ⟨s_icmple C (by decide +kernel : decode c_X0_lastingPairs 49 = .ok (.if_icmp .le 13, 3)) (by decide) rfl rfl rfl, ?_⟩
  refine List.forall_mem_cons.mpr ⟨s_lload_n C (by decide +kernel : decode c_X0_lastingPairs 52 = .ok (.lload_n 3, 1)) rfl rfl rfl, ?_⟩
  refine List.forall_mem_cons.mpr ⟨s_iload C (by decide +kernel : decode c_X0_lastingPairs 53 = .ok (.iload 5, 2)) rfl rfl, ?_⟩
  refine List.forall_mem_cons.mpr ⟨s_iload C (by decide +kernel : decode c_X0_lastingPairs 55 = .ok (.iload 6, 2)) rfl rfl, ?_⟩
  refine List.forall_mem_cons.mpr ⟨s_callS C hFok hF (ct_X4_bit l D dA σ) ⟨rfl, rfl⟩ ew528 ew526 ew527 ew16 ⟨by decide, by decide, by decide +kernel⟩ ⟨by decide, by decide⟩ (by decide +kernel : decode c_X0_lastingPairs 57 = .ok (.invokestatic 45, 3)) rfl rfl ⟨Nat.zero_le _, Nat.zero_le _⟩, ?_⟩
  refine List.forall_mem_cons.mpr ⟨s_lor C (by decide +kernel : decode c_X0_lastingPairs 60 = .ok (.lor, 1)) rfl rfl, ?_⟩
  refine List.forall_mem_cons.mpr ⟨s_lstore_n C (by decide +kernel : decode c_X0_lastingPairs 61 = .ok (.lstore_n 3, 1)) rfl rfl rfl (by decide), ?_⟩
  refine List.forall_mem_cons.mpr ⟨s_iinc C (by decide +kernel : decode c_X0_lastingPairs 62 = .ok (.iinc 6 1, 3)) rfl rfl (by decide) (by decide), ?_⟩
  refine List.forall_mem_cons.mpr ⟨s_goto C (by decide +kernel : decode c_X0_lastingPairs 65 = .ok (.goto (-45), 3)) (by decide) rfl, ?_⟩
  refine List.forall_mem_cons.mpr ⟨s_iinc C (by decide +kernel : decode c_X0_lastingPairs 68 = .ok (.iinc 5 1, 3)) rfl rfl (by decide) (by decide), ?_⟩
  refine List.forall_mem_cons.mpr ⟨s_goto C (by decide +kernel : decode c_X0_lastingPairs 71 = .ok (.goto (-66), 3)) (by decide) rfl, ?_⟩
  refine List.forall_mem_cons.mpr ⟨s_lload_n C (by decide +kernel : decode c_X0_lastingPairs 74 = .ok (.lload_n 3, 1)) rfl rfl rfl, ?_⟩
  refine List.forall_mem_cons.mpr ⟨s_lret C (by decide +kernel : decode c_X0_lastingPairs 75 = .ok (.lreturn, 1)) hret hlk ⟨Nat.le_refl 0, Nat.le_refl 0⟩, ?_⟩
  exact fun _ h => absurd h List.not_mem_nil
/-! ===== Fraction ===== -/
def wF (ab be : Int32) : em_H := [.inr (1, [.int ab, .int be])]
def hvN (c h : Nat) : Nat → Nat × Nat
  | 0 => (c, 2 ^ h)
  | i + 1 => if (hvN c h i).1 % 2 = 0 then ((hvN c h i).1 / 2, (hvN c h i).2 / 2) else hvN c h i
theorem shl1 : ∀ h, h < 11 → (1 : Int32) <<< (nI h &&& 31) = nI (2 ^ h) := by decide
theorem hvN_le {c h : Nat} (hc : c ≤ 1024) (hh : h ≤ 10) : ∀ i, (hvN c h i).1 ≤ 1024 ∧ (hvN c h i).2 ≤ 1024
  | 0 => ⟨hc, by rw [hvN]; exact Nat.pow_le_pow_right (n := 2) (by omega) hh⟩
  | i + 1 => by
    have := hvN_le hc hh i
    rw [hvN]
    split
    · exact ⟨Nat.le_trans (Nat.div_le_self _ _) this.1, Nat.le_trans (Nat.div_le_self _ _) this.2⟩
    · exact this
def sp_X2_becomeHalves : em_Sp := fun av hp Q => ∃ ab be c h, av = [.ref 0, .int (nI c), .int (nI h)] ∧ hp = wF ab be ∧ c ≤ 1024 ∧ h ≤ 10 ∧ Q none (wF (nI (hvN c h h).1) (nI (hvN c h h).2))
def T_X2_becomeHalves : List (Nat × em_Op) := [(0, o_aload 0 1), (1, o_iload 1 2), (2, o_putI 1 0 5), (5, o_aload 0 6), (6, o_iconst 1 7), (7, o_iload 2 8), (8, o_ishl 9), (9, o_putI 1 1 12), (12, o_iconst 0 13), (13, o_istore 3 14), (14, o_iload 3 15), (15, o_iload 2 16), (16, o_icmpge 54 19), (19, o_aload 0 20), (20, o_getf 1 0 23), (23, o_iconst 2 24), (24, o_irem 25), (25, o_ifne 48 28), (28, o_aload 0 29), (29, o_dup 30), (30, o_getf 1 0 33), (33, o_iconst 2 34), (34, o_idiv 35), (35, o_putI 1 0 38), (38, o_aload 0 39), (39, o_dup 40), (40, o_getf 1 1 43), (43, o_iconst 2 44), (44, o_idiv 45), (45, o_putI 1 1 48), (48, o_iinc 3 1 51), (51, o_goto 14), (54, o_vret)]
theorem me_X2_becomeHalves : em_Me T_X2_becomeHalves 4 sp_X2_becomeHalves := by
  intro Q K hK hle av hp hs
  obtain ⟨ab, be, c, h, rfl, rfl, hc, hh, hq⟩ := hs
  refine ⟨Nat.le_of_ble_eq_true rfl, ?_⟩
  have loop : ∀ (r i : Nat), i + r = h → K 14 [some (.ref 0), some (.int (nI c)), some (.int (nI h)), some (.int (nI i))] [] (wF (nI (hvN c h i).1) (nI (hvN c h i).2)) := by
    intro r
    induction r with
    | zero =>
      intro i hi
      have hi : i = h := by omega
      subst hi
      refine hK 10 9999 14 _ _ _ ?_
      exact ⟨fun _ => hq, fun z => absurd (nI_le (Nat.le_refl i) (by omega)) z⟩
    | succ r ih =>
      intro i hi
      obtain ⟨b1, b2⟩ := hvN_le hc hh i
      have hm := Nat.mod_lt (hvN c h i).1 (show 2 > 0 by omega)
      have := ih (i + 1) (by omega)
      rw [← nI_1] at this
      refine hK 10 9999 14 _ _ _ ?_
      refine ⟨fun z => absurd z (nI_ge (by omega) (by omega)), fun _ => ?_⟩
      refine ⟨by decide, ?_⟩
      have em : nI (hvN c h i).1 - nI (hvN c h i).1 / 2 * 2 = nI ((hvN c h i).1 % 2) := pk_rem (d := 2) (by omega) (by omega) (by omega)
      rw [em]
      refine ⟨fun z => ?_, fun z => ?_⟩
      · have hz : ¬ (hvN c h i).1 % 2 = 0 := fun y => z (by rw [y]; rfl)
        rw [hvN, if_neg hz] at this
        exact this
      · have hz : (hvN c h i).1 % 2 = 0 := (nI_eq (b := 0) (by omega) (by omega)).mp z
        rw [hvN, if_pos hz] at this
        have d1 : nI (hvN c h i).1 / 2 = nI ((hvN c h i).1 / 2) := pk_div (d := 2) (by omega) (by omega) (by omega)
        have d2 : nI (hvN c h i).2 / 2 = nI ((hvN c h i).2 / 2) := pk_div (d := 2) (by omega) (by omega) (by omega)
        rw [← d1, ← d2] at this
        exact ⟨by decide, by decide, this⟩
  have := loop h 0 (by omega)
  rw [hvN, ← shl1 h (by omega)] at this
  exact hK 0 10 0 _ _ _ this
abbrev rm_X2_becomeHalves : Room := { frames := 0, cells := 0, slots := 0, locals := 0 }
set_option maxRecDepth 100000 in
set_option maxHeartbeats 4000000 in
theorem ct_X2_becomeHalves (l : Launch) (D : va_G) (dA : Nat → ClassId) (σ : Nat → Nat) : em_CT l D em_cl dA σ (em_F σ) y_X2_becomeHalves c_X2_becomeHalves 4 (Option.none : Option ClassFile.FieldType) rm_X2_becomeHalves (sp_X2_becomeHalves ) := by
  refine em_CT_of (T := T_X2_becomeHalves ) (em_F_ok σ) (by decide) (fun p e s m args below meth c A ρ Q C hFok hF hret hlk hin => ?_) (me_X2_becomeHalves )
  unfold T_X2_becomeHalves
  refine List.forall_mem_cons.mpr ⟨s_aload_n C (by decide +kernel : decode c_X2_becomeHalves 0 = .ok (.aload_n 0, 1)) rfl rfl rfl, ?_⟩
  refine List.forall_mem_cons.mpr ⟨s_iload_n C (by decide +kernel : decode c_X2_becomeHalves 1 = .ok (.iload_n 1, 1)) rfl rfl rfl, ?_⟩
  refine List.forall_mem_cons.mpr ⟨s_putI C (by decide +kernel : decode c_X2_becomeHalves 2 = .ok (.putfield 7, 3)) rfl rfl em_cl_X2 (by decide) ew65 rfl (by decide) (by decide +kernel), ?_⟩
  refine List.forall_mem_cons.mpr ⟨s_aload_n C (by decide +kernel : decode c_X2_becomeHalves 5 = .ok (.aload_n 0, 1)) rfl rfl rfl, ?_⟩
  refine List.forall_mem_cons.mpr ⟨s_iconst C (by decide +kernel : decode c_X2_becomeHalves 6 = .ok (.iconst 1, 1)) rfl rfl (by decide), ?_⟩
  refine List.forall_mem_cons.mpr ⟨s_iload_n C (by decide +kernel : decode c_X2_becomeHalves 7 = .ok (.iload_n 2, 1)) rfl rfl rfl, ?_⟩
  refine List.forall_mem_cons.mpr ⟨s_ishl C (by decide +kernel : decode c_X2_becomeHalves 8 = .ok (.ishl, 1)) rfl rfl, ?_⟩
  refine List.forall_mem_cons.mpr ⟨s_putI C (by decide +kernel : decode c_X2_becomeHalves 9 = .ok (.putfield 13, 3)) rfl rfl em_cl_X2 (by decide) ew67 rfl (by decide) (by decide +kernel), ?_⟩
  refine List.forall_mem_cons.mpr ⟨s_iconst C (by decide +kernel : decode c_X2_becomeHalves 12 = .ok (.iconst 0, 1)) rfl rfl (by decide), ?_⟩
  refine List.forall_mem_cons.mpr ⟨s_istore_n C (by decide +kernel : decode c_X2_becomeHalves 13 = .ok (.istore_n 3, 1)) rfl rfl rfl (by decide), ?_⟩
  refine List.forall_mem_cons.mpr ⟨s_iload_n C (by decide +kernel : decode c_X2_becomeHalves 14 = .ok (.iload_n 3, 1)) rfl rfl rfl, ?_⟩
  refine List.forall_mem_cons.mpr ⟨s_iload_n C (by decide +kernel : decode c_X2_becomeHalves 15 = .ok (.iload_n 2, 1)) rfl rfl rfl, ?_⟩
  refine List.forall_mem_cons.mpr ⟨s_icmpge C (by decide +kernel : decode c_X2_becomeHalves 16 = .ok (.if_icmp .ge 38, 3)) (by decide) rfl rfl rfl, ?_⟩
  refine List.forall_mem_cons.mpr ⟨s_aload_n C (by decide +kernel : decode c_X2_becomeHalves 19 = .ok (.aload_n 0, 1)) rfl rfl rfl, ?_⟩
  refine List.forall_mem_cons.mpr ⟨s_getf C (by decide +kernel : decode c_X2_becomeHalves 20 = .ok (.getfield 7, 3)) rfl rfl em_cl_X2 (by decide) ew65 rfl, ?_⟩
  refine List.forall_mem_cons.mpr ⟨s_iconst C (by decide +kernel : decode c_X2_becomeHalves 23 = .ok (.iconst 2, 1)) rfl rfl (by decide), ?_⟩
  refine List.forall_mem_cons.mpr ⟨s_irem C (by decide +kernel : decode c_X2_becomeHalves 24 = .ok (.irem, 1)) rfl rfl, ?_⟩
  refine List.forall_mem_cons.mpr ⟨s_ifne C (by decide +kernel : decode c_X2_becomeHalves 25 = .ok (.ifCond .ne 23, 3)) (by decide) rfl rfl rfl, ?_⟩
  refine List.forall_mem_cons.mpr ⟨s_aload_n C (by decide +kernel : decode c_X2_becomeHalves 28 = .ok (.aload_n 0, 1)) rfl rfl rfl, ?_⟩
  refine List.forall_mem_cons.mpr ⟨s_dup C (by decide +kernel : decode c_X2_becomeHalves 29 = .ok (.dup, 1)) rfl rfl, ?_⟩
  refine List.forall_mem_cons.mpr ⟨s_getf C (by decide +kernel : decode c_X2_becomeHalves 30 = .ok (.getfield 7, 3)) rfl rfl em_cl_X2 (by decide) ew65 rfl, ?_⟩
  refine List.forall_mem_cons.mpr ⟨s_iconst C (by decide +kernel : decode c_X2_becomeHalves 33 = .ok (.iconst 2, 1)) rfl rfl (by decide), ?_⟩
  refine List.forall_mem_cons.mpr ⟨s_idiv C (by decide +kernel : decode c_X2_becomeHalves 34 = .ok (.idiv, 1)) rfl rfl, ?_⟩
  refine List.forall_mem_cons.mpr ⟨s_putI C (by decide +kernel : decode c_X2_becomeHalves 35 = .ok (.putfield 7, 3)) rfl rfl em_cl_X2 (by decide) ew65 rfl (by decide) (by decide +kernel), ?_⟩
  refine List.forall_mem_cons.mpr ⟨s_aload_n C (by decide +kernel : decode c_X2_becomeHalves 38 = .ok (.aload_n 0, 1)) rfl rfl rfl, ?_⟩
  refine List.forall_mem_cons.mpr ⟨s_dup C (by decide +kernel : decode c_X2_becomeHalves 39 = .ok (.dup, 1)) rfl rfl, ?_⟩
  refine List.forall_mem_cons.mpr ⟨s_getf C (by decide +kernel : decode c_X2_becomeHalves 40 = .ok (.getfield 13, 3)) rfl rfl em_cl_X2 (by decide) ew67 rfl, ?_⟩
  refine List.forall_mem_cons.mpr ⟨s_iconst C (by decide +kernel : decode c_X2_becomeHalves 43 = .ok (.iconst 2, 1)) rfl rfl (by decide), ?_⟩
  refine List.forall_mem_cons.mpr ⟨s_idiv C (by decide +kernel : decode c_X2_becomeHalves 44 = .ok (.idiv, 1)) rfl rfl, ?_⟩
  refine List.forall_mem_cons.mpr ⟨s_putI C (by decide +kernel : decode c_X2_becomeHalves 45 = .ok (.putfield 13, 3)) rfl rfl em_cl_X2 (by decide) ew67 rfl (by decide) (by decide +kernel), ?_⟩
  refine List.forall_mem_cons.mpr ⟨s_iinc C (by decide +kernel : decode c_X2_becomeHalves 48 = .ok (.iinc 3 1, 3)) rfl rfl (by decide) (by decide), ?_⟩
  refine List.forall_mem_cons.mpr ⟨s_goto C (by decide +kernel : decode c_X2_becomeHalves 51 = .ok (.goto (-37), 3)) (by decide) rfl, ?_⟩
  refine List.forall_mem_cons.mpr ⟨s_vret C (by decide +kernel : decode c_X2_becomeHalves 54 = .ok (.return_, 1)) hret hlk ⟨Nat.le_refl 0, Nat.le_refl 0⟩, ?_⟩
  exact fun _ h => absurd h List.not_mem_nil
