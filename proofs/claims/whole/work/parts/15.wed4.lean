/-! ===== WedApart: law, children, what there is ===== -/
def cfB (ca clt : Nat → Int32) (nc a b : Nat) : Bool := decide (∀ j, j < nc → ins (ca j) (nI a) (nI b) = clt j)
theorem cfB_to {ca clt : Nat → Int32} {nc a b : Nat} (h : cfB ca clt nc a b = true) : cft ca clt nc (nI a) (nI b) := by
  unfold cfB at h
  have h9 := of_decide_eq_true h
  exact h9
/-- how many fit; the narrowest; how narrow -/
def laI (P : Nat → Nat → Bool) (a : Nat) (s : Nat × Option Nat × Nat) : Nat → Nat × Option Nat × Nat
  | 0 => s
  | k + 1 => if P a (a + k) = true then (if k < (laI P a s k).2.2 then ((laI P a s k).1 + 1, some (100 * a + (a + k)), k) else ((laI P a s k).1 + 1, (laI P a s k).2)) else laI P a s k
def laO (P : Nat → Nat → Bool) : Nat → Nat × Option Nat × Nat
  | 0 => (0, none, 21)
  | a + 1 => laI P a (laO P a) (21 - a)
theorem laI_w {P : Nat → Nat → Bool} {a : Nat} {s : Nat × Option Nat × Nat} (h : s.2.2 ≤ 21) : ∀ k, (laI P a s k).2.2 ≤ 21
  | 0 => h
  | k + 1 => by
    have := laI_w (P := P) (a := a) h k
    rw [laI]
    split
    · split
      · show k ≤ 21; omega
      · exact this
    · exact this
theorem laO_w {P : Nat → Nat → Bool} : ∀ a, (laO P a).2.2 ≤ 21
  | 0 => Nat.le_refl _
  | a + 1 => laI_w (laO_w a) _
def sp_X9_law : em_Sp := fun av hp Q => ∃ by9 tln tst ten mm fa9 fb9 rf im pe ki mi se we lea mst pa fi sd ev un ma ea co ca clt Y k nc, av = [.ref 0, .int k] ∧ hp = (wX by9 tln tst ten mm fa9 fb9 rf im pe ki mi se we lea mst pa fi sd ev un ma ea co ca clt Y) ∧ co = nI nc ∧ nc ≤ 10 ∧ (¬ k = 0 → ¬ k = 1 → Q (some (.int (-10))) (wX by9 tln tst ten mm fa9 fb9 (rfu rf (-10)) im pe ki mi se we lea mst pa fi sd ev un ma ea co ca clt Y)) ∧ (k = 0 → Q (some (.int (nI (laO (cfB ca clt nc) 21).1))) hp) ∧ (k = 1 → Q (some (.int (oI (laO (cfB ca clt nc) 21).2.1))) hp)
def T_X9_law : List (Nat × em_Op) := [(0, o_iload 1 1), (1, o_ifeq 16 4), (4, o_iload 1 5), (5, o_iconst 1 6), (6, o_icmpeq 16 9), (9, o_aload 0 10), (10, o_iconst (-10) 12), (12, o_call 2 (some 4) (sp_X9_refuse) 15), (15, o_iret), (16, o_iconst 0 17), (17, o_istore 2 18), (18, o_iconst (-1) 19), (19, o_istore 3 20), (20, o_iconst 21 22), (22, o_istore 4 24), (24, o_iconst 0 25), (25, o_istore 5 27), (27, o_iload 5 29), (29, o_iconst 20 31), (31, o_icmpgt 100 34), (34, o_iload 5 36), (36, o_istore 6 38), (38, o_iload 6 40), (40, o_iconst 20 42), (42, o_icmpgt 94 45), (45, o_aload 0 46), (46, o_getf 4 5 49), (49, o_iload 5 51), (51, o_iload 6 53), (53, o_callP 3 (some 2) [8, 9, 10, 11, 12, 13, 14, 15] (sp_X7_couplesFit) 56), (56, o_ifeq 88 59), (59, o_iinc 2 1 62), (62, o_iload 6 64), (64, o_iload 5 66), (66, o_isub 67), (67, o_iload 4 69), (69, o_icmpge 88 72), (72, o_iload 6 74), (74, o_iload 5 76), (76, o_isub 77), (77, o_istore 4 79), (79, o_iconst 100 81), (81, o_iload 5 83), (83, o_imul 84), (84, o_iload 6 86), (86, o_iadd 87), (87, o_istore 3 88), (88, o_iinc 6 1 91), (91, o_goto 38), (94, o_iinc 5 1 97), (97, o_goto 27), (100, o_iload 1 101), (101, o_ifne 108 104), (104, o_iload 2 105), (105, o_goto 109), (108, o_iload 3 109), (109, o_iret)]
theorem me_X9_law : em_Me T_X9_law 7 sp_X9_law := by
  intro Q K hK hle av hp hs
  obtain ⟨by9, tln, tst, ten, mm, fa9, fb9, rf, im, pe, ki, mi, se, we, lea, mst, pa, fi, sd, ev, un, ma, ea, co, ca, clt, Y, k, nc, rfl, rfl, rfl, hn, hb, hq0, hq1⟩ := hs
  refine ⟨Nat.le_of_ble_eq_true rfl, ?_⟩
  generalize hP : cfB ca clt nc = P at hq0 hq1
  have ok : k = 0 ∨ k = 1 → K 16 [some (.ref 0), some (.int k), none, none, none, none, none] [] (wX by9 tln tst ten mm fa9 fb9 rf im pe ki mi se we lea mst pa fi sd ev un ma ea (nI nc) ca clt Y) := by
    intro hk
    have inner : ∀ (a : Nat) (s : Nat × Option Nat × Nat), a < 21 → s.2.2 ≤ 21 → K 27 [some (.ref 0), some (.int k), some (.int (nI (laI P a s (21 - a)).1)), some (.int (oI (laI P a s (21 - a)).2.1)), some (.int (nI (laI P a s (21 - a)).2.2)), some (.int (nI (a + 1))), none] [] (wX by9 tln tst ten mm fa9 fb9 rf im pe ki mi se we lea mst pa fi sd ev un ma ea (nI nc) ca clt Y) → ∀ (r j : Nat), j + r = 21 - a → K 38 [some (.ref 0), some (.int k), some (.int (nI (laI P a s j).1)), some (.int (oI (laI P a s j).2.1)), some (.int (nI (laI P a s j).2.2)), some (.int (nI a)), some (.int (nI (a + j)))] [] (wX by9 tln tst ten mm fa9 fb9 rf im pe ki mi se we lea mst pa fi sd ev un ma ea (nI nc) ca clt Y) := by
      intro a s ha hs9 hend r
      induction r with
      | zero =>
        intro j hj
        have hj : j = 21 - a := by omega
        subst hj
        refine hK 22 9999 38 _ _ _ ?_
        refine ⟨fun _ => ?_, fun z => absurd (nI_lt (a := 20) (b := a + (21 - a)) (by omega) (by omega)) z⟩
        rw [← nI_1 a] at hend
        exact hle _ _ _ _ _ (by repeat (first | exact trivial | refine ⟨rfl, ?_⟩)) hend
      | succ r ih =>
        intro j hj
        have next : ∀ v w x, v = nI (laI P a s (j + 1)).1 → w = oI (laI P a s (j + 1)).2.1 → x = nI (laI P a s (j + 1)).2.2 → K 88 [some (.ref 0), some (.int k), some (.int v), some (.int w), some (.int x), some (.int (nI a)), some (.int (nI (a + j)))] [] (wX by9 tln tst ten mm fa9 fb9 rf im pe ki mi se we lea mst pa fi sd ev un ma ea (nI nc) ca clt Y) := by
          intro v w x hv hw hx
          subst hv
          subst hw
          subst hx
          have := ih (j + 1) (by omega)
          rw [show a + (j + 1) = (a + j) + 1 by omega, ← nI_1 (a + j)] at this
          exact hK 47 2 88 _ _ _ this
        have hwd := laI_w (P := P) (a := a) hs9 j
        have ep : P a (a + j) = cfB ca clt nc a (a + j) := by rw [← hP]
        refine hK 22 25 38 _ _ _ ?_
        refine ⟨fun z => absurd z (nI_nlt (a := 20) (b := a + j) (by omega) (by omega)), fun _ => ?_⟩
        refine ⟨_, _, _, _, _, _, _, _, _, _, _, _, _, _, _, _, _, _, _, nc, rfl, rfl, rfl, hn, fun z => ?_, fun z => ?_⟩
        · have e1 : P a (a + j) = true := by rw [ep]; exact decide_eq_true z
          have e2 : nI (a + j) - nI a = nI j := by rw [pk_sub (by omega), show a + j - a = j by omega]
          refine ⟨fun y => absurd y (by decide), fun _ => ?_⟩
          refine ⟨fun y => ?_, fun y => ?_⟩
          · rw [e2] at y
            have hy : ¬ j < (laI P a s j).2.2 := fun q => nI_ge q (by omega) y
            exact next _ _ _ (by rw [laI, if_pos e1, if_neg hy, ← nI_1]) (by rw [laI, if_pos e1, if_neg hy]) (by rw [laI, if_pos e1, if_neg hy])
          · rw [e2] at y
            have hy : j < (laI P a s j).2.2 := by
              rcases Nat.lt_or_ge j (laI P a s j).2.2 with q | q
              · exact q
              · exact absurd (nI_le q (by omega)) y
            refine next _ _ _ (by rw [laI, if_pos e1, if_pos hy, ← nI_1]) ?_ (by rw [e2, laI, if_pos e1, if_pos hy])
            rw [laI, if_pos e1, if_pos hy]
            show 100 * nI a + nI (a + j) = nI (100 * a + (a + j))
            rw [show (100 : Int32) = nI 100 from rfl, pk_mul, nI_add]
        · have e1 : ¬ P a (a + j) = true := by
            rw [ep]
            intro q
            exact z (cfB_to q)
          refine ⟨fun _ => ?_, fun y => absurd y (by decide)⟩
          exact next _ _ _ (by rw [laI, if_neg e1]) (by rw [laI, if_neg e1]) (by rw [laI, if_neg e1])
    have outer : ∀ (r a : Nat), a + r = 21 → K 27 [some (.ref 0), some (.int k), some (.int (nI (laO P a).1)), some (.int (oI (laO P a).2.1)), some (.int (nI (laO P a).2.2)), some (.int (nI a)), none] [] (wX by9 tln tst ten mm fa9 fb9 rf im pe ki mi se we lea mst pa fi sd ev un ma ea (nI nc) ca clt Y) := by
      intro r
      induction r with
      | zero =>
        intro a ha
        have ha : a = 21 := by omega
        subst ha
        refine hK 17 9999 27 _ _ _ ?_
        refine ⟨fun _ => ⟨fun z => ?_, fun z => ?_⟩, fun z => absurd (nI_lt (a := 20) (b := 21) (by omega) (by omega)) z⟩
        · rcases hk with q | q
          · exact absurd q z
          · exact hq1 q
        · exact hq0 z
      | succ r ih =>
        intro a ha
        refine hK 17 5 27 _ _ _ ?_
        refine ⟨fun z => absurd z (nI_nlt (a := 20) (b := a) (by omega) (by omega)), fun _ => ?_⟩
        have := inner a (laO P a) (by omega) (laO_w a) (ih (a + 1) (by omega)) (21 - a) 0 (by omega)
        exact this
    exact hK 9 8 16 _ _ _ (outer 21 0 rfl)
  refine hK 0 9 0 _ _ _ ?_
  refine ⟨fun z => ok (Or.inl z), fun z => ⟨fun z2 => ok (Or.inr z2), fun z2 => ?_⟩⟩
  exact ⟨_, _, _, _, _, _, _, _, _, _, _, _, _, _, _, _, _, _, _, _, _, _, _, _, _, _, _, _, rfl, rfl, hb z z2⟩
abbrev rm_X9_law : Room := { frames := 1, cells := 0, slots := 0, locals := 24 }
set_option maxRecDepth 100000 in
set_option maxHeartbeats 4000000 in
theorem ct_X9_law (l : Launch) (D : va_G) (dA : Nat → ClassId) (σ : Nat → Nat) : em_CT l D em_cl dA σ (em_F σ) y_X9_law c_X9_law 7 (Option.some ClassFile.FieldType.int) rm_X9_law (sp_X9_law ) := by
  refine em_CT_of (T := T_X9_law ) (em_F_ok σ) (by decide) (fun p e s m args below meth c A ρ Q C hFok hF hret hlk hin => ?_) (me_X9_law )
  unfold T_X9_law
  refine List.forall_mem_cons.mpr ⟨s_iload_n C (by decide +kernel : decode c_X9_law 0 = .ok (.iload_n 1, 1)) rfl rfl rfl, ?_⟩
  refine List.forall_mem_cons.mpr ⟨s_ifeq C (by decide +kernel : decode c_X9_law 1 = .ok (.ifCond .eq 15, 3)) (by decide) rfl rfl rfl, ?_⟩
  refine List.forall_mem_cons.mpr ⟨s_iload_n C (by decide +kernel : decode c_X9_law 4 = .ok (.iload_n 1, 1)) rfl rfl rfl, ?_⟩
  refine List.forall_mem_cons.mpr ⟨s_iconst C (by decide +kernel : decode c_X9_law 5 = .ok (.iconst 1, 1)) rfl rfl (by decide), ?_⟩
  refine List.forall_mem_cons.mpr ⟨s_icmpeq C (by decide +kernel : decode c_X9_law 6 = .ok (.if_icmp .eq 10, 3)) (by decide) rfl rfl rfl, ?_⟩
  refine List.forall_mem_cons.mpr ⟨s_aload_n C (by decide +kernel : decode c_X9_law 9 = .ok (.aload_n 0, 1)) rfl rfl rfl, ?_⟩
  refine List.forall_mem_cons.mpr ⟨s_bipush C (by decide +kernel : decode c_X9_law 10 = .ok (.bipush (-10), 2)) rfl rfl (by decide), ?_⟩
  refine List.forall_mem_cons.mpr ⟨s_callV C hFok hF (ct_X9_refuse l D dA σ) ⟨rfl, rfl⟩ ew200 em_cl_X9 ew197 ew199 ewp1 ew1 ⟨by decide, by decide, by decide +kernel⟩ ⟨by decide, by decide⟩ (by decide +kernel : decode c_X9_law 12 = .ok (.invokevirtual 63, 3)) rfl rfl ⟨Nat.zero_le _, Nat.zero_le _⟩, ?_⟩
  refine List.forall_mem_cons.mpr ⟨s_iret C (by decide +kernel : decode c_X9_law 15 = .ok (.ireturn, 1)) hret hlk ⟨Nat.le_refl 0, Nat.le_refl 0⟩, ?_⟩
  refine List.forall_mem_cons.mpr ⟨s_iconst C (by decide +kernel : decode c_X9_law 16 = .ok (.iconst 0, 1)) rfl rfl (by decide), ?_⟩
  refine List.forall_mem_cons.mpr ⟨s_istore_n C (by decide +kernel : decode c_X9_law 17 = .ok (.istore_n 2, 1)) rfl rfl rfl (by decide), ?_⟩
  refine List.forall_mem_cons.mpr ⟨s_iconst C (by decide +kernel : decode c_X9_law 18 = .ok (.iconst (-1), 1)) rfl rfl (by decide), ?_⟩
  refine List.forall_mem_cons.mpr ⟨s_istore_n C (by decide +kernel : decode c_X9_law 19 = .ok (.istore_n 3, 1)) rfl rfl rfl (by decide), ?_⟩
  refine List.forall_mem_cons.mpr ⟨s_bipush C (by decide +kernel : decode c_X9_law 20 = .ok (.bipush 21, 2)) rfl rfl (by decide), ?_⟩
  refine List.forall_mem_cons.mpr ⟨s_istore C (by decide +kernel : decode c_X9_law 22 = .ok (.istore 4, 2)) rfl rfl (by decide), ?_⟩
  refine List.forall_mem_cons.mpr ⟨s_iconst C (by decide +kernel : decode c_X9_law 24 = .ok (.iconst 0, 1)) rfl rfl (by decide), ?_⟩
  refine List.forall_mem_cons.mpr ⟨s_istore C (by decide +kernel : decode c_X9_law 25 = .ok (.istore 5, 2)) rfl rfl (by decide), ?_⟩
  refine List.forall_mem_cons.mpr ⟨s_iload C (by decide +kernel : decode c_X9_law 27 = .ok (.iload 5, 2)) rfl rfl, ?_⟩
  refine List.forall_mem_cons.mpr ⟨s_bipush C (by decide +kernel : decode c_X9_law 29 = .ok (.bipush 20, 2)) rfl rfl (by decide), ?_⟩
  refine List.forall_mem_cons.mpr ⟨s_icmpgt C (by decide +kernel : decode c_X9_law 31 = .ok (.if_icmp .gt 69, 3)) (by decide) rfl rfl rfl, ?_⟩
  refine List.forall_mem_cons.mpr ⟨s_iload C (by decide +kernel : decode c_X9_law 34 = .ok (.iload 5, 2)) rfl rfl, ?_⟩
  refine List.forall_mem_cons.mpr ⟨s_istore C (by decide +kernel : decode c_X9_law 36 = .ok (.istore 6, 2)) rfl rfl (by decide), ?_⟩
  refine List.forall_mem_cons.mpr ⟨s_iload C (by decide +kernel : decode c_X9_law 38 = .ok (.iload 6, 2)) rfl rfl, ?_⟩
  refine List.forall_mem_cons.mpr ⟨s_bipush C (by decide +kernel : decode c_X9_law 40 = .ok (.bipush 20, 2)) rfl rfl (by decide), ?_⟩
  refine List.forall_mem_cons.mpr ⟨s_icmpgt C (by decide +kernel : decode c_X9_law 42 = .ok (.if_icmp .gt 52, 3)) (by decide) rfl rfl rfl, ?_⟩
  refine List.forall_mem_cons.mpr ⟨s_aload_n C (by decide +kernel : decode c_X9_law 45 = .ok (.aload_n 0, 1)) rfl rfl rfl, ?_⟩
  refine List.forall_mem_cons.mpr ⟨s_getf C (by decide +kernel : decode c_X9_law 46 = .ok (.getfield 41, 3)) rfl rfl em_cl_X9 (by decide) ew157 rfl, ?_⟩
  refine List.forall_mem_cons.mpr ⟨s_iload C (by decide +kernel : decode c_X9_law 49 = .ok (.iload 5, 2)) rfl rfl, ?_⟩
  refine List.forall_mem_cons.mpr ⟨s_iload C (by decide +kernel : decode c_X9_law 51 = .ok (.iload 6, 2)) rfl rfl, ?_⟩
  refine List.forall_mem_cons.mpr ⟨s_callPV C hFok hF (ct_X7_couplesFit l D dA σ) ⟨rfl, rfl⟩ ew623 em_cl_X7 ew620 ew621 ew622 ew5 ⟨by decide, by decide, by decide +kernel⟩ ⟨by decide, by decide⟩ (by decide +kernel : decode c_X9_law 53 = .ok (.invokevirtual 231, 3)) rfl rfl ⟨Nat.zero_le _, Nat.zero_le _⟩ (by decide), ?_⟩
  refine List.forall_mem_cons.mpr ⟨s_ifeq C (by decide +kernel : decode c_X9_law 56 = .ok (.ifCond .eq 32, 3)) (by decide) rfl rfl rfl, ?_⟩
  refine List.forall_mem_cons.mpr ⟨s_iinc C (by decide +kernel : decode c_X9_law 59 = .ok (.iinc 2 1, 3)) rfl rfl (by decide) (by decide), ?_⟩
  refine List.forall_mem_cons.mpr ⟨s_iload C (by decide +kernel : decode c_X9_law 62 = .ok (.iload 6, 2)) rfl rfl, ?_⟩
  refine List.forall_mem_cons.mpr ⟨s_iload C (by decide +kernel : decode c_X9_law 64 = .ok (.iload 5, 2)) rfl rfl, ?_⟩
  refine List.forall_mem_cons.mpr ⟨s_isub C (by decide +kernel : decode c_X9_law 66 = .ok (.isub, 1)) rfl rfl, ?_⟩
  refine List.forall_mem_cons.mpr ⟨s_iload C (by decide +kernel : decode c_X9_law 67 = .ok (.iload 4, 2)) rfl rfl, ?_⟩
  refine List.forall_mem_cons.mpr ⟨s_icmpge C (by decide +kernel : decode c_X9_law 69 = .ok (.if_icmp .ge 19, 3)) (by decide) rfl rfl rfl, ?_⟩
  refine List.forall_mem_cons.mpr ⟨s_iload C (by decide +kernel : decode c_X9_law 72 = .ok (.iload 6, 2)) rfl rfl, ?_⟩
  refine List.forall_mem_cons.mpr ⟨s_iload C (by decide +kernel : decode c_X9_law 74 = .ok (.iload 5, 2)) rfl rfl, ?_⟩
  refine List.forall_mem_cons.mpr ⟨s_isub C (by decide +kernel : decode c_X9_law 76 = .ok (.isub, 1)) rfl rfl, ?_⟩
  refine List.forall_mem_cons.mpr ⟨s_istore C (by decide +kernel : decode c_X9_law 77 = .ok (.istore 4, 2)) rfl rfl (by decide), ?_⟩
  refine List.forall_mem_cons.mpr ⟨s_bipush C (by decide +kernel : decode c_X9_law 79 = .ok (.bipush 100, 2)) rfl rfl (by decide), ?_⟩
  refine List.forall_mem_cons.mpr ⟨s_iload C (by decide +kernel : decode c_X9_law 81 = .ok (.iload 5, 2)) rfl rfl, ?_⟩
  refine List.forall_mem_cons.mpr ⟨s_imul C (by decide +kernel : decode c_X9_law 83 = .ok (.imul, 1)) rfl rfl, ?_⟩
  refine List.forall_mem_cons.mpr ⟨s_iload C (by decide +kernel : decode c_X9_law 84 = .ok (.iload 6, 2)) rfl rfl, ?_⟩
  refine List.forall_mem_cons.mpr ⟨s_iadd C (by decide +kernel : decode c_X9_law 86 = .ok (.iadd, 1)) rfl rfl, ?_⟩
  refine List.forall_mem_cons.mpr ⟨s_istore_n C (by decide +kernel : decode c_X9_law 87 = .ok (.istore_n 3, 1)) rfl rfl rfl (by decide), ?_⟩
  refine List.forall_mem_cons.mpr ⟨s_iinc C (by decide +kernel : decode c_X9_law 88 = .ok (.iinc 6 1, 3)) rfl rfl (by decide) (by decide), ?_⟩
  refine List.forall_mem_cons.mpr ⟨s_goto C (by decide +kernel : decode c_X9_law 91 = .ok (.goto (-53), 3)) (by decide) rfl, ?_⟩
  refine List.forall_mem_cons.mpr ⟨s_iinc C (by decide +kernel : decode c_X9_law 94 = .ok (.iinc 5 1, 3)) rfl rfl (by decide) (by decide), ?_⟩
  refine List.forall_mem_cons.mpr ⟨s_goto C (by decide +kernel : decode c_X9_law 97 = .ok (.goto (-70), 3)) (by decide) rfl, ?_⟩
  refine List.forall_mem_cons.mpr ⟨s_iload_n C (by decide +kernel : decode c_X9_law 100 = .ok (.iload_n 1, 1)) rfl rfl rfl, ?_⟩
  refine List.forall_mem_cons.mpr ⟨s_ifne C (by decide +kernel : decode c_X9_law 101 = .ok (.ifCond .ne 7, 3)) (by decide) rfl rfl rfl, ?_⟩
  refine List.forall_mem_cons.mpr ⟨s_iload_n C (by decide +kernel : decode c_X9_law 104 = .ok (.iload_n 2, 1)) rfl rfl rfl, ?_⟩
  refine List.forall_mem_cons.mpr ⟨s_goto C (by decide +kernel : decode c_X9_law 105 = .ok (.goto 4, 3)) (by decide) rfl, ?_⟩
  refine List.forall_mem_cons.mpr ⟨s_iload_n C (by decide +kernel : decode c_X9_law 108 = .ok (.iload_n 3, 1)) rfl rfl rfl, ?_⟩
  refine List.forall_mem_cons.mpr ⟨s_iret C (by decide +kernel : decode c_X9_law 109 = .ok (.ireturn, 1)) hret hlk ⟨Nat.le_refl 0, Nat.le_refl 0⟩, ?_⟩
  exact fun _ h => absurd h List.not_mem_nil
def opn (d : Int32) : Int32 := d ^^^ (-1)
def chP (we x d t k : Int32) (l : Nat) : Bool := decide (nI l &&& opn d = 0) && decide (¬ dst we ((x &&& opn d) ||| nI l) t < k)
def chk (k : Int32) : Prop := ¬ k < 0 ∧ ¬ 20 < k
def sp_X9_child : em_Sp := fun av hp Q => ∃ by9 tln tst ten mm fa9 fb9 rf im pe ki mi se we lea mst pa fi sd ev un ma ea co ca clt Y a b t k h, av = [.ref 0, .int a, .int b, .int t, .int k] ∧ hp = (wX by9 tln tst ten mm fa9 fb9 rf im pe ki mi se we lea mst pa fi sd ev un ma ea co ca clt Y) ∧ (h2 pe a b → bcI (dif mi a b) = nI h ∧ h ≤ 10) ∧ (¬ (h2 pe a b ∧ hs pe t ∧ chk k) → Q (some (.int (-2))) (wX by9 tln tst ten mm fa9 fb9 (rfu rf (-2)) im pe ki mi se we lea mst pa fi sd ev un ma ea co ca clt Y)) ∧ (h2 pe a b → hs pe t → chk k → Q (some (.int 1)) (wX by9 tln tst ten mm (nI (hvN (cU (chP we (mo mi a) (dif mi a b) (mo mi t) k) 1024) h h).1) (nI (hvN (cU (chP we (mo mi a) (dif mi a b) (mo mi t) k) 1024) h h).2) rf im pe ki mi se we lea mst pa fi sd ev un ma ea co ca clt Y))
def T_X9_child : List (Nat × em_Op) := [(0, o_aload 0 1), (1, o_getf 4 5 4), (4, o_iload 1 5), (5, o_iload 2 6), (6, o_callP 3 (some 2) [8, 9, 10, 11, 12, 13, 14, 15] (sp_X7_hasTwo) 9), (9, o_ifeq 39 12), (12, o_aload 0 13), (13, o_getf 4 5 16), (16, o_iload 3 17), (17, o_callP 2 (some 2) [8, 9, 10, 11, 12, 13, 14, 15] (sp_X7_has) 20), (20, o_ifeq 39 23), (23, o_iload 4 25), (25, o_iflt 39 28), (28, o_iload 4 30), (30, o_iconst 20 32), (32, o_icmpgt 39 35), (35, o_iconst 1 36), (36, o_goto 40), (39, o_iconst 0 40), (40, o_istore 5 42), (42, o_iload 5 44), (44, o_ifne 54 47), (47, o_aload 0 48), (48, o_iconst (-2) 50), (50, o_call 2 (some 4) (sp_X9_refuse) 53), (53, o_iret), (54, o_aload 0 55), (55, o_getf 4 5 58), (58, o_getf 2 2 61), (61, o_iload 1 62), (62, o_call 2 none (sp_X5_of) 65), (65, o_istore 6 67), (67, o_iload 6 69), (69, o_aload 0 70), (70, o_getf 4 5 73), (73, o_getf 2 2 76), (76, o_iload 2 77), (77, o_call 2 none (sp_X5_of) 80), (80, o_ixor 81), (81, o_istore 7 83), (83, o_iconst 0 84), (84, o_istore 8 86), (86, o_iconst 0 87), (87, o_istore 9 89), (89, o_iload 9 91), (91, o_iconst 1023 94), (94, o_icmpgt 153 97), (97, o_iload 9 99), (99, o_iload 7 101), (101, o_iconst (-1) 102), (102, o_ixor 103), (103, o_iand 104), (104, o_ifne 147 107), (107, o_iload 6 109), (109, o_iload 7 111), (111, o_iconst (-1) 112), (112, o_ixor 113), (113, o_iand 114), (114, o_iload 9 116), (116, o_ior 117), (117, o_istore 10 119), (119, o_aload 0 120), (120, o_getf 4 5 123), (123, o_iload 10 125), (125, o_aload 0 126), (126, o_getf 4 5 129), (129, o_getf 2 2 132), (132, o_iload 3 133), (133, o_call 2 none (sp_X5_of) 136), (136, o_callP 3 (some 2) [8, 9, 10, 11, 12, 13, 14, 15] (sp_X7_distance) 139), (139, o_iload 4 141), (141, o_icmplt 147 144), (144, o_iinc 8 1 147), (147, o_iinc 9 1 150), (150, o_goto 89), (153, o_aload 0 154), (154, o_getf 4 2 157), (157, o_iload 8 159), (159, o_iload 7 161), (161, o_call 1 none (sp_J6_bitCount_0f7a4) 164), (164, o_callP 3 (some 1) [5] (sp_X2_becomeHalves) 167), (167, o_iconst 1 168), (168, o_iret)]
theorem me_X9_child : em_Me T_X9_child 11 sp_X9_child := by
  intro Q K hK hle av hp hs
  obtain ⟨by9, tln, tst, ten, mm, fa9, fb9, rf, im, pe, ki, mi, se, we, lea, mst, pa, fi, sd, ev, un, ma, ea, co, ca, clt, Y, a, b, t, k, h, rfl, rfl, hh, hb, hq⟩ := hs
  refine ⟨Nat.le_of_ble_eq_true rfl, ?_⟩
  have no : ¬ (h2 pe a b ∧ hs pe t ∧ chk k) → K 40 [some (.ref 0), some (.int a), some (.int b), some (.int t), some (.int k), none, none, none, none, none, none] [.int 0] (wX by9 tln tst ten mm fa9 fb9 rf im pe ki mi se we lea mst pa fi sd ev un ma ea co ca clt Y) := by
    intro z
    refine hK 19 9999 40 _ _ _ ?_
    refine ⟨fun y => absurd rfl y, fun _ => ?_⟩
    exact ⟨_, _, _, _, _, _, _, _, _, _, _, _, _, _, _, _, _, _, _, _, _, _, _, _, _, _, _, _, rfl, rfl, hb z⟩
  refine hK 0 19 0 _ _ _ ?_
  refine ⟨_, _, _, _, _, _, _, _, _, _, _, _, _, _, _, _, _, a, b, rfl, rfl, fun z => ?_, fun z => ?_⟩
  · refine ⟨fun y => absurd y (by decide), fun _ => ?_⟩
    refine ⟨_, _, _, _, _, _, _, _, _, _, _, _, _, _, _, _, _, t, rfl, rfl, fun z2 => ?_, fun z2 => ?_⟩
    · refine ⟨fun y => absurd y (by decide), fun _ => ?_⟩
      refine ⟨fun y => hle _ _ _ _ _ (by repeat (first | exact trivial | refine ⟨rfl, ?_⟩)) (no (fun q => q.2.2.1 y)), fun y => ⟨fun x => hle _ _ _ _ _ (by repeat (first | exact trivial | refine ⟨rfl, ?_⟩)) (no (fun q => q.2.2.2 x)), fun x => ?_⟩⟩
      obtain ⟨hh1, hh2⟩ := hh z
      have hq := hq z z2 ⟨y, x⟩
      generalize hX : mo mi a = x9 at hq
      generalize hd : dif mi a b = d at hq hh1
      generalize ht : mo mi t = t9 at hq
      have hd2 : x9 ^^^ mo mi b = d := by rw [← hd, ← hX]; rfl
      have loop : ∀ (r i : Nat), i + r = 1024 → K 89 [some (.ref 0), some (.int a), some (.int b), some (.int t), some (.int k), some (.int 1), some (.int x9), some (.int d), some (.int (nI (cU (chP we x9 d t9 k) i))), some (.int (nI i)), none] [] (wX by9 tln tst ten mm fa9 fb9 rf im pe ki mi se we lea mst pa fi sd ev un ma ea co ca clt Y) := by
        intro r
        induction r with
        | zero =>
          intro i hi
          have hi : i = 1024 := by omega
          subst hi
          refine hK 44 9999 89 _ _ _ ?_
          refine ⟨fun _ => ?_, fun w => absurd (nI_lt (a := 1023) (b := 1024) (by omega) (by omega)) w⟩
          exact ⟨_, rfl, _, _, _, h, by rw [hh1], rfl, cU_le, hh2, hq⟩
        | succ r ih =>
          intro i hi
          have next : ∀ v w, v = nI (cU (chP we x9 d t9 k) (i + 1)) → K 147 [some (.ref 0), some (.int a), some (.int b), some (.int t), some (.int k), some (.int 1), some (.int x9), some (.int d), some (.int v), some (.int (nI i)), w] [] (wX by9 tln tst ten mm fa9 fb9 rf im pe ki mi se we lea mst pa fi sd ev un ma ea co ca clt Y) := by
            intro v w hv
            subst hv
            have := ih (i + 1) (by omega)
            rw [← nI_1 i] at this
            exact hK 73 2 147 _ _ _ (hle _ _ _ _ _ (by repeat (first | exact trivial | refine ⟨rfl, ?_⟩)) this)
          refine hK 44 29 89 _ _ _ ?_
          refine ⟨fun w => absurd w (nI_nlt (a := 1023) (b := i) (by omega) (by omega)), fun _ => ?_⟩
          refine ⟨fun w => ?_, fun w => ?_⟩
          · have e1 : chP we x9 d t9 k i = false := by
              rw [chP, decide_eq_false (show ¬ nI i &&& opn d = 0 from w), Bool.false_and]
            exact next _ _ (by rw [cU, e1]; rfl)
          · refine ⟨_, _, rfl, _, _, _, _, _, _, _, _, _, _, _, _, _, _, _, _, _, _, _, rfl, rfl, ?_⟩
            rw [ht]
            refine ⟨fun v => ?_, fun v => ?_⟩
            · have e1 : chP we x9 d t9 k i = false := by
                rw [chP, decide_eq_false (show ¬ ¬ dst we ((x9 &&& opn d) ||| nI i) t9 < k from fun q => q v), Bool.and_false]
              exact next _ _ (by rw [cU, e1]; rfl)
            · have e1 : chP we x9 d t9 k i = true := by
                rw [chP, decide_eq_true (show nI i &&& opn d = 0 from w), decide_eq_true (show ¬ dst we ((x9 &&& opn d) ||| nI i) t9 < k from v)]; rfl
              exact next _ _ (by rw [cU, if_pos e1, ← nI_1])
      refine hK 19 25 40 _ _ _ ?_
      refine ⟨fun _ => ?_, fun w => absurd w (by decide)⟩
      refine ⟨_, _, rfl, _, _, rfl, ?_⟩
      have := loop 1024 0 rfl
      rw [← hX, ← hd] at this
      exact hle _ _ _ _ _ (by repeat (first | exact trivial | refine ⟨rfl, ?_⟩)) this
    · exact ⟨fun _ => hle _ _ _ _ _ (by repeat (first | exact trivial | refine ⟨rfl, ?_⟩)) (no (fun q => z2 q.2.1)), fun y => absurd y (by decide)⟩
  · exact ⟨fun _ => hle _ _ _ _ _ (by repeat (first | exact trivial | refine ⟨rfl, ?_⟩)) (no (fun q => z q.1)), fun y => absurd y (by decide)⟩
abbrev rm_X9_child : Room := { frames := 2, cells := 0, slots := 0, locals := 43 }
set_option maxRecDepth 100000 in
set_option maxHeartbeats 4000000 in
theorem ct_X9_child (l : Launch) (D : va_G) (dA : Nat → ClassId) (σ : Nat → Nat) : em_CT l D em_cl dA σ (em_F σ) y_X9_child c_X9_child 11 (Option.some ClassFile.FieldType.int) rm_X9_child (sp_X9_child ) := by
  refine em_CT_of (T := T_X9_child ) (em_F_ok σ) (by decide) (fun p e s m args below meth c A ρ Q C hFok hF hret hlk hin => ?_) (me_X9_child )
  unfold T_X9_child
  refine List.forall_mem_cons.mpr ⟨s_aload_n C (by decide +kernel : decode c_X9_child 0 = .ok (.aload_n 0, 1)) rfl rfl rfl, ?_⟩
  refine List.forall_mem_cons.mpr ⟨s_getf C (by decide +kernel : decode c_X9_child 1 = .ok (.getfield 41, 3)) rfl rfl em_cl_X9 (by decide) ew157 rfl, ?_⟩
  refine List.forall_mem_cons.mpr ⟨s_iload_n C (by decide +kernel : decode c_X9_child 4 = .ok (.iload_n 1, 1)) rfl rfl rfl, ?_⟩
  refine List.forall_mem_cons.mpr ⟨s_iload_n C (by decide +kernel : decode c_X9_child 5 = .ok (.iload_n 2, 1)) rfl rfl rfl, ?_⟩
  refine List.forall_mem_cons.mpr ⟨s_callPV C hFok hF (ct_X7_hasTwo l D dA σ) ⟨rfl, rfl⟩ ew254 em_cl_X7 ew382 ew252 ew253 ew5 ⟨by decide, by decide, by decide +kernel⟩ ⟨by decide, by decide⟩ (by decide +kernel : decode c_X9_child 6 = .ok (.invokevirtual 113, 3)) rfl rfl ⟨Nat.zero_le _, Nat.zero_le _⟩ (by decide), ?_⟩
  refine List.forall_mem_cons.mpr ⟨s_ifeq C (by decide +kernel : decode c_X9_child 9 = .ok (.ifCond .eq 30, 3)) (by decide) rfl rfl rfl, ?_⟩
  refine List.forall_mem_cons.mpr ⟨s_aload_n C (by decide +kernel : decode c_X9_child 12 = .ok (.aload_n 0, 1)) rfl rfl rfl, ?_⟩
  refine List.forall_mem_cons.mpr ⟨s_getf C (by decide +kernel : decode c_X9_child 13 = .ok (.getfield 41, 3)) rfl rfl em_cl_X9 (by decide) ew157 rfl, ?_⟩
  refine List.forall_mem_cons.mpr ⟨s_iload_n C (by decide +kernel : decode c_X9_child 16 = .ok (.iload_n 3, 1)) rfl rfl rfl, ?_⟩
  refine List.forall_mem_cons.mpr ⟨s_callPV C hFok hF (ct_X7_has l D dA σ) ⟨rfl, rfl⟩ ew208 em_cl_X7 ew205 ew206 ew207 ew5 ⟨by decide, by decide, by decide +kernel⟩ ⟨by decide, by decide⟩ (by decide +kernel : decode c_X9_child 17 = .ok (.invokevirtual 56, 3)) rfl rfl ⟨Nat.zero_le _, Nat.zero_le _⟩ (by decide), ?_⟩
  refine List.forall_mem_cons.mpr ⟨s_ifeq C (by decide +kernel : decode c_X9_child 20 = .ok (.ifCond .eq 19, 3)) (by decide) rfl rfl rfl, ?_⟩
  refine List.forall_mem_cons.mpr ⟨s_iload C (by decide +kernel : decode c_X9_child 23 = .ok (.iload 4, 2)) rfl rfl, ?_⟩
  refine List.forall_mem_cons.mpr ⟨s_iflt C (by decide +kernel : decode c_X9_child 25 = .ok (.ifCond .lt 14, 3)) (by decide) rfl rfl rfl, ?_⟩
  refine List.forall_mem_cons.mpr ⟨s_iload C (by decide +kernel : decode c_X9_child 28 = .ok (.iload 4, 2)) rfl rfl, ?_⟩
  refine List.forall_mem_cons.mpr ⟨s_bipush C (by decide +kernel : decode c_X9_child 30 = .ok (.bipush 20, 2)) rfl rfl (by decide), ?_⟩
  refine List.forall_mem_cons.mpr ⟨s_icmpgt C (by decide +kernel : decode c_X9_child 32 = .ok (.if_icmp .gt 7, 3)) (by decide) rfl rfl rfl, ?_⟩
  refine List.forall_mem_cons.mpr ⟨s_iconst C (by decide +kernel : decode c_X9_child 35 = .ok (.iconst 1, 1)) rfl rfl (by decide), ?_⟩
  refine List.forall_mem_cons.mpr ⟨s_goto C (by decide +kernel : decode c_X9_child 36 = .ok (.goto 4, 3)) (by decide) rfl, ?_⟩
  refine List.forall_mem_cons.mpr ⟨s_iconst C (by decide +kernel : decode c_X9_child 39 = .ok (.iconst 0, 1)) rfl rfl (by decide), ?_⟩
  refine List.forall_mem_cons.mpr ⟨s_istore C (by decide +kernel : decode c_X9_child 40 = .ok (.istore 5, 2)) rfl rfl (by decide), ?_⟩
  refine List.forall_mem_cons.mpr ⟨s_iload C (by decide +kernel : decode c_X9_child 42 = .ok (.iload 5, 2)) rfl rfl, ?_⟩
  refine List.forall_mem_cons.mpr ⟨s_ifne C (by decide +kernel : decode c_X9_child 44 = .ok (.ifCond .ne 10, 3)) (by decide) rfl rfl rfl, ?_⟩
  refine List.forall_mem_cons.mpr ⟨s_aload_n C (by decide +kernel : decode c_X9_child 47 = .ok (.aload_n 0, 1)) rfl rfl rfl, ?_⟩
  refine List.forall_mem_cons.mpr ⟨s_bipush C (by decide +kernel : decode c_X9_child 48 = .ok (.bipush (-2), 2)) rfl rfl (by decide), ?_⟩
  refine List.forall_mem_cons.mpr ⟨s_callV C hFok hF (ct_X9_refuse l D dA σ) ⟨rfl, rfl⟩ ew200 em_cl_X9 ew197 ew199 ewp1 ew1 ⟨by decide, by decide, by decide +kernel⟩ ⟨by decide, by decide⟩ (by decide +kernel : decode c_X9_child 50 = .ok (.invokevirtual 63, 3)) rfl rfl ⟨Nat.zero_le _, Nat.zero_le _⟩, ?_⟩
  refine List.forall_mem_cons.mpr ⟨s_iret C (by decide +kernel : decode c_X9_child 53 = .ok (.ireturn, 1)) hret hlk ⟨Nat.le_refl 0, Nat.le_refl 0⟩, ?_⟩
  refine List.forall_mem_cons.mpr ⟨s_aload_n C (by decide +kernel : decode c_X9_child 54 = .ok (.aload_n 0, 1)) rfl rfl rfl, ?_⟩
  refine List.forall_mem_cons.mpr ⟨s_getf C (by decide +kernel : decode c_X9_child 55 = .ok (.getfield 41, 3)) rfl rfl em_cl_X9 (by decide) ew157 rfl, ?_⟩
  refine List.forall_mem_cons.mpr ⟨s_getf C (by decide +kernel : decode c_X9_child 58 = .ok (.getfield 103, 3)) rfl rfl em_cl_X7 (by decide) ew94 rfl, ?_⟩
  refine List.forall_mem_cons.mpr ⟨s_iload_n C (by decide +kernel : decode c_X9_child 61 = .ok (.iload_n 1, 1)) rfl rfl rfl, ?_⟩
  refine List.forall_mem_cons.mpr ⟨s_callS C hFok hF (ct_X5_of l D dA σ) ⟨rfl, rfl⟩ ew216 ew377 ew215 ew8 ⟨by decide, by decide, by decide +kernel⟩ ⟨by decide, by decide⟩ (by decide +kernel : decode c_X9_child 62 = .ok (.invokestatic 107, 3)) rfl rfl ⟨Nat.zero_le _, Nat.zero_le _⟩, ?_⟩
  refine List.forall_mem_cons.mpr ⟨s_istore C (by decide +kernel : decode c_X9_child 65 = .ok (.istore 6, 2)) rfl rfl (by decide), ?_⟩
  refine List.forall_mem_cons.mpr ⟨s_iload C (by decide +kernel : decode c_X9_child 67 = .ok (.iload 6, 2)) rfl rfl, ?_⟩
  refine List.forall_mem_cons.mpr ⟨s_aload_n C (by decide +kernel : decode c_X9_child 69 = .ok (.aload_n 0, 1)) rfl rfl rfl, ?_⟩
  refine List.forall_mem_cons.mpr ⟨s_getf C (by decide +kernel : decode c_X9_child 70 = .ok (.getfield 41, 3)) rfl rfl em_cl_X9 (by decide) ew157 rfl, ?_⟩
  refine List.forall_mem_cons.mpr ⟨s_getf C (by decide +kernel : decode c_X9_child 73 = .ok (.getfield 103, 3)) rfl rfl em_cl_X7 (by decide) ew94 rfl, ?_⟩
  refine List.forall_mem_cons.mpr ⟨s_iload_n C (by decide +kernel : decode c_X9_child 76 = .ok (.iload_n 2, 1)) rfl rfl rfl, ?_⟩
  refine List.forall_mem_cons.mpr ⟨s_callS C hFok hF (ct_X5_of l D dA σ) ⟨rfl, rfl⟩ ew216 ew377 ew215 ew8 ⟨by decide, by decide, by decide +kernel⟩ ⟨by decide, by decide⟩ (by decide +kernel : decode c_X9_child 77 = .ok (.invokestatic 107, 3)) rfl rfl ⟨Nat.zero_le _, Nat.zero_le _⟩, ?_⟩
  refine List.forall_mem_cons.mpr ⟨s_ixor C (by decide +kernel : decode c_X9_child 80 = .ok (.ixor, 1)) rfl rfl, ?_⟩
  refine List.forall_mem_cons.mpr ⟨s_istore C (by decide +kernel : decode c_X9_child 81 = .ok (.istore 7, 2)) rfl rfl (by decide), ?_⟩
  refine List.forall_mem_cons.mpr ⟨s_iconst C (by decide +kernel : decode c_X9_child 83 = .ok (.iconst 0, 1)) rfl rfl (by decide), ?_⟩
  refine List.forall_mem_cons.mpr ⟨s_istore C (by decide +kernel : decode c_X9_child 84 = .ok (.istore 8, 2)) rfl rfl (by decide), ?_⟩
  refine List.forall_mem_cons.mpr ⟨s_iconst C (by decide +kernel : decode c_X9_child 86 = .ok (.iconst 0, 1)) rfl rfl (by decide), ?_⟩
  refine List.forall_mem_cons.mpr ⟨s_istore C (by decide +kernel : decode c_X9_child 87 = .ok (.istore 9, 2)) rfl rfl (by decide), ?_⟩
  refine List.forall_mem_cons.mpr ⟨s_iload C (by decide +kernel : decode c_X9_child 89 = .ok (.iload 9, 2)) rfl rfl, ?_⟩
  refine List.forall_mem_cons.mpr ⟨s_sipush C (by decide +kernel : decode c_X9_child 91 = .ok (.sipush 1023, 3)) rfl rfl (by decide), ?_⟩
  refine List.forall_mem_cons.mpr ⟨s_icmpgt C (by decide +kernel : decode c_X9_child 94 = .ok (.if_icmp .gt 59, 3)) (by decide) rfl rfl rfl, ?_⟩
  refine List.forall_mem_cons.mpr ⟨s_iload C (by decide +kernel : decode c_X9_child 97 = .ok (.iload 9, 2)) rfl rfl, ?_⟩
  refine List.forall_mem_cons.mpr ⟨s_iload C (by decide +kernel : decode c_X9_child 99 = .ok (.iload 7, 2)) rfl rfl, ?_⟩
  refine List.forall_mem_cons.mpr ⟨s_iconst C (by decide +kernel : decode c_X9_child 101 = .ok (.iconst (-1), 1)) rfl rfl (by decide), ?_⟩
  refine List.forall_mem_cons.mpr ⟨s_ixor C (by decide +kernel : decode c_X9_child 102 = .ok (.ixor, 1)) rfl rfl, ?_⟩
  refine List.forall_mem_cons.mpr ⟨s_iand C (by decide +kernel : decode c_X9_child 103 = .ok (.iand, 1)) rfl rfl, ?_⟩
  refine List.forall_mem_cons.mpr ⟨s_ifne C (by decide +kernel : decode c_X9_child 104 = .ok (.ifCond .ne 43, 3)) (by decide) rfl rfl rfl, ?_⟩
  refine List.forall_mem_cons.mpr ⟨s_iload C (by decide +kernel : decode c_X9_child 107 = .ok (.iload 6, 2)) rfl rfl, ?_⟩
  refine List.forall_mem_cons.mpr ⟨s_iload C (by decide +kernel : decode c_X9_child 109 = .ok (.iload 7, 2)) rfl rfl, ?_⟩
  refine List.forall_mem_cons.mpr ⟨s_iconst C (by decide +kernel : decode c_X9_child 111 = .ok (.iconst (-1), 1)) rfl rfl (by decide), ?_⟩
  refine List.forall_mem_cons.mpr ⟨s_ixor C (by decide +kernel : decode c_X9_child 112 = .ok (.ixor, 1)) rfl rfl, ?_⟩
  refine List.forall_mem_cons.mpr ⟨s_iand C (by decide +kernel : decode c_X9_child 113 = .ok (.iand, 1)) rfl rfl, ?_⟩
  refine List.forall_mem_cons.mpr ⟨s_iload C (by decide +kernel : decode c_X9_child 114 = .ok (.iload 9, 2)) rfl rfl, ?_⟩
  refine List.forall_mem_cons.mpr ⟨s_ior C (by decide +kernel : decode c_X9_child 116 = .ok (.ior, 1)) rfl rfl, ?_⟩
  refine List.forall_mem_cons.mpr ⟨s_istore C (by decide +kernel : decode c_X9_child 117 = .ok (.istore 10, 2)) rfl rfl (by decide), ?_⟩
  refine List.forall_mem_cons.mpr ⟨s_aload_n C (by decide +kernel : decode c_X9_child 119 = .ok (.aload_n 0, 1)) rfl rfl rfl, ?_⟩
  refine List.forall_mem_cons.mpr ⟨s_getf C (by decide +kernel : decode c_X9_child 120 = .ok (.getfield 41, 3)) rfl rfl em_cl_X9 (by decide) ew157 rfl, ?_⟩
  refine List.forall_mem_cons.mpr ⟨s_iload C (by decide +kernel : decode c_X9_child 123 = .ok (.iload 10, 2)) rfl rfl, ?_⟩
  refine List.forall_mem_cons.mpr ⟨s_aload_n C (by decide +kernel : decode c_X9_child 125 = .ok (.aload_n 0, 1)) rfl rfl rfl, ?_⟩
  refine List.forall_mem_cons.mpr ⟨s_getf C (by decide +kernel : decode c_X9_child 126 = .ok (.getfield 41, 3)) rfl rfl em_cl_X9 (by decide) ew157 rfl, ?_⟩
  refine List.forall_mem_cons.mpr ⟨s_getf C (by decide +kernel : decode c_X9_child 129 = .ok (.getfield 103, 3)) rfl rfl em_cl_X7 (by decide) ew94 rfl, ?_⟩
  refine List.forall_mem_cons.mpr ⟨s_iload_n C (by decide +kernel : decode c_X9_child 132 = .ok (.iload_n 3, 1)) rfl rfl rfl, ?_⟩
  refine List.forall_mem_cons.mpr ⟨s_callS C hFok hF (ct_X5_of l D dA σ) ⟨rfl, rfl⟩ ew216 ew377 ew215 ew8 ⟨by decide, by decide, by decide +kernel⟩ ⟨by decide, by decide⟩ (by decide +kernel : decode c_X9_child 133 = .ok (.invokestatic 107, 3)) rfl rfl ⟨Nat.zero_le _, Nat.zero_le _⟩, ?_⟩
  refine List.forall_mem_cons.mpr ⟨s_callPV C hFok hF (ct_X7_distance l D dA σ) ⟨rfl, rfl⟩ ew390 em_cl_X7 ew387 ew388 ew389 ew5 ⟨by decide, by decide, by decide +kernel⟩ ⟨by decide, by decide⟩ (by decide +kernel : decode c_X9_child 136 = .ok (.invokevirtual 117, 3)) rfl rfl ⟨Nat.zero_le _, Nat.zero_le _⟩ (by decide), ?_⟩
  refine List.forall_mem_cons.mpr ⟨s_iload C (by decide +kernel : decode c_X9_child 139 = .ok (.iload 4, 2)) rfl rfl, ?_⟩
  refine List.forall_mem_cons.mpr ⟨s_icmplt C (by decide +kernel : decode c_X9_child 141 = .ok (.if_icmp .lt 6, 3)) (by decide) rfl rfl rfl, ?_⟩
  refine List.forall_mem_cons.mpr ⟨s_iinc C (by decide +kernel : decode c_X9_child 144 = .ok (.iinc 8 1, 3)) rfl rfl (by decide) (by decide), ?_⟩
  refine List.forall_mem_cons.mpr ⟨s_iinc C (by decide +kernel : decode c_X9_child 147 = .ok (.iinc 9 1, 3)) rfl rfl (by decide) (by decide), ?_⟩
  refine List.forall_mem_cons.mpr ⟨s_goto C (by decide +kernel : decode c_X9_child 150 = .ok (.goto (-61), 3)) (by decide) rfl, ?_⟩
  refine List.forall_mem_cons.mpr ⟨s_aload_n C (by decide +kernel : decode c_X9_child 153 = .ok (.aload_n 0, 1)) rfl rfl rfl, ?_⟩
  refine List.forall_mem_cons.mpr ⟨s_getf C (by decide +kernel : decode c_X9_child 154 = .ok (.getfield 26, 3)) rfl rfl em_cl_X9 (by decide) ew154 rfl, ?_⟩
  refine List.forall_mem_cons.mpr ⟨s_iload C (by decide +kernel : decode c_X9_child 157 = .ok (.iload 8, 2)) rfl rfl, ?_⟩
  refine List.forall_mem_cons.mpr ⟨s_iload C (by decide +kernel : decode c_X9_child 159 = .ok (.iload 7, 2)) rfl rfl, ?_⟩
  refine List.forall_mem_cons.mpr ⟨s_callS C hFok hF (ct_J6_bitCount_0f7a4 l D dA σ) ⟨rfl, rfl⟩ ew393 ew414 ew392 ew13 ⟨by decide, by decide, by decide +kernel⟩ ⟨by decide, by decide⟩ (by decide +kernel : decode c_X9_child 161 = .ok (.invokestatic 127, 3)) rfl rfl ⟨Nat.zero_le _, Nat.zero_le _⟩, ?_⟩
  refine List.forall_mem_cons.mpr ⟨s_callPV C hFok hF (ct_X2_becomeHalves l D dA σ) ⟨rfl, rfl⟩ ew631 em_cl_X2 ew628 ew629 ew630 ew4 ⟨by decide, by decide, by decide +kernel⟩ ⟨by decide, by decide⟩ (by decide +kernel : decode c_X9_child 164 = .ok (.invokevirtual 234, 3)) rfl rfl ⟨Nat.zero_le _, Nat.zero_le _⟩ (by decide), ?_⟩
  refine List.forall_mem_cons.mpr ⟨s_iconst C (by decide +kernel : decode c_X9_child 167 = .ok (.iconst 1, 1)) rfl rfl (by decide), ?_⟩
  refine List.forall_mem_cons.mpr ⟨s_iret C (by decide +kernel : decode c_X9_child 168 = .ok (.ireturn, 1)) hret hlk ⟨Nat.le_refl 0, Nat.le_refl 0⟩, ?_⟩
  exact fun _ h => absurd h List.not_mem_nil
def nxt (x : Int64) : Int64 := (x * 1103515245 + 12345) - (x * 1103515245 + 12345) / 2147483648 * 2147483648
def lot (x : Int64) : Int64 := x / 65536 - x / 65536 / 2 * 2
def brn (f s : Int32) (x0 : Int64) : Nat → Int32 × Int64
  | 0 => (f, x0)
  | i + 1 => if (f ^^^ s) &&& nI (2 ^ i) = 0 then brn f s x0 i else (if lg_cmp (lot (nxt (brn f s x0 i).2)) 1 = 0 then ((brn f s x0 i).1 &&& opn (nI (2 ^ i))) ||| (s &&& nI (2 ^ i)) else (brn f s x0 i).1, nxt (brn f s x0 i).2)
theorem shl2 : ∀ i, i < 10 → nI (2 ^ i) <<< ((1 : Int32) &&& 31) = nI (2 ^ (i + 1)) := by decide
def sdk (k : Int32) : Prop := ¬ k < 0 ∧ k ≤ 999999
def sp_X9_born : em_Sp := fun av hp Q => ∃ by9 tln tst ten mm fa9 fb9 rf im pe ki mi se we lea mst pa fi sd ev un ma ea co ca clt Y a b k, av = [.ref 0, .int a, .int b, .int k] ∧ hp = (wX by9 tln tst ten mm fa9 fb9 rf im pe ki mi se we lea mst pa fi sd ev un ma ea co ca clt Y) ∧ (¬ (h2 pe a b ∧ sdk k) → Q (some (.int (-2))) (wX by9 tln tst ten mm fa9 fb9 (rfu rf (-2)) im pe ki mi se we lea mst pa fi sd ev un ma ea co ca clt Y)) ∧ (h2 pe a b → sdk k → Q (some (.int (brn (mo mi a) (mo mi b) k.toInt64 10).1)) hp)
def T_X9_born : List (Nat × em_Op) := [(0, o_aload 0 1), (1, o_getf 4 5 4), (4, o_iload 1 5), (5, o_iload 2 6), (6, o_callP 3 (some 2) [8, 9, 10, 11, 12, 13, 14, 15] (sp_X7_hasTwo) 9), (9, o_ifeq 22 12), (12, o_iload 3 13), (13, o_iflt 22 16), (16, o_iload 3 17), (17, o_iconst 999999 19), (19, o_icmple 29 22), (22, o_aload 0 23), (23, o_iconst (-2) 25), (25, o_call 2 (some 4) (sp_X9_refuse) 28), (28, o_iret), (29, o_aload 0 30), (30, o_getf 4 5 33), (33, o_getf 2 2 36), (36, o_iload 1 37), (37, o_call 2 none (sp_X5_of) 40), (40, o_istore 4 42), (42, o_aload 0 43), (43, o_getf 4 5 46), (46, o_getf 2 2 49), (49, o_iload 2 50), (50, o_call 2 none (sp_X5_of) 53), (53, o_istore 5 55), (55, o_iload 4 57), (57, o_istore 6 59), (59, o_iload 3 60), (60, o_i2l 61), (61, o_lstore 7 63), (63, o_iconst 1 64), (64, o_istore 9 66), (66, o_iload 9 68), (68, o_iconst 1023 71), (71, o_icmpgt 140 74), (74, o_iload 4 76), (76, o_iload 5 78), (78, o_ixor 79), (79, o_iload 9 81), (81, o_iand 82), (82, o_ifeq 131 85), (85, o_lload 7 87), (87, o_lconst 1103515245 90), (90, o_lmul 91), (91, o_lconst 12345 94), (94, o_ladd 95), (95, o_lconst 2147483648 98), (98, o_lrem 99), (99, o_lstore 7 101), (101, o_lload 7 103), (103, o_lconst 65536 106), (106, o_ldiv 107), (107, o_lconst 2 110), (110, o_lrem 111), (111, o_lconst 1 112), (112, o_lcmp 113), (113, o_ifne 131 116), (116, o_iload 6 118), (118, o_iload 9 120), (120, o_iconst (-1) 121), (121, o_ixor 122), (122, o_iand 123), (123, o_iload 5 125), (125, o_iload 9 127), (127, o_iand 128), (128, o_ior 129), (129, o_istore 6 131), (131, o_iload 9 133), (133, o_iconst 1 134), (134, o_ishl 135), (135, o_istore 9 137), (137, o_goto 66), (140, o_iload 6 142), (142, o_iret)]
theorem me_X9_born : em_Me T_X9_born 10 sp_X9_born := by
  intro Q K hK hle av hp hs
  obtain ⟨by9, tln, tst, ten, mm, fa9, fb9, rf, im, pe, ki, mi, se, we, lea, mst, pa, fi, sd, ev, un, ma, ea, co, ca, clt, Y, a, b, k, rfl, rfl, hb, hq⟩ := hs
  refine ⟨Nat.le_of_ble_eq_true rfl, ?_⟩
  refine hK 0 34 0 _ _ _ ?_
  refine ⟨_, _, _, _, _, _, _, _, _, _, _, _, _, _, _, _, _, a, b, rfl, rfl, fun z => ?_, fun z => ?_⟩
  · refine ⟨fun y => absurd y (by decide), fun _ => ?_⟩
    refine ⟨fun y => ⟨_, _, _, _, _, _, _, _, _, _, _, _, _, _, _, _, _, _, _, _, _, _, _, _, _, _, _, _, rfl, rfl, hb (fun q => q.2.1 y)⟩, fun y => ⟨fun x => ?_, fun x => ⟨_, _, _, _, _, _, _, _, _, _, _, _, _, _, _, _, _, _, _, _, _, _, _, _, _, _, _, _, rfl, rfl, hb (fun q => x q.2.2)⟩⟩⟩
    have hq := hq z ⟨y, x⟩
    refine ⟨_, _, rfl, _, _, rfl, ?_⟩
    generalize mo mi a = f at hq ⊢
    generalize mo mi b = s at hq ⊢
    have loop : ∀ (r i : Nat), i + r = 10 → K 66 [some (.ref 0), some (.int a), some (.int b), some (.int k), some (.int f), some (.int s), some (.int (brn f s k.toInt64 i).1), some (.long (brn f s k.toInt64 i).2), none, some (.int (nI (2 ^ i)))] [] (wX by9 tln tst ten mm fa9 fb9 rf im pe ki mi se we lea mst pa fi sd ev un ma ea co ca clt Y) := by
      intro r
      induction r with
      | zero =>
        intro i hi
        have hi : i = 10 := by omega
        subst hi
        refine hK 34 9999 66 _ _ _ ?_
        exact ⟨fun _ => hq, fun w => absurd (nI_lt (a := 1023) (b := 2 ^ 10) (by omega) (by omega)) w⟩
      | succ r ih =>
        intro i hi
        have hp2 : 2 ^ i ≤ 512 := Nat.pow_le_pow_right (n := 2) (by omega) (show i ≤ 9 by omega)
        have next : ∀ v w, v = (brn f s k.toInt64 (i + 1)).1 → w = (brn f s k.toInt64 (i + 1)).2 → K 131 [some (.ref 0), some (.int a), some (.int b), some (.int k), some (.int f), some (.int s), some (.int v), some (.long w), none, some (.int (nI (2 ^ i)))] [] (wX by9 tln tst ten mm fa9 fb9 rf im pe ki mi se we lea mst pa fi sd ev un ma ea co ca clt Y) := by
          intro v w hv hw
          subst hv
          subst hw
          have := ih (i + 1) (by omega)
          rw [← shl2 i (by omega)] at this
          exact hK 69 5 131 _ _ _ this
        refine hK 34 35 66 _ _ _ ?_
        refine ⟨fun w => absurd w (nI_nlt (a := 1023) (b := 2 ^ i) (by omega) (by omega)), fun _ => ?_⟩
        refine ⟨fun w => ?_, fun w => ?_⟩
        · exact next _ _ (by rw [brn, if_pos w]) (by rw [brn, if_pos w])
        · refine ⟨by decide, by decide, by decide, fun v => ?_, fun v => ?_⟩
          · refine next _ _ ?_ (by rw [brn, if_neg w]; rfl)
            rw [brn, if_neg w, if_neg (show ¬ lg_cmp (lot (nxt (brn f s k.toInt64 i).2)) 1 = 0 from v)]
          · refine next _ _ ?_ (by rw [brn, if_neg w]; rfl)
            rw [brn, if_neg w, if_pos (show lg_cmp (lot (nxt (brn f s k.toInt64 i).2)) 1 = 0 from v)]
            rfl
    exact hle _ _ _ _ _ (by repeat (first | exact trivial | refine ⟨rfl, ?_⟩)) (loop 10 0 rfl)
  · refine ⟨fun _ => ?_, fun y => absurd y (by decide)⟩
    exact ⟨_, _, _, _, _, _, _, _, _, _, _, _, _, _, _, _, _, _, _, _, _, _, _, _, _, _, _, _, rfl, rfl, hb (fun q => z q.1)⟩
abbrev rm_X9_born : Room := { frames := 2, cells := 0, slots := 0, locals := 43 }
set_option maxRecDepth 100000 in
set_option maxHeartbeats 4000000 in
theorem ct_X9_born (l : Launch) (D : va_G) (dA : Nat → ClassId) (σ : Nat → Nat) : em_CT l D em_cl dA σ (em_F σ) y_X9_born c_X9_born 10 (Option.some ClassFile.FieldType.int) rm_X9_born (sp_X9_born ) := by
  refine em_CT_of (T := T_X9_born ) (em_F_ok σ) (by decide) (fun p e s m args below meth c A ρ Q C hFok hF hret hlk hin => ?_) (me_X9_born )
  unfold T_X9_born
  refine List.forall_mem_cons.mpr ⟨s_aload_n C (by decide +kernel : decode c_X9_born 0 = .ok (.aload_n 0, 1)) rfl rfl rfl, ?_⟩
  refine List.forall_mem_cons.mpr ⟨s_getf C (by decide +kernel : decode c_X9_born 1 = .ok (.getfield 41, 3)) rfl rfl em_cl_X9 (by decide) ew157 rfl, ?_⟩
  refine List.forall_mem_cons.mpr ⟨s_iload_n C (by decide +kernel : decode c_X9_born 4 = .ok (.iload_n 1, 1)) rfl rfl rfl, ?_⟩
  refine List.forall_mem_cons.mpr ⟨s_iload_n C (by decide +kernel : decode c_X9_born 5 = .ok (.iload_n 2, 1)) rfl rfl rfl, ?_⟩
  refine List.forall_mem_cons.mpr ⟨s_callPV C hFok hF (ct_X7_hasTwo l D dA σ) ⟨rfl, rfl⟩ ew254 em_cl_X7 ew382 ew252 ew253 ew5 ⟨by decide, by decide, by decide +kernel⟩ ⟨by decide, by decide⟩ (by decide +kernel : decode c_X9_born 6 = .ok (.invokevirtual 113, 3)) rfl rfl ⟨Nat.zero_le _, Nat.zero_le _⟩ (by decide), ?_⟩
  refine List.forall_mem_cons.mpr ⟨s_ifeq C (by decide +kernel : decode c_X9_born 9 = .ok (.ifCond .eq 13, 3)) (by decide) rfl rfl rfl, ?_⟩
  refine List.forall_mem_cons.mpr ⟨s_iload_n C (by decide +kernel : decode c_X9_born 12 = .ok (.iload_n 3, 1)) rfl rfl rfl, ?_⟩
  refine List.forall_mem_cons.mpr ⟨s_iflt C (by decide +kernel : decode c_X9_born 13 = .ok (.ifCond .lt 9, 3)) (by decide) rfl rfl rfl, ?_⟩
  refine List.forall_mem_cons.mpr ⟨s_iload_n C (by decide +kernel : decode c_X9_born 16 = .ok (.iload_n 3, 1)) rfl rfl rfl, ?_⟩
  refine List.forall_mem_cons.mpr ⟨s_ldc C (by decide +kernel : decode c_X9_born 17 = .ok (.ldc 238, 2)) rfl rfl ew636, ?_⟩
  refine List.forall_mem_cons.mpr ⟨s_icmple C (by decide +kernel : decode c_X9_born 19 = .ok (.if_icmp .le 10, 3)) (by decide) rfl rfl rfl, ?_⟩
  refine List.forall_mem_cons.mpr ⟨s_aload_n C (by decide +kernel : decode c_X9_born 22 = .ok (.aload_n 0, 1)) rfl rfl rfl, ?_⟩
  refine List.forall_mem_cons.mpr ⟨s_bipush C (by decide +kernel : decode c_X9_born 23 = .ok (.bipush (-2), 2)) rfl rfl (by decide), ?_⟩
  refine List.forall_mem_cons.mpr ⟨s_callV C hFok hF (ct_X9_refuse l D dA σ) ⟨rfl, rfl⟩ ew200 em_cl_X9 ew197 ew199 ewp1 ew1 ⟨by decide, by decide, by decide +kernel⟩ ⟨by decide, by decide⟩ (by decide +kernel : decode c_X9_born 25 = .ok (.invokevirtual 63, 3)) rfl rfl ⟨Nat.zero_le _, Nat.zero_le _⟩, ?_⟩
  refine List.forall_mem_cons.mpr ⟨s_iret C (by decide +kernel : decode c_X9_born 28 = .ok (.ireturn, 1)) hret hlk ⟨Nat.le_refl 0, Nat.le_refl 0⟩, ?_⟩
  refine List.forall_mem_cons.mpr ⟨s_aload_n C (by decide +kernel : decode c_X9_born 29 = .ok (.aload_n 0, 1)) rfl rfl rfl, ?_⟩
  refine List.forall_mem_cons.mpr ⟨s_getf C (by decide +kernel : decode c_X9_born 30 = .ok (.getfield 41, 3)) rfl rfl em_cl_X9 (by decide) ew157 rfl, ?_⟩
  refine List.forall_mem_cons.mpr ⟨s_getf C (by decide +kernel : decode c_X9_born 33 = .ok (.getfield 103, 3)) rfl rfl em_cl_X7 (by decide) ew94 rfl, ?_⟩
  refine List.forall_mem_cons.mpr ⟨s_iload_n C (by decide +kernel : decode c_X9_born 36 = .ok (.iload_n 1, 1)) rfl rfl rfl, ?_⟩
  refine List.forall_mem_cons.mpr ⟨s_callS C hFok hF (ct_X5_of l D dA σ) ⟨rfl, rfl⟩ ew216 ew377 ew215 ew8 ⟨by decide, by decide, by decide +kernel⟩ ⟨by decide, by decide⟩ (by decide +kernel : decode c_X9_born 37 = .ok (.invokestatic 107, 3)) rfl rfl ⟨Nat.zero_le _, Nat.zero_le _⟩, ?_⟩
  refine List.forall_mem_cons.mpr ⟨s_istore C (by decide +kernel : decode c_X9_born 40 = .ok (.istore 4, 2)) rfl rfl (by decide), ?_⟩
  refine List.forall_mem_cons.mpr ⟨s_aload_n C (by decide +kernel : decode c_X9_born 42 = .ok (.aload_n 0, 1)) rfl rfl rfl, ?_⟩
  refine List.forall_mem_cons.mpr ⟨s_getf C (by decide +kernel : decode c_X9_born 43 = .ok (.getfield 41, 3)) rfl rfl em_cl_X9 (by decide) ew157 rfl, ?_⟩
  refine List.forall_mem_cons.mpr ⟨s_getf C (by decide +kernel : decode c_X9_born 46 = .ok (.getfield 103, 3)) rfl rfl em_cl_X7 (by decide) ew94 rfl, ?_⟩
  refine List.forall_mem_cons.mpr ⟨s_iload_n C (by decide +kernel : decode c_X9_born 49 = .ok (.iload_n 2, 1)) rfl rfl rfl, ?_⟩
  refine List.forall_mem_cons.mpr ⟨s_callS C hFok hF (ct_X5_of l D dA σ) ⟨rfl, rfl⟩ ew216 ew377 ew215 ew8 ⟨by decide, by decide, by decide +kernel⟩ ⟨by decide, by decide⟩ (by decide +kernel : decode c_X9_born 50 = .ok (.invokestatic 107, 3)) rfl rfl ⟨Nat.zero_le _, Nat.zero_le _⟩, ?_⟩
  refine List.forall_mem_cons.mpr ⟨s_istore C (by decide +kernel : decode c_X9_born 53 = .ok (.istore 5, 2)) rfl rfl (by decide), ?_⟩
  refine List.forall_mem_cons.mpr ⟨s_iload C (by decide +kernel : decode c_X9_born 55 = .ok (.iload 4, 2)) rfl rfl, ?_⟩
  refine List.forall_mem_cons.mpr ⟨s_istore C (by decide +kernel : decode c_X9_born 57 = .ok (.istore 6, 2)) rfl rfl (by decide), ?_⟩
  refine List.forall_mem_cons.mpr ⟨s_iload_n C (by decide +kernel : decode c_X9_born 59 = .ok (.iload_n 3, 1)) rfl rfl rfl, ?_⟩
  refine List.forall_mem_cons.mpr ⟨s_i2l C (by decide +kernel : decode c_X9_born 60 = .ok (.i2l, 1)) rfl rfl, ?_⟩
  refine List.forall_mem_cons.mpr ⟨s_lstore C (by decide +kernel : decode c_X9_born 61 = .ok (.lstore 7, 2)) rfl rfl (by decide), ?_⟩
  refine List.forall_mem_cons.mpr ⟨s_iconst C (by decide +kernel : decode c_X9_born 63 = .ok (.iconst 1, 1)) rfl rfl (by decide), ?_⟩
  refine List.forall_mem_cons.mpr ⟨s_istore C (by decide +kernel : decode c_X9_born 64 = .ok (.istore 9, 2)) rfl rfl (by decide), ?_⟩
  refine List.forall_mem_cons.mpr ⟨s_iload C (by decide +kernel : decode c_X9_born 66 = .ok (.iload 9, 2)) rfl rfl, ?_⟩
  refine List.forall_mem_cons.mpr ⟨s_sipush C (by decide +kernel : decode c_X9_born 68 = .ok (.sipush 1023, 3)) rfl rfl (by decide), ?_⟩
  refine List.forall_mem_cons.mpr ⟨s_icmpgt C (by decide +kernel : decode c_X9_born 71 = .ok (.if_icmp .gt 69, 3)) (by decide) rfl rfl rfl, ?_⟩
  refine List.forall_mem_cons.mpr ⟨s_iload C (by decide +kernel : decode c_X9_born 74 = .ok (.iload 4, 2)) rfl rfl, ?_⟩
  refine List.forall_mem_cons.mpr ⟨s_iload C (by decide +kernel : decode c_X9_born 76 = .ok (.iload 5, 2)) rfl rfl, ?_⟩
  refine List.forall_mem_cons.mpr ⟨s_ixor C (by decide +kernel : decode c_X9_born 78 = .ok (.ixor, 1)) rfl rfl, ?_⟩
  refine List.forall_mem_cons.mpr ⟨s_iload C (by decide +kernel : decode c_X9_born 79 = .ok (.iload 9, 2)) rfl rfl, ?_⟩
  refine List.forall_mem_cons.mpr ⟨s_iand C (by decide +kernel : decode c_X9_born 81 = .ok (.iand, 1)) rfl rfl, ?_⟩
  refine List.forall_mem_cons.mpr ⟨s_ifeq C (by decide +kernel : decode c_X9_born 82 = .ok (.ifCond .eq 49, 3)) (by decide) rfl rfl rfl, ?_⟩
  refine List.forall_mem_cons.mpr ⟨s_lload C (by decide +kernel : decode c_X9_born 85 = .ok (.lload 7, 2)) rfl rfl, ?_⟩
  refine List.forall_mem_cons.mpr ⟨s_ldc2 C (by decide +kernel : decode c_X9_born 87 = .ok (.ldc2_w 239, 3)) rfl rfl ew637, ?_⟩
  refine List.forall_mem_cons.mpr ⟨s_lmul C (by decide +kernel : decode c_X9_born 90 = .ok (.lmul, 1)) rfl rfl, ?_⟩
  refine List.forall_mem_cons.mpr ⟨s_ldc2 C (by decide +kernel : decode c_X9_born 91 = .ok (.ldc2_w 241, 3)) rfl rfl ew638, ?_⟩
  refine List.forall_mem_cons.mpr ⟨s_ladd C (by decide +kernel : decode c_X9_born 94 = .ok (.ladd, 1)) rfl rfl, ?_⟩
  refine List.forall_mem_cons.mpr ⟨s_ldc2 C (by decide +kernel : decode c_X9_born 95 = .ok (.ldc2_w 243, 3)) rfl rfl ew639, ?_⟩
  refine List.forall_mem_cons.mpr ⟨s_lrem C (by decide +kernel : decode c_X9_born 98 = .ok (.lrem, 1)) rfl rfl, ?_⟩
  refine List.forall_mem_cons.mpr ⟨s_lstore C (by decide +kernel : decode c_X9_born 99 = .ok (.lstore 7, 2)) rfl rfl (by decide), ?_⟩
  refine List.forall_mem_cons.mpr ⟨s_lload C (by decide +kernel : decode c_X9_born 101 = .ok (.lload 7, 2)) rfl rfl, ?_⟩
  refine List.forall_mem_cons.mpr ⟨s_ldc2 C (by decide +kernel : decode c_X9_born 103 = .ok (.ldc2_w 245, 3)) rfl rfl ew640, ?_⟩
  refine List.forall_mem_cons.mpr ⟨s_ldiv C (by decide +kernel : decode c_X9_born 106 = .ok (.ldiv, 1)) rfl rfl, ?_⟩
  refine List.forall_mem_cons.mpr ⟨s_ldc2 C (by decide +kernel : decode c_X9_born 107 = .ok (.ldc2_w 247, 3)) rfl rfl ew641, ?_⟩
  refine List.forall_mem_cons.mpr ⟨s_lrem C (by decide +kernel : decode c_X9_born 110 = .ok (.lrem, 1)) rfl rfl, ?_⟩
  refine List.forall_mem_cons.mpr ⟨s_lconst C (by decide +kernel : decode c_X9_born 111 = .ok (.lconst 1, 1)) rfl rfl (by decide), ?_⟩
  refine List.forall_mem_cons.mpr ⟨s_lcmp C (by decide +kernel : decode c_X9_born 112 = .ok (.lcmp, 1)) rfl rfl, ?_⟩
  refine List.forall_mem_cons.mpr ⟨s_ifne C (by decide +kernel : decode c_X9_born 113 = .ok (.ifCond .ne 18, 3)) (by decide) rfl rfl rfl, ?_⟩
  refine List.forall_mem_cons.mpr ⟨s_iload C (by decide +kernel : decode c_X9_born 116 = .ok (.iload 6, 2)) rfl rfl, ?_⟩
  refine List.forall_mem_cons.mpr ⟨s_iload C (by decide +kernel : decode c_X9_born 118 = .ok (.iload 9, 2)) rfl rfl, ?_⟩
  refine List.forall_mem_cons.mpr ⟨s_iconst C (by decide +kernel : decode c_X9_born 120 = .ok (.iconst (-1), 1)) rfl rfl (by decide), ?_⟩
  refine List.forall_mem_cons.mpr ⟨s_ixor C (by decide +kernel : decode c_X9_born 121 = .ok (.ixor, 1)) rfl rfl, ?_⟩
  refine List.forall_mem_cons.mpr ⟨s_iand C (by decide +kernel : decode c_X9_born 122 = .ok (.iand, 1)) rfl rfl, ?_⟩
  refine List.forall_mem_cons.mpr ⟨s_iload C (by decide +kernel : decode c_X9_born 123 = .ok (.iload 5, 2)) rfl rfl, ?_⟩
  refine List.forall_mem_cons.mpr ⟨s_iload C (by decide +kernel : decode c_X9_born 125 = .ok (.iload 9, 2)) rfl rfl, ?_⟩
  refine List.forall_mem_cons.mpr ⟨s_iand C (by decide +kernel : decode c_X9_born 127 = .ok (.iand, 1)) rfl rfl, ?_⟩
  refine List.forall_mem_cons.mpr ⟨s_ior C (by decide +kernel : decode c_X9_born 128 = .ok (.ior, 1)) rfl rfl, ?_⟩
  refine List.forall_mem_cons.mpr ⟨s_istore C (by decide +kernel : decode c_X9_born 129 = .ok (.istore 6, 2)) rfl rfl (by decide), ?_⟩
  refine List.forall_mem_cons.mpr ⟨s_iload C (by decide +kernel : decode c_X9_born 131 = .ok (.iload 9, 2)) rfl rfl, ?_⟩
  refine List.forall_mem_cons.mpr ⟨s_iconst C (by decide +kernel : decode c_X9_born 133 = .ok (.iconst 1, 1)) rfl rfl (by decide), ?_⟩
  refine List.forall_mem_cons.mpr ⟨s_ishl C (by decide +kernel : decode c_X9_born 134 = .ok (.ishl, 1)) rfl rfl, ?_⟩
  refine List.forall_mem_cons.mpr ⟨s_istore C (by decide +kernel : decode c_X9_born 135 = .ok (.istore 9, 2)) rfl rfl (by decide), ?_⟩
  refine List.forall_mem_cons.mpr ⟨s_goto C (by decide +kernel : decode c_X9_born 137 = .ok (.goto (-71), 3)) (by decide) rfl, ?_⟩
  refine List.forall_mem_cons.mpr ⟨s_iload C (by decide +kernel : decode c_X9_born 140 = .ok (.iload 6, 2)) rfl rfl, ?_⟩
  refine List.forall_mem_cons.mpr ⟨s_iret C (by decide +kernel : decode c_X9_born 142 = .ok (.ireturn, 1)) hret hlk ⟨Nat.le_refl 0, Nat.le_refl 0⟩, ?_⟩
  exact fun _ h => absurd h List.not_mem_nil
def sp_X9_part : em_Sp := fun av hp Q => ∃ by9 tln tst ten mm fa9 fb9 rf im pe ki mi se we lea mst pa fi sd ev un ma ea co ca clt Y k, av = [.ref 0, .int k] ∧ hp = (wX by9 tln tst ten mm fa9 fb9 rf im pe ki mi se we lea mst pa fi sd ev un ma ea co ca clt Y) ∧ (¬ k = 0 → ¬ k = 1 → Q (some (.long (Int32.toInt64 (-2)))) (wX by9 tln tst ten mm fa9 fb9 (rfu rf (-2)) im pe ki mi se we lea mst pa fi sd ev un ma ea co ca clt Y)) ∧ (k = 0 → Q (some (.long fa9.toInt64)) hp) ∧ (k = 1 → Q (some (.long fb9.toInt64)) hp)
def T_X9_part : List (Nat × em_Op) := [(0, o_iload 1 1), (1, o_ifeq 17 4), (4, o_iload 1 5), (5, o_iconst 1 6), (6, o_icmpeq 17 9), (9, o_aload 0 10), (10, o_iconst (-2) 12), (12, o_call 2 (some 4) (sp_X9_refuse) 15), (15, o_i2l 16), (16, o_lret), (17, o_iload 1 18), (18, o_ifne 32 21), (21, o_aload 0 22), (22, o_getf 4 2 25), (25, o_getf 1 0 28), (28, o_i2l 29), (29, o_goto 40), (32, o_aload 0 33), (33, o_getf 4 2 36), (36, o_getf 1 1 39), (39, o_i2l 40), (40, o_lret)]
theorem me_X9_part : em_Me T_X9_part 2 sp_X9_part := by
  intro Q K hK hle av hp hs
  obtain ⟨by9, tln, tst, ten, mm, fa9, fb9, rf, im, pe, ki, mi, se, we, lea, mst, pa, fi, sd, ev, un, ma, ea, co, ca, clt, Y, k, rfl, rfl, hb, hq0, hq1⟩ := hs
  refine ⟨Nat.le_of_ble_eq_true rfl, hK 0 9999 0 _ _ _ ?_⟩
  refine ⟨fun z => ⟨fun y => absurd z y, fun _ => hq0 z⟩, fun z => ⟨fun y => ⟨fun _ => hq1 y, fun x => absurd x z⟩, fun y => ⟨_, _, _, _, _, _, _, _, _, _, _, _, _, _, _, _, _, _, _, _, _, _, _, _, _, _, _, _, rfl, rfl, hb z y⟩⟩⟩
abbrev rm_X9_part : Room := { frames := 1, cells := 0, slots := 0, locals := 21 }
set_option maxRecDepth 100000 in
set_option maxHeartbeats 4000000 in
theorem ct_X9_part (l : Launch) (D : va_G) (dA : Nat → ClassId) (σ : Nat → Nat) : em_CT l D em_cl dA σ (em_F σ) y_X9_part c_X9_part 2 (Option.some ClassFile.FieldType.long) rm_X9_part (sp_X9_part ) := by
  refine em_CT_of (T := T_X9_part ) (em_F_ok σ) (by decide) (fun p e s m args below meth c A ρ Q C hFok hF hret hlk hin => ?_) (me_X9_part )
  unfold T_X9_part
  refine List.forall_mem_cons.mpr ⟨s_iload_n C (by decide +kernel : decode c_X9_part 0 = .ok (.iload_n 1, 1)) rfl rfl rfl, ?_⟩
  refine List.forall_mem_cons.mpr ⟨s_ifeq C (by decide +kernel : decode c_X9_part 1 = .ok (.ifCond .eq 16, 3)) (by decide) rfl rfl rfl, ?_⟩
  refine List.forall_mem_cons.mpr ⟨s_iload_n C (by decide +kernel : decode c_X9_part 4 = .ok (.iload_n 1, 1)) rfl rfl rfl, ?_⟩
  refine List.forall_mem_cons.mpr ⟨s_iconst C (by decide +kernel : decode c_X9_part 5 = .ok (.iconst 1, 1)) rfl rfl (by decide), ?_⟩
  refine List.forall_mem_cons.mpr ⟨s_icmpeq C (by decide +kernel : decode c_X9_part 6 = .ok (.if_icmp .eq 11, 3)) (by decide) rfl rfl rfl, ?_⟩
  refine List.forall_mem_cons.mpr ⟨s_aload_n C (by decide +kernel : decode c_X9_part 9 = .ok (.aload_n 0, 1)) rfl rfl rfl, ?_⟩
  refine List.forall_mem_cons.mpr ⟨s_bipush C (by decide +kernel : decode c_X9_part 10 = .ok (.bipush (-2), 2)) rfl rfl (by decide), ?_⟩
  refine List.forall_mem_cons.mpr ⟨s_callV C hFok hF (ct_X9_refuse l D dA σ) ⟨rfl, rfl⟩ ew200 em_cl_X9 ew197 ew199 ewp1 ew1 ⟨by decide, by decide, by decide +kernel⟩ ⟨by decide, by decide⟩ (by decide +kernel : decode c_X9_part 12 = .ok (.invokevirtual 63, 3)) rfl rfl ⟨Nat.zero_le _, Nat.zero_le _⟩, ?_⟩
  refine List.forall_mem_cons.mpr ⟨s_i2l C (by decide +kernel : decode c_X9_part 15 = .ok (.i2l, 1)) rfl rfl, ?_⟩
  refine List.forall_mem_cons.mpr ⟨s_lret C (by decide +kernel : decode c_X9_part 16 = .ok (.lreturn, 1)) hret hlk ⟨Nat.le_refl 0, Nat.le_refl 0⟩, ?_⟩
  refine List.forall_mem_cons.mpr ⟨s_iload_n C (by decide +kernel : decode c_X9_part 17 = .ok (.iload_n 1, 1)) rfl rfl rfl, ?_⟩
  refine List.forall_mem_cons.mpr ⟨s_ifne C (by decide +kernel : decode c_X9_part 18 = .ok (.ifCond .ne 14, 3)) (by decide) rfl rfl rfl, ?_⟩
  refine List.forall_mem_cons.mpr ⟨s_aload_n C (by decide +kernel : decode c_X9_part 21 = .ok (.aload_n 0, 1)) rfl rfl rfl, ?_⟩
  refine List.forall_mem_cons.mpr ⟨s_getf C (by decide +kernel : decode c_X9_part 22 = .ok (.getfield 26, 3)) rfl rfl em_cl_X9 (by decide) ew154 rfl, ?_⟩
  refine List.forall_mem_cons.mpr ⟨s_getf C (by decide +kernel : decode c_X9_part 25 = .ok (.getfield 249, 3)) rfl rfl em_cl_X2 (by decide) ew66 rfl, ?_⟩
  refine List.forall_mem_cons.mpr ⟨s_i2l C (by decide +kernel : decode c_X9_part 28 = .ok (.i2l, 1)) rfl rfl, ?_⟩
  refine List.forall_mem_cons.mpr ⟨s_goto C (by decide +kernel : decode c_X9_part 29 = .ok (.goto 11, 3)) (by decide) rfl, ?_⟩
  refine List.forall_mem_cons.mpr ⟨s_aload_n C (by decide +kernel : decode c_X9_part 32 = .ok (.aload_n 0, 1)) rfl rfl rfl, ?_⟩
  refine List.forall_mem_cons.mpr ⟨s_getf C (by decide +kernel : decode c_X9_part 33 = .ok (.getfield 26, 3)) rfl rfl em_cl_X9 (by decide) ew154 rfl, ?_⟩
  refine List.forall_mem_cons.mpr ⟨s_getf C (by decide +kernel : decode c_X9_part 36 = .ok (.getfield 252, 3)) rfl rfl em_cl_X2 (by decide) ew68 rfl, ?_⟩
  refine List.forall_mem_cons.mpr ⟨s_i2l C (by decide +kernel : decode c_X9_part 39 = .ok (.i2l, 1)) rfl rfl, ?_⟩
  refine List.forall_mem_cons.mpr ⟨s_lret C (by decide +kernel : decode c_X9_part 40 = .ok (.lreturn, 1)) hret hlk ⟨Nat.le_refl 0, Nat.le_refl 0⟩, ?_⟩
  exact fun _ h => absurd h List.not_mem_nil
def sp_X9_status : em_Sp := fun av hp Q => ∃ by9 tln tst ten mm fa9 fb9 rf im pe ki mi se we lea mst pa fi sd ev un ma ea co ca clt Y k, av = [.ref 0, .int k] ∧ hp = (wX by9 tln tst ten mm fa9 fb9 rf im pe ki mi se we lea mst pa fi sd ev un ma ea co ca clt Y) ∧ (¬ (¬ k < 0 ∧ k < 3) → Q (some (.int (-1))) (wX by9 tln tst ten mm fa9 fb9 (rfu rf (-2)) im pe ki mi se we lea mst pa fi sd ev un ma ea co ca clt Y)) ∧ (∀ j, k = nI j → j < 3 → Q (some (.int (rf j))) hp)
def T_X9_status : List (Nat × em_Op) := [(0, o_iload 1 1), (1, o_iflt 9 4), (4, o_iload 1 5), (5, o_iconst 3 6), (6, o_icmplt 18 9), (9, o_aload 0 10), (10, o_iconst (-2) 12), (12, o_call 2 (some 4) (sp_X9_refuse) 15), (15, o_pop 16), (16, o_iconst (-1) 17), (17, o_iret), (18, o_aload 0 19), (19, o_getf 4 3 22), (22, o_iload 1 23), (23, o_aldI 0 24), (24, o_iret)]
theorem me_X9_status : em_Me T_X9_status 2 sp_X9_status := by
  intro Q K hK hle av hp hs
  obtain ⟨by9, tln, tst, ten, mm, fa9, fb9, rf, im, pe, ki, mi, se, we, lea, mst, pa, fi, sd, ev, un, ma, ea, co, ca, clt, Y, k, rfl, rfl, hb, hq⟩ := hs
  refine ⟨Nat.le_of_ble_eq_true rfl, hK 0 9999 0 _ _ _ ?_⟩
  refine ⟨fun z => ⟨_, _, _, _, _, _, _, _, _, _, _, _, _, _, _, _, _, _, _, _, _, _, _, _, _, _, _, _, rfl, rfl, hb (fun q => q.1 z)⟩, fun z => ⟨fun y => ?_, fun y => ⟨_, _, _, _, _, _, _, _, _, _, _, _, _, _, _, _, _, _, _, _, _, _, _, _, _, _, _, _, rfl, rfl, hb (fun q => y q.2)⟩⟩⟩
  obtain ⟨j, hj, rfl⟩ := nI_of z
  have h3 : j < 3 := (nI_ltI (b := 3) hj (by omega)).mp y
  exact ⟨j, rfl, h3, hq j rfl h3⟩
abbrev rm_X9_status : Room := { frames := 1, cells := 0, slots := 0, locals := 21 }
set_option maxRecDepth 100000 in
set_option maxHeartbeats 4000000 in
theorem ct_X9_status (l : Launch) (D : va_G) (dA : Nat → ClassId) (σ : Nat → Nat) : em_CT l D em_cl dA σ (em_F σ) y_X9_status c_X9_status 2 (Option.some ClassFile.FieldType.int) rm_X9_status (sp_X9_status ) := by
  refine em_CT_of (T := T_X9_status ) (em_F_ok σ) (by decide) (fun p e s m args below meth c A ρ Q C hFok hF hret hlk hin => ?_) (me_X9_status )
  unfold T_X9_status
  refine List.forall_mem_cons.mpr ⟨s_iload_n C (by decide +kernel : decode c_X9_status 0 = .ok (.iload_n 1, 1)) rfl rfl rfl, ?_⟩
  refine List.forall_mem_cons.mpr ⟨s_iflt C (by decide +kernel : decode c_X9_status 1 = .ok (.ifCond .lt 8, 3)) (by decide) rfl rfl rfl, ?_⟩
  refine List.forall_mem_cons.mpr ⟨s_iload_n C (by decide +kernel : decode c_X9_status 4 = .ok (.iload_n 1, 1)) rfl rfl rfl, ?_⟩
  refine List.forall_mem_cons.mpr ⟨s_iconst C (by decide +kernel : decode c_X9_status 5 = .ok (.iconst 3, 1)) rfl rfl (by decide), ?_⟩
  refine List.forall_mem_cons.mpr ⟨s_icmplt C (by decide +kernel : decode c_X9_status 6 = .ok (.if_icmp .lt 12, 3)) (by decide) rfl rfl rfl, ?_⟩
  refine List.forall_mem_cons.mpr ⟨s_aload_n C (by decide +kernel : decode c_X9_status 9 = .ok (.aload_n 0, 1)) rfl rfl rfl, ?_⟩
  refine List.forall_mem_cons.mpr ⟨s_bipush C (by decide +kernel : decode c_X9_status 10 = .ok (.bipush (-2), 2)) rfl rfl (by decide), ?_⟩
  refine List.forall_mem_cons.mpr ⟨s_callV C hFok hF (ct_X9_refuse l D dA σ) ⟨rfl, rfl⟩ ew200 em_cl_X9 ew197 ew199 ewp1 ew1 ⟨by decide, by decide, by decide +kernel⟩ ⟨by decide, by decide⟩ (by decide +kernel : decode c_X9_status 12 = .ok (.invokevirtual 63, 3)) rfl rfl ⟨Nat.zero_le _, Nat.zero_le _⟩, ?_⟩
  refine List.forall_mem_cons.mpr ⟨s_pop C (by decide +kernel : decode c_X9_status 15 = .ok (.pop, 1)) rfl rfl, ?_⟩
  refine List.forall_mem_cons.mpr ⟨s_iconst C (by decide +kernel : decode c_X9_status 16 = .ok (.iconst (-1), 1)) rfl rfl (by decide), ?_⟩
  refine List.forall_mem_cons.mpr ⟨s_iret C (by decide +kernel : decode c_X9_status 17 = .ok (.ireturn, 1)) hret hlk ⟨Nat.le_refl 0, Nat.le_refl 0⟩, ?_⟩
  refine List.forall_mem_cons.mpr ⟨s_aload_n C (by decide +kernel : decode c_X9_status 18 = .ok (.aload_n 0, 1)) rfl rfl rfl, ?_⟩
  refine List.forall_mem_cons.mpr ⟨s_getf C (by decide +kernel : decode c_X9_status 19 = .ok (.getfield 30, 3)) rfl rfl em_cl_X9 (by decide) ew155 rfl, ?_⟩
  refine List.forall_mem_cons.mpr ⟨s_iload_n C (by decide +kernel : decode c_X9_status 22 = .ok (.iload_n 1, 1)) rfl rfl rfl, ?_⟩
  refine List.forall_mem_cons.mpr ⟨s_iald C (by decide +kernel : decode c_X9_status 23 = .ok (.iaload, 1)) rfl rfl, ?_⟩
  refine List.forall_mem_cons.mpr ⟨s_iret C (by decide +kernel : decode c_X9_status 24 = .ok (.ireturn, 1)) hret hlk ⟨Nat.le_refl 0, Nat.le_refl 0⟩, ?_⟩
  exact fun _ h => absurd h List.not_mem_nil
def sp_X9_count : em_Sp := fun av hp Q => ∃ by9 tln tst ten mm fa9 fb9 rf im pe ki mi se we lea mst pa fi sd ev un ma ea co ca clt Y k, av = [.ref 0, .int k] ∧ hp = (wX by9 tln tst ten mm fa9 fb9 rf im pe ki mi se we lea mst pa fi sd ev un ma ea co ca clt Y) ∧ (¬ (¬ k < 0 ∧ k ≤ 5) → Q (some (.int (-2))) (wX by9 tln tst ten mm fa9 fb9 (rfu rf (-2)) im pe ki mi se we lea mst pa fi sd ev un ma ea co ca clt Y)) ∧ (¬ k < 0 → k ≤ 5 → Q (some (.int (hmy pe pa ev un co tln k))) hp)
def T_X9_count : List (Nat × em_Op) := [(0, o_iload 1 1), (1, o_iflt 9 4), (4, o_iload 1 5), (5, o_iconst 5 6), (6, o_icmple 16 9), (9, o_aload 0 10), (10, o_iconst (-2) 12), (12, o_call 2 (some 4) (sp_X9_refuse) 15), (15, o_iret), (16, o_aload 0 17), (17, o_iload 1 18), (18, o_call 2 (some 4) (sp_X9_howMany) 21), (21, o_iret)]
theorem me_X9_count : em_Me T_X9_count 2 sp_X9_count := by
  intro Q K hK hle av hp hs
  obtain ⟨by9, tln, tst, ten, mm, fa9, fb9, rf, im, pe, ki, mi, se, we, lea, mst, pa, fi, sd, ev, un, ma, ea, co, ca, clt, Y, k, rfl, rfl, hb, hq⟩ := hs
  refine ⟨Nat.le_of_ble_eq_true rfl, hK 0 9999 0 _ _ _ ?_⟩
  refine ⟨fun z => ⟨_, _, _, _, _, _, _, _, _, _, _, _, _, _, _, _, _, _, _, _, _, _, _, _, _, _, _, _, rfl, rfl, hb (fun q => q.1 z)⟩, fun z => ⟨fun y => ?_, fun y => ⟨_, _, _, _, _, _, _, _, _, _, _, _, _, _, _, _, _, _, _, _, _, _, _, _, _, _, _, _, rfl, rfl, hb (fun q => y q.2)⟩⟩⟩
  exact ⟨_, _, _, _, _, _, _, _, _, _, _, _, _, _, _, _, _, _, _, _, _, _, _, _, _, _, _, _, rfl, rfl, hq z y⟩
abbrev rm_X9_count : Room := { frames := 1, cells := 0, slots := 0, locals := 21 }
set_option maxRecDepth 100000 in
set_option maxHeartbeats 4000000 in
theorem ct_X9_count (l : Launch) (D : va_G) (dA : Nat → ClassId) (σ : Nat → Nat) : em_CT l D em_cl dA σ (em_F σ) y_X9_count c_X9_count 2 (Option.some ClassFile.FieldType.int) rm_X9_count (sp_X9_count ) := by
  refine em_CT_of (T := T_X9_count ) (em_F_ok σ) (by decide) (fun p e s m args below meth c A ρ Q C hFok hF hret hlk hin => ?_) (me_X9_count )
  unfold T_X9_count
  refine List.forall_mem_cons.mpr ⟨s_iload_n C (by decide +kernel : decode c_X9_count 0 = .ok (.iload_n 1, 1)) rfl rfl rfl, ?_⟩
  refine List.forall_mem_cons.mpr ⟨s_iflt C (by decide +kernel : decode c_X9_count 1 = .ok (.ifCond .lt 8, 3)) (by decide) rfl rfl rfl, ?_⟩
  refine List.forall_mem_cons.mpr ⟨s_iload_n C (by decide +kernel : decode c_X9_count 4 = .ok (.iload_n 1, 1)) rfl rfl rfl, ?_⟩
  refine List.forall_mem_cons.mpr ⟨s_iconst C (by decide +kernel : decode c_X9_count 5 = .ok (.iconst 5, 1)) rfl rfl (by decide), ?_⟩
  refine List.forall_mem_cons.mpr ⟨s_icmple C (by decide +kernel : decode c_X9_count 6 = .ok (.if_icmp .le 10, 3)) (by decide) rfl rfl rfl, ?_⟩
  refine List.forall_mem_cons.mpr ⟨s_aload_n C (by decide +kernel : decode c_X9_count 9 = .ok (.aload_n 0, 1)) rfl rfl rfl, ?_⟩
  refine List.forall_mem_cons.mpr ⟨s_bipush C (by decide +kernel : decode c_X9_count 10 = .ok (.bipush (-2), 2)) rfl rfl (by decide), ?_⟩
  refine List.forall_mem_cons.mpr ⟨s_callV C hFok hF (ct_X9_refuse l D dA σ) ⟨rfl, rfl⟩ ew200 em_cl_X9 ew197 ew199 ewp1 ew1 ⟨by decide, by decide, by decide +kernel⟩ ⟨by decide, by decide⟩ (by decide +kernel : decode c_X9_count 12 = .ok (.invokevirtual 63, 3)) rfl rfl ⟨Nat.zero_le _, Nat.zero_le _⟩, ?_⟩
  refine List.forall_mem_cons.mpr ⟨s_iret C (by decide +kernel : decode c_X9_count 15 = .ok (.ireturn, 1)) hret hlk ⟨Nat.le_refl 0, Nat.le_refl 0⟩, ?_⟩
  refine List.forall_mem_cons.mpr ⟨s_aload_n C (by decide +kernel : decode c_X9_count 16 = .ok (.aload_n 0, 1)) rfl rfl rfl, ?_⟩
  refine List.forall_mem_cons.mpr ⟨s_iload_n C (by decide +kernel : decode c_X9_count 17 = .ok (.iload_n 1, 1)) rfl rfl rfl, ?_⟩
  refine List.forall_mem_cons.mpr ⟨s_callV C hFok hF (ct_X9_howMany l D dA σ) ⟨rfl, rfl⟩ ew669 em_cl_X9 ew666 ew668 ewp11 ew1 ⟨by decide, by decide, by decide +kernel⟩ ⟨by decide, by decide⟩ (by decide +kernel : decode c_X9_count 18 = .ok (.invokevirtual 258, 3)) rfl rfl ⟨Nat.zero_le _, Nat.zero_le _⟩, ?_⟩
  refine List.forall_mem_cons.mpr ⟨s_iret C (by decide +kernel : decode c_X9_count 21 = .ok (.ireturn, 1)) hret hlk ⟨Nat.le_refl 0, Nat.le_refl 0⟩, ?_⟩
  exact fun _ h => absurd h List.not_mem_nil
def dgN (pe pa ev un co tln : Int32) : Nat → Int64
  | 0 => 839
  | i + 1 => hx (dgN pe pa ev un co tln i) (hmy pe pa ev un co tln (nI i))
def sp_X9_digest : em_Sp := fun av hp Q => ∃ by9 tln tst ten mm fa9 fb9 rf im pe ki mi se we lea mst pa fi sd ev un ma ea co ca clt Y n np nc, av = [.ref 0] ∧ hp = (wX by9 tln tst ten mm fa9 fb9 rf im pe ki mi se we lea mst pa fi sd ev un ma ea co ca clt Y) ∧ pe = nI n ∧ n ≤ 6 ∧ pa = nI np ∧ np ≤ 8 ∧ co = nI nc ∧ nc ≤ 10 ∧ Q (some (.long (hx (hx (adC ca (fun j => bz (clt j)) (adC fi sd (adP ki mi se (hx (hx (hx (dgN pe pa ev un co tln 6) we) lea) mst) n) np) nc) fa9) fb9))) hp
def T_X9_digest : List (Nat × em_Op) := [(0, o_lconst 839 3), (3, o_lstore 1 4), (4, o_iconst 0 5), (5, o_istore 3 6), (6, o_iload 3 7), (7, o_iconst 5 8), (8, o_icmpgt 30 11), (11, o_lconst 31 14), (14, o_lload 1 15), (15, o_lmul 16), (16, o_aload 0 17), (17, o_iload 3 18), (18, o_call 2 (some 4) (sp_X9_howMany) 21), (21, o_i2l 22), (22, o_ladd 23), (23, o_lstore 1 24), (24, o_iinc 3 1 27), (27, o_goto 6), (30, o_aload 0 31), (31, o_getf 4 5 34), (34, o_lload 1 35), (35, o_callP 2 (some 2) [8, 9, 10, 11, 12, 13, 14, 15] (sp_X7_addTo) 38), (38, o_lstore 1 39), (39, o_lconst 31 42), (42, o_lload 1 43), (43, o_lmul 44), (44, o_aload 0 45), (45, o_getf 4 2 48), (48, o_getf 1 0 51), (51, o_i2l 52), (52, o_ladd 53), (53, o_lstore 1 54), (54, o_lconst 31 57), (57, o_lload 1 58), (58, o_lmul 59), (59, o_aload 0 60), (60, o_getf 4 2 63), (63, o_getf 1 1 66), (66, o_i2l 67), (67, o_ladd 68), (68, o_lret)]
theorem me_X9_digest : em_Me T_X9_digest 4 sp_X9_digest := by
  intro Q K hK hle av hp hs
  obtain ⟨by9, tln, tst, ten, mm, fa9, fb9, rf, im, pe, ki, mi, se, we, lea, mst, pa, fi, sd, ev, un, ma, ea, co, ca, clt, Y, n, np, nc, rfl, rfl, rfl, hn, rfl, hnp, rfl, hnc, hq⟩ := hs
  refine ⟨Nat.le_of_ble_eq_true rfl, ?_⟩
  have loop : ∀ (r i : Nat), i + r = 6 → K 6 [some (.ref 0), some (.long (dgN (nI n) (nI np) ev un (nI nc) tln i)), none, some (.int (nI i))] [] (wX by9 tln tst ten mm fa9 fb9 rf im (nI n) ki mi se we lea mst (nI np) fi sd ev un ma ea (nI nc) ca clt Y) := by
    intro r
    induction r with
    | zero =>
      intro i hi
      have hi : i = 6 := by omega
      subst hi
      refine hK 4 9999 6 _ _ _ ?_
      refine ⟨fun _ => ?_, fun w => absurd (nI_lt (a := 5) (b := 6) (by omega) (by omega)) w⟩
      exact ⟨_, _, _, _, _, _, _, _, _, _, _, _, _, _, _, _, _, _, n, np, nc, rfl, rfl, rfl, hn, rfl, hnp, rfl, hnc, hq⟩
    | succ r ih =>
      intro i hi
      refine hK 4 9999 6 _ _ _ ?_
      refine ⟨fun w => absurd w (nI_nlt (a := 5) (b := i) (by omega) (by omega)), fun _ => ?_⟩
      have := ih (i + 1) (by omega)
      rw [← nI_1 i] at this
      exact ⟨_, _, _, _, _, _, _, _, _, _, _, _, _, _, _, _, _, _, _, _, _, _, _, _, _, _, _, _, rfl, rfl, this⟩
  exact hK 0 4 0 _ _ _ (loop 6 0 rfl)
abbrev rm_X9_digest : Room := { frames := 2, cells := 0, slots := 0, locals := 47 }
set_option maxRecDepth 100000 in
set_option maxHeartbeats 4000000 in
theorem ct_X9_digest (l : Launch) (D : va_G) (dA : Nat → ClassId) (σ : Nat → Nat) : em_CT l D em_cl dA σ (em_F σ) y_X9_digest c_X9_digest 4 (Option.some ClassFile.FieldType.long) rm_X9_digest (sp_X9_digest ) := by
  refine em_CT_of (T := T_X9_digest ) (em_F_ok σ) (by decide) (fun p e s m args below meth c A ρ Q C hFok hF hret hlk hin => ?_) (me_X9_digest )
  unfold T_X9_digest
  refine List.forall_mem_cons.mpr ⟨s_ldc2 C (by decide +kernel : decode c_X9_digest 0 = .ok (.ldc2_w 261, 3)) rfl rfl ew674, ?_⟩
  refine List.forall_mem_cons.mpr ⟨s_lstore_n C (by decide +kernel : decode c_X9_digest 3 = .ok (.lstore_n 1, 1)) rfl rfl rfl (by decide), ?_⟩
  refine List.forall_mem_cons.mpr ⟨s_iconst C (by decide +kernel : decode c_X9_digest 4 = .ok (.iconst 0, 1)) rfl rfl (by decide), ?_⟩
  refine List.forall_mem_cons.mpr ⟨s_istore_n C (by decide +kernel : decode c_X9_digest 5 = .ok (.istore_n 3, 1)) rfl rfl rfl (by decide), ?_⟩
  refine List.forall_mem_cons.mpr ⟨s_iload_n C (by decide +kernel : decode c_X9_digest 6 = .ok (.iload_n 3, 1)) rfl rfl rfl, ?_⟩
  refine List.forall_mem_cons.mpr ⟨s_iconst C (by decide +kernel : decode c_X9_digest 7 = .ok (.iconst 5, 1)) rfl rfl (by decide), ?_⟩
  refine List.forall_mem_cons.mpr ⟨s_icmpgt C (by decide +kernel : decode c_X9_digest 8 = .ok (.if_icmp .gt 22, 3)) (by decide) rfl rfl rfl, ?_⟩
  refine List.forall_mem_cons.mpr ⟨s_ldc2 C (by decide +kernel : decode c_X9_digest 11 = .ok (.ldc2_w 263, 3)) rfl rfl ew675, ?_⟩
  refine List.forall_mem_cons.mpr ⟨s_lload_n C (by decide +kernel : decode c_X9_digest 14 = .ok (.lload_n 1, 1)) rfl rfl rfl, ?_⟩
  refine List.forall_mem_cons.mpr ⟨s_lmul C (by decide +kernel : decode c_X9_digest 15 = .ok (.lmul, 1)) rfl rfl, ?_⟩
  refine List.forall_mem_cons.mpr ⟨s_aload_n C (by decide +kernel : decode c_X9_digest 16 = .ok (.aload_n 0, 1)) rfl rfl rfl, ?_⟩
  refine List.forall_mem_cons.mpr ⟨s_iload_n C (by decide +kernel : decode c_X9_digest 17 = .ok (.iload_n 3, 1)) rfl rfl rfl, ?_⟩
  refine List.forall_mem_cons.mpr ⟨s_callV C hFok hF (ct_X9_howMany l D dA σ) ⟨rfl, rfl⟩ ew669 em_cl_X9 ew666 ew668 ewp11 ew1 ⟨by decide, by decide, by decide +kernel⟩ ⟨by decide, by decide⟩ (by decide +kernel : decode c_X9_digest 18 = .ok (.invokevirtual 258, 3)) rfl rfl ⟨Nat.zero_le _, Nat.zero_le _⟩, ?_⟩
  refine List.forall_mem_cons.mpr ⟨s_i2l C (by decide +kernel : decode c_X9_digest 21 = .ok (.i2l, 1)) rfl rfl, ?_⟩
  refine List.forall_mem_cons.mpr ⟨s_ladd C (by decide +kernel : decode c_X9_digest 22 = .ok (.ladd, 1)) rfl rfl, ?_⟩
  refine List.forall_mem_cons.mpr ⟨s_lstore_n C (by decide +kernel : decode c_X9_digest 23 = .ok (.lstore_n 1, 1)) rfl rfl rfl (by decide), ?_⟩
  refine List.forall_mem_cons.mpr ⟨s_iinc C (by decide +kernel : decode c_X9_digest 24 = .ok (.iinc 3 1, 3)) rfl rfl (by decide) (by decide), ?_⟩
  refine List.forall_mem_cons.mpr ⟨s_goto C (by decide +kernel : decode c_X9_digest 27 = .ok (.goto (-21), 3)) (by decide) rfl, ?_⟩
  refine List.forall_mem_cons.mpr ⟨s_aload_n C (by decide +kernel : decode c_X9_digest 30 = .ok (.aload_n 0, 1)) rfl rfl rfl, ?_⟩
  refine List.forall_mem_cons.mpr ⟨s_getf C (by decide +kernel : decode c_X9_digest 31 = .ok (.getfield 41, 3)) rfl rfl em_cl_X9 (by decide) ew157 rfl, ?_⟩
  refine List.forall_mem_cons.mpr ⟨s_lload_n C (by decide +kernel : decode c_X9_digest 34 = .ok (.lload_n 1, 1)) rfl rfl rfl, ?_⟩
  refine List.forall_mem_cons.mpr ⟨s_callPV C hFok hF (ct_X7_addTo l D dA σ) ⟨rfl, rfl⟩ ew679 em_cl_X7 ew676 ew677 ew678 ew5 ⟨by decide, by decide, by decide +kernel⟩ ⟨by decide, by decide⟩ (by decide +kernel : decode c_X9_digest 35 = .ok (.invokevirtual 265, 3)) rfl rfl ⟨Nat.zero_le _, Nat.zero_le _⟩ (by decide), ?_⟩
  refine List.forall_mem_cons.mpr ⟨s_lstore_n C (by decide +kernel : decode c_X9_digest 38 = .ok (.lstore_n 1, 1)) rfl rfl rfl (by decide), ?_⟩
  refine List.forall_mem_cons.mpr ⟨s_ldc2 C (by decide +kernel : decode c_X9_digest 39 = .ok (.ldc2_w 263, 3)) rfl rfl ew675, ?_⟩
  refine List.forall_mem_cons.mpr ⟨s_lload_n C (by decide +kernel : decode c_X9_digest 42 = .ok (.lload_n 1, 1)) rfl rfl rfl, ?_⟩
  refine List.forall_mem_cons.mpr ⟨s_lmul C (by decide +kernel : decode c_X9_digest 43 = .ok (.lmul, 1)) rfl rfl, ?_⟩
  refine List.forall_mem_cons.mpr ⟨s_aload_n C (by decide +kernel : decode c_X9_digest 44 = .ok (.aload_n 0, 1)) rfl rfl rfl, ?_⟩
  refine List.forall_mem_cons.mpr ⟨s_getf C (by decide +kernel : decode c_X9_digest 45 = .ok (.getfield 26, 3)) rfl rfl em_cl_X9 (by decide) ew154 rfl, ?_⟩
  refine List.forall_mem_cons.mpr ⟨s_getf C (by decide +kernel : decode c_X9_digest 48 = .ok (.getfield 249, 3)) rfl rfl em_cl_X2 (by decide) ew66 rfl, ?_⟩
  refine List.forall_mem_cons.mpr ⟨s_i2l C (by decide +kernel : decode c_X9_digest 51 = .ok (.i2l, 1)) rfl rfl, ?_⟩
  refine List.forall_mem_cons.mpr ⟨s_ladd C (by decide +kernel : decode c_X9_digest 52 = .ok (.ladd, 1)) rfl rfl, ?_⟩
  refine List.forall_mem_cons.mpr ⟨s_lstore_n C (by decide +kernel : decode c_X9_digest 53 = .ok (.lstore_n 1, 1)) rfl rfl rfl (by decide), ?_⟩
  refine List.forall_mem_cons.mpr ⟨s_ldc2 C (by decide +kernel : decode c_X9_digest 54 = .ok (.ldc2_w 263, 3)) rfl rfl ew675, ?_⟩
  refine List.forall_mem_cons.mpr ⟨s_lload_n C (by decide +kernel : decode c_X9_digest 57 = .ok (.lload_n 1, 1)) rfl rfl rfl, ?_⟩
  refine List.forall_mem_cons.mpr ⟨s_lmul C (by decide +kernel : decode c_X9_digest 58 = .ok (.lmul, 1)) rfl rfl, ?_⟩
  refine List.forall_mem_cons.mpr ⟨s_aload_n C (by decide +kernel : decode c_X9_digest 59 = .ok (.aload_n 0, 1)) rfl rfl rfl, ?_⟩
  refine List.forall_mem_cons.mpr ⟨s_getf C (by decide +kernel : decode c_X9_digest 60 = .ok (.getfield 26, 3)) rfl rfl em_cl_X9 (by decide) ew154 rfl, ?_⟩
  refine List.forall_mem_cons.mpr ⟨s_getf C (by decide +kernel : decode c_X9_digest 63 = .ok (.getfield 252, 3)) rfl rfl em_cl_X2 (by decide) ew68 rfl, ?_⟩
  refine List.forall_mem_cons.mpr ⟨s_i2l C (by decide +kernel : decode c_X9_digest 66 = .ok (.i2l, 1)) rfl rfl, ?_⟩
  refine List.forall_mem_cons.mpr ⟨s_ladd C (by decide +kernel : decode c_X9_digest 67 = .ok (.ladd, 1)) rfl rfl, ?_⟩
  refine List.forall_mem_cons.mpr ⟨s_lret C (by decide +kernel : decode c_X9_digest 68 = .ok (.lreturn, 1)) hret hlk ⟨Nat.le_refl 0, Nat.le_refl 0⟩, ?_⟩
  exact fun _ h => absurd h List.not_mem_nil
