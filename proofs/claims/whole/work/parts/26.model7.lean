/-! ===== again ===== -/
def pkL (S : Nat → Nat) : Nat → Int64
  | 0 => 0
  | p + 1 => 1024 * pkL S p + (nI (S p)).toInt64
def asI (P : Nat → Nat → Bool) (t L : Nat) : Nat → Nat → Option Nat
  | 0, _ => none
  | f + 1, s => if s < t then (if P s t = true then some s else asI P t L f (s + L)) else none
def agM (P : Nat → Nat → Bool) (L : Nat) : Nat → Option (Nat × Nat)
  | 0 => none
  | r + 1 => match asI P (200 - r) L 201 ((200 - r) % L) with
    | some s => some (200 - r, s)
    | none => agM P L r
def agP (B : Nat → Nat) (s t : Nat) : Bool := decide (pkL (trN B s) (B 0) = pkL (trN B t) (B 0))
def sp_X10_again : em_Sp := fun av hp Q => ∃ B im kp asd rf qt ab be tx ty at9 st9 tk vl wd it mn S sb my we be9 rw fr k, av = [.ref 0, .int k] ∧ hp = (wM (nB B) im kp asd rf qt ab be tx ty at9 st9 tk vl wd it mn (nB S) sb my we be9 rw fr) ∧ GK B ∧ Z6 S ∧ (¬ k = 0 → ¬ k = 1 → Q (some (.int (-10))) (wM (nB B) im kp asd (rfM qt rf 0) qt ab be tx ty at9 st9 tk vl wd it mn (nB S) sb my we be9 rw fr)) ∧ (∀ S' sb', Z6 S' → k = 0 → Q (some (.int (oI ((agM (agP B) (if B 1 = 0 then 1 else B 1) 200).map (fun q => q.1))))) (wM (nB B) im kp asd rf qt ab be tx ty at9 st9 tk vl wd it mn (nB S') (sb') my we be9 rw fr)) ∧ (∀ S' sb', Z6 S' → k = 1 → Q (some (.int (oI ((agM (agP B) (if B 1 = 0 then 1 else B 1) 200).map (fun q => q.2))))) (wM (nB B) im kp asd rf qt ab be tx ty at9 st9 tk vl wd it mn (nB S') (sb') my we be9 rw fr))
def T_X10_again : List (Nat × em_Op) := [(0, o_iload 1 1), (1, o_i2l 2), (2, o_lconst 0 3), (3, o_lconst 1 4), (4, o_call 3 none (sp_X10_in) 7), (7, o_ifne 18 10), (10, o_aload 0 11), (11, o_iconst 0 12), (12, o_iconst (-10) 14), (14, o_call 3 (some 5) (sp_X10_refuses) 17), (17, o_iret), (18, o_aload 0 19), (19, o_call 1 (some 5) (sp_X10_asNow) 22), (22, o_iconst 0 23), (23, o_istore 2 24), (24, o_iload 2 25), (25, o_iconst 200 28), (28, o_icmpgt 98 31), (31, o_aload 0 32), (32, o_getf 5 18 35), (35, o_iload 2 36), (36, o_lconst 0 37), (37, o_last 38), (38, o_iconst 0 39), (39, o_istore 3 40), (40, o_iload 3 41), (41, o_aload 0 42), (42, o_getf 5 0 45), (45, o_iconst 0 46), (46, o_aldI 0 47), (47, o_icmpge 80 50), (50, o_aload 0 51), (51, o_getf 5 18 54), (54, o_iload 2 55), (55, o_lconst 1024 58), (58, o_aload 0 59), (59, o_getf 5 18 62), (62, o_iload 2 63), (63, o_aldL 1 64), (64, o_lmul 65), (65, o_aload 0 66), (66, o_getf 5 17 69), (69, o_iload 3 70), (70, o_aldI 0 71), (71, o_i2l 72), (72, o_ladd 73), (73, o_last 74), (74, o_iinc 3 1 77), (77, o_goto 40), (80, o_aload 0 81), (81, o_aload 0 82), (82, o_getf 5 0 85), (85, o_iconst 2 86), (86, o_aldI 0 87), (87, o_iload 2 88), (88, o_iadd 89), (89, o_call 2 (some 5) (sp_X10_goes) 92), (92, o_iinc 2 1 95), (95, o_goto 24), (98, o_aload 0 99), (99, o_getf 5 0 102), (102, o_iconst 1 103), (103, o_aldI 0 104), (104, o_ifne 111 107), (107, o_iconst 1 108), (108, o_goto 117), (111, o_aload 0 112), (112, o_getf 5 0 115), (115, o_iconst 1 116), (116, o_aldI 0 117), (117, o_istore 2 118), (118, o_iconst 1 119), (119, o_istore 3 120), (120, o_iload 3 121), (121, o_iconst 200 124), (124, o_icmpgt 181 127), (127, o_iload 3 128), (128, o_iload 2 129), (129, o_irem 130), (130, o_istore 4 132), (132, o_iload 4 134), (134, o_iload 3 135), (135, o_icmpge 175 138), (138, o_aload 0 139), (139, o_getf 5 18 142), (142, o_iload 4 144), (144, o_aldL 1 145), (145, o_aload 0 146), (146, o_getf 5 18 149), (149, o_iload 3 150), (150, o_aldL 1 151), (151, o_lcmp 152), (152, o_ifne 166 155), (155, o_iload 1 156), (156, o_ifne 163 159), (159, o_iload 3 160), (160, o_goto 165), (163, o_iload 4 165), (165, o_iret), (166, o_iload 4 168), (168, o_iload 2 169), (169, o_iadd 170), (170, o_istore 4 172), (172, o_goto 132), (175, o_iinc 3 1 178), (178, o_goto 120), (181, o_iconst (-1) 182), (182, o_iret)]
theorem me_X10_again : em_Me T_X10_again 5 sp_X10_again := by
  intro Q K hK hle av hp hs
  obtain ⟨B, im, kp, asd, rf, qt, ab, be, tx, ty, at9, st9, tk, vl, wd, it, mn, S, sb, my, we, be9, rw, fr, k, rfl, rfl, hB, hz, hbad, hq0, hq1⟩ := hs
  have h0 := hB.1
  have h8 := hB.2.1
  have hb2 := hB.2.2.1
  have hL1 : 1 ≤ (if B 1 = 0 then 1 else B 1) := by split <;> omega
  have hL8 : (if B 1 = 0 then 1 else B 1) ≤ 8 := by split <;> omega
  obtain ⟨L, hL⟩ : ∃ L, L = (if B 1 = 0 then 1 else B 1) := ⟨_, rfl⟩
  rw [← hL] at hL1 hL8 hq0 hq1
  obtain ⟨V, hV⟩ : ∃ V, V = agM (agP B) L 200 := ⟨_, rfl⟩
  rw [← hV] at hq0 hq1
  refine ⟨Nat.le_of_ble_eq_true rfl, hK 0 15 0 _ _ _ ?_⟩
  refine ⟨_, _, _, rfl, fun z1 => ?_, fun z1 => ?_⟩
  · refine ⟨fun _ => ?_, fun y => absurd y (by decide)⟩
    have hk := in_01.mp z1
    refine ⟨_, _, _, _, _, _, _, _, _, _, _, _, _, _, _, _, _, _, _, _, _, _, _, _, rfl, rfl, fun so' h1 h2 => ?_⟩
    have e := nw_eq hz h1 h2
    subst e
    have two : ∀ (S2 : Nat → Nat) (sb2 : Nat → Int64), Z6 S2 → (∀ t, t ≤ 200 → sb2 t = pkL (trN B t) (B 0)) → K 118 [some (.ref 0), some (.int k), some (.int (nI L)), none, none] [] (wM (nB B) im kp asd rf qt ab be tx ty at9 st9 tk vl wd it mn (nB S2) (sb2) my we be9 rw fr) := by
      intro S2 sb2 hS2 hsb
      have loop : ∀ (r : Nat), r ≤ 200 → V = agM (agP B) L r → K 120 [some (.ref 0), some (.int k), some (.int (nI L)), some (.int (nI (201 - r))), none] [] (wM (nB B) im kp asd rf qt ab be tx ty at9 st9 tk vl wd it mn (nB S2) (sb2) my we be9 rw fr) := by
        intro r
        induction r with
        | zero =>
          intro hr hv
          rw [agM] at hv
          rw [hv] at hq0 hq1
          refine hK 73 9999 120 _ _ _ ?_
          refine ⟨fun _ => ?_, fun z => absurd (nI_lt (a := 200) (b := 201) (by omega) (by omega)) z⟩
          rcases hk with q | q
          · exact hq0 _ _ hS2 q
          · exact hq1 _ _ hS2 q
        | succ r ih =>
          intro hr hv
          rw [agM] at hv
          have et : 201 - (r + 1) = 200 - r := by omega
          rw [et]
          have inner : ∀ (f s : Nat), s ≤ 210 → (200 - r) < s + f * L → (V = match asI (agP B) (200 - r) L f s with
              | some s => some (200 - r, s)
              | none => agM (agP B) L r) → K 132 [some (.ref 0), some (.int k), some (.int (nI L)), some (.int (nI (200 - r))), some (.int (nI s))] [] (wM (nB B) im kp asd rf qt ab be tx ty at9 st9 tk vl wd it mn (nB S2) (sb2) my we be9 rw fr) := by
            intro f
            induction f with
            | zero =>
              intro s hs hf hv
              rw [asI] at hv
              have := ih (by omega) hv
              rw [show 201 - r = (200 - r) + 1 by omega, ← nI_1] at this
              refine hK 80 9999 132 _ _ _ ?_
              refine ⟨fun _ => hle _ _ _ _ _ (by repeat (first | exact trivial | refine ⟨rfl, ?_⟩)) this, fun z => absurd (nI_le (a := 200 - r) (b := s) (by omega) (by omega)) z⟩
            | succ f ihf =>
              intro s hs hf hv
              rw [asI] at hv
              refine hK 80 9999 132 _ _ _ ?_
              refine ⟨fun z => ?_, fun z => ?_⟩
              · have z := (nI_leI (by omega) (by omega)).mp z
                rw [if_neg (by omega)] at hv
                have := ih (by omega) hv
                rw [show 201 - r = (200 - r) + 1 by omega, ← nI_1] at this
                exact hle _ _ _ _ _ (by repeat (first | exact trivial | refine ⟨rfl, ?_⟩)) this
              · have z : s < 200 - r := by
                  rcases Nat.lt_or_ge s (200 - r) with q | q
                  · exact q
                  · exact absurd (nI_le q (by omega)) z
                rw [if_pos z] at hv
                refine ⟨s, rfl, by omega, 200 - r, rfl, by omega, fun y => ?_, fun y => ?_⟩
                · have y : agP B s (200 - r) = false := by
                    refine decide_eq_false (fun q => y (lg_cmp0.mpr ?_))
                    rw [hsb s (by omega), hsb (200 - r) (by omega)]; exact q
                  rw [y, if_neg Bool.false_ne_true] at hv
                  have := ihf (s + L) (by omega) (by rw [Nat.add_mul] at hf; omega) hv
                  rw [← nI_add] at this
                  exact this
                · have y := lg_cmp0.mp y
                  rw [hsb s (by omega), hsb (200 - r) (by omega)] at y
                  have y : agP B s (200 - r) = true := decide_eq_true y
                  rw [y, if_pos rfl] at hv
                  rw [hv] at hq0 hq1
                  refine ⟨fun q => ?_, fun q => ?_⟩
                  · rcases hk with q2 | q2
                    · exact absurd q2 q
                    · exact hq1 _ _ hS2 q2
                  · exact hq0 _ _ hS2 q
          have hm := Nat.mod_lt (200 - r) (show L > 0 by omega)
          have i0 := inner 201 ((200 - r) % L) (by omega) (by omega) hv
          have em : nI (200 - r) - nI (200 - r) / nI L * nI L = nI ((200 - r) % L) := pk_rem (by omega) (by omega) (by omega)
          rw [← em] at i0
          refine hK 73 7 120 _ _ _ ?_
          refine ⟨fun z => absurd z (nI_nlt (a := 200) (b := 200 - r) (by omega) (by omega)), fun _ => ?_⟩
          exact ⟨nI_ne0 (by omega) (by omega), i0⟩
      exact hK 71 2 118 _ _ _ (loop 200 (Nat.le_refl _) hV)
    have mid : ∀ (S2 : Nat → Nat) (sb2 : Nat → Int64), Z6 S2 → (∀ t, t ≤ 200 → sb2 t = pkL (trN B t) (B 0)) → K 98 [some (.ref 0), some (.int k), none, none, none] [] (wM (nB B) im kp asd rf qt ab be tx ty at9 st9 tk vl wd it mn (nB S2) (sb2) my we be9 rw fr) := by
      intro S2 sb2 hS2 hsb
      have t0 := two S2 sb2 hS2 hsb
      rw [hL] at t0
      refine hK 59 12 98 _ _ _ ?_
      refine ⟨1, rfl, by decide, fun z => ?_, fun z => ?_⟩
      · have z : ¬ B 1 = 0 := fun q => z (by show nI (B 1) = 0; rw [q]; rfl)
        rw [if_neg z] at t0
        exact ⟨1, rfl, by decide, t0⟩
      · have z : B 1 = 0 := (nI_eq (b := 0) (by omega) (by omega)).mp z
        rw [if_pos z] at t0
        exact t0
    have one : ∀ (r t : Nat) (sb2 : Nat → Int64), t + r = 201 → (∀ j, j < t → sb2 j = pkL (trN B j) (B 0)) → K 24 [some (.ref 0), some (.int k), some (.int (nI t)), none, none] [] (wM (nB B) im kp asd rf qt ab be tx ty at9 st9 tk vl wd it mn (nB (trN B t)) (sb2) my we be9 rw fr) := by
      intro r
      induction r with
      | zero =>
        intro t sb2 ht hsb
        have ht : t = 201 := by omega
        subst ht
        refine hK 15 44 24 _ _ _ ?_
        exact ⟨fun _ => hle _ _ _ _ _ (by repeat (first | exact trivial | refine ⟨rfl, ?_⟩)) (mid _ sb2 (trN_Z hB 201) (fun j hj => hsb j (by omega))), fun z => absurd (nI_lt (a := 200) (b := 201) (by omega) (by omega)) z⟩
      | succ r ih =>
        intro t sb2 ht hsb
        have inner : ∀ (w p : Nat) (sb3 : Nat → Int64), p + w = B 0 → (∀ j, j < t → sb3 j = pkL (trN B j) (B 0)) → sb3 t = pkL (trN B t) p → K 40 [some (.ref 0), some (.int k), some (.int (nI t)), some (.int (nI p)), none] [] (wM (nB B) im kp asd rf qt ab be tx ty at9 st9 tk vl wd it mn (nB (trN B t)) (sb3) my we be9 rw fr) := by
          intro w
          induction w with
          | zero =>
            intro p sb3 hp hj hl
            have hp : p = B 0 := by omega
            subst hp
            have := ih (t + 1) sb3 (by omega) (fun j hj2 => by
              rcases (by omega : j < t ∨ j = t) with q | q
              · exact hj j q
              · rw [q]; exact hl)
            rw [← nI_1 t, trN] at this
            refine hK 25 34 40 _ _ _ ?_
            refine ⟨0, rfl, by decide, fun _ => ?_, fun z => absurd (nI_le (Nat.le_refl (B 0)) (by omega)) z⟩
            exact ⟨2, rfl, by decide, _, _, _, _, _, _, _, _, _, _, _, _, _, _, _, _, _, _, _, _, _, _, _, _, B 2 + t, (by show [Value.ref 0, Value.int (nI (B 2) + nI t)] = _; rw [nI_add]), rfl, hB, trN_ok hB t, by omega, hle _ _ _ _ _ (by repeat (first | exact trivial | refine ⟨rfl, ?_⟩)) this⟩
          | succ w ihw =>
            intro p sb3 hp hj hl
            have := ihw (p + 1) (vp_updL sb3 t (1024 * sb3 t + (nI (trN B t p)).toInt64)) (by omega) (fun j hj2 => by rw [pk_uLn (by omega)]; exact hj j hj2) (by rw [pk_uLs, pkL, hl])
            rw [← nI_1 p] at this
            refine hK 25 34 40 _ _ _ ?_
            refine ⟨0, rfl, by decide, fun z => absurd z (by show ¬ nI (B 0) ≤ nI p; exact nI_ge (by omega) (by omega)), fun _ => ?_⟩
            exact ⟨t, rfl, by omega, p, rfl, by omega, t, rfl, by omega, this⟩
        refine hK 15 10 24 _ _ _ ?_
        refine ⟨fun z => absurd z (nI_nlt (a := 200) (b := t) (by omega) (by omega)), fun _ => ?_⟩
        exact ⟨t, rfl, by omega, inner (B 0) 0 _ (by omega) (fun j hj => by rw [pk_uLn (by omega)]; exact hsb j hj) (by rw [pk_uLs]; rfl)⟩
    exact hle _ _ _ _ _ (by repeat (first | exact trivial | refine ⟨rfl, ?_⟩)) (one 201 0 sb (by omega) (fun j h => by omega))
  · exact ⟨fun y => absurd rfl y, fun _ => ⟨_, _, _, _, _, _, _, _, _, _, _, _, _, _, _, _, _, _, _, _, _, _, _, _, 0, _, rfl, rfl, by decide, hbad (fun q => z1 (in_01.mpr (Or.inl q))) (fun q => z1 (in_01.mpr (Or.inr q)))⟩⟩
abbrev rm_X10_again : Room := { frames := 3, cells := 0, slots := 0, locals := 83 }
set_option maxRecDepth 100000 in
set_option maxHeartbeats 4000000 in
theorem ct_X10_again (l : Launch) (D : va_G) (dA : Nat → ClassId) (σ : Nat → Nat) : em_CT l D em_cl dA σ (em_F σ) y_X10_again c_X10_again 5 (Option.some ClassFile.FieldType.int) rm_X10_again (sp_X10_again ) := by
  refine em_CT_of (T := T_X10_again ) (em_F_ok σ) (by decide) (fun p e s m args below meth c A ρ Q C hFok hF hret hlk hin => ?_) (me_X10_again )
  unfold T_X10_again
  refine List.forall_mem_cons.mpr ⟨s_iload_n C (by decide +kernel : decode c_X10_again 0 = .ok (.iload_n 1, 1)) rfl rfl rfl, ?_⟩
  refine List.forall_mem_cons.mpr ⟨s_i2l C (by decide +kernel : decode c_X10_again 1 = .ok (.i2l, 1)) rfl rfl, ?_⟩
  refine List.forall_mem_cons.mpr ⟨s_lconst C (by decide +kernel : decode c_X10_again 2 = .ok (.lconst 0, 1)) rfl rfl (by decide), ?_⟩
  refine List.forall_mem_cons.mpr ⟨s_lconst C (by decide +kernel : decode c_X10_again 3 = .ok (.lconst 1, 1)) rfl rfl (by decide), ?_⟩
  refine List.forall_mem_cons.mpr ⟨s_callS C hFok hF (ct_X10_in l D dA σ) ⟨rfl, rfl⟩ ew771 ew769 ew770 ew6 ⟨by decide, by decide, by decide +kernel⟩ ⟨by decide, by decide⟩ (by decide +kernel : decode c_X10_again 4 = .ok (.invokestatic 69, 3)) rfl rfl ⟨Nat.zero_le _, Nat.zero_le _⟩, ?_⟩
  refine List.forall_mem_cons.mpr ⟨s_ifne C (by decide +kernel : decode c_X10_again 7 = .ok (.ifCond .ne 11, 3)) (by decide) rfl rfl rfl, ?_⟩
  refine List.forall_mem_cons.mpr ⟨s_aload_n C (by decide +kernel : decode c_X10_again 10 = .ok (.aload_n 0, 1)) rfl rfl rfl, ?_⟩
  refine List.forall_mem_cons.mpr ⟨s_iconst C (by decide +kernel : decode c_X10_again 11 = .ok (.iconst 0, 1)) rfl rfl (by decide), ?_⟩
  refine List.forall_mem_cons.mpr ⟨s_bipush C (by decide +kernel : decode c_X10_again 12 = .ok (.bipush (-10), 2)) rfl rfl (by decide), ?_⟩
  refine List.forall_mem_cons.mpr ⟨s_callV C hFok hF (ct_X10_refuses l D dA σ) ⟨rfl, rfl⟩ ew783 em_cl_X10 ew780 ew782 ewp14 ew6 ⟨by decide, by decide, by decide +kernel⟩ ⟨by decide, by decide⟩ (by decide +kernel : decode c_X10_again 14 = .ok (.invokevirtual 65, 3)) rfl rfl ⟨Nat.zero_le _, Nat.zero_le _⟩, ?_⟩
  refine List.forall_mem_cons.mpr ⟨s_iret C (by decide +kernel : decode c_X10_again 17 = .ok (.ireturn, 1)) hret hlk ⟨Nat.le_refl 0, Nat.le_refl 0⟩, ?_⟩
  refine List.forall_mem_cons.mpr ⟨s_aload_n C (by decide +kernel : decode c_X10_again 18 = .ok (.aload_n 0, 1)) rfl rfl rfl, ?_⟩
  refine List.forall_mem_cons.mpr ⟨s_callV C hFok hF (ct_X10_asNow l D dA σ) ⟨rfl, rfl⟩ ew903 em_cl_X10 ew900 ew902 ewp26 ew6 ⟨by decide, by decide, by decide +kernel⟩ ⟨by decide, by decide⟩ (by decide +kernel : decode c_X10_again 19 = .ok (.invokevirtual 182, 3)) rfl rfl ⟨Nat.zero_le _, Nat.zero_le _⟩, ?_⟩
  refine List.forall_mem_cons.mpr ⟨s_iconst C (by decide +kernel : decode c_X10_again 22 = .ok (.iconst 0, 1)) rfl rfl (by decide), ?_⟩
  refine List.forall_mem_cons.mpr ⟨s_istore_n C (by decide +kernel : decode c_X10_again 23 = .ok (.istore_n 2, 1)) rfl rfl rfl (by decide), ?_⟩
  refine List.forall_mem_cons.mpr ⟨s_iload_n C (by decide +kernel : decode c_X10_again 24 = .ok (.iload_n 2, 1)) rfl rfl rfl, ?_⟩
  refine List.forall_mem_cons.mpr ⟨s_sipush C (by decide +kernel : decode c_X10_again 25 = .ok (.sipush 200, 3)) rfl rfl (by decide), ?_⟩
  refine List.forall_mem_cons.mpr ⟨s_icmpgt C (by decide +kernel : decode c_X10_again 28 = .ok (.if_icmp .gt 70, 3)) (by decide) rfl rfl rfl, ?_⟩
  refine List.forall_mem_cons.mpr ⟨s_aload_n C (by decide +kernel : decode c_X10_again 31 = .ok (.aload_n 0, 1)) rfl rfl rfl, ?_⟩
  refine List.forall_mem_cons.mpr ⟨s_getf C (by decide +kernel : decode c_X10_again 32 = .ok (.getfield 35, 3)) rfl rfl em_cl_X10 (by decide) ew709 rfl, ?_⟩
  refine List.forall_mem_cons.mpr ⟨s_iload_n C (by decide +kernel : decode c_X10_again 35 = .ok (.iload_n 2, 1)) rfl rfl rfl, ?_⟩
  refine List.forall_mem_cons.mpr ⟨s_lconst C (by decide +kernel : decode c_X10_again 36 = .ok (.lconst 0, 1)) rfl rfl (by decide), ?_⟩
  refine List.forall_mem_cons.mpr ⟨s_last C (by decide +kernel : decode c_X10_again 37 = .ok (.lastore, 1)) rfl rfl, ?_⟩
  refine List.forall_mem_cons.mpr ⟨s_iconst C (by decide +kernel : decode c_X10_again 38 = .ok (.iconst 0, 1)) rfl rfl (by decide), ?_⟩
  refine List.forall_mem_cons.mpr ⟨s_istore_n C (by decide +kernel : decode c_X10_again 39 = .ok (.istore_n 3, 1)) rfl rfl rfl (by decide), ?_⟩
  refine List.forall_mem_cons.mpr ⟨s_iload_n C (by decide +kernel : decode c_X10_again 40 = .ok (.iload_n 3, 1)) rfl rfl rfl, ?_⟩
  refine List.forall_mem_cons.mpr ⟨s_aload_n C (by decide +kernel : decode c_X10_again 41 = .ok (.aload_n 0, 1)) rfl rfl rfl, ?_⟩
  refine List.forall_mem_cons.mpr ⟨s_getf C (by decide +kernel : decode c_X10_again 42 = .ok (.getfield 7, 3)) rfl rfl em_cl_X10 (by decide) ew691 rfl, ?_⟩
  refine List.forall_mem_cons.mpr ⟨s_iconst C (by decide +kernel : decode c_X10_again 45 = .ok (.iconst 0, 1)) rfl rfl (by decide), ?_⟩
  refine List.forall_mem_cons.mpr ⟨s_iald C (by decide +kernel : decode c_X10_again 46 = .ok (.iaload, 1)) rfl rfl, ?_⟩
  refine List.forall_mem_cons.mpr ⟨s_icmpge C (by decide +kernel : decode c_X10_again 47 = .ok (.if_icmp .ge 33, 3)) (by decide) rfl rfl rfl, ?_⟩
  refine List.forall_mem_cons.mpr ⟨s_aload_n C (by decide +kernel : decode c_X10_again 50 = .ok (.aload_n 0, 1)) rfl rfl rfl, ?_⟩
  refine List.forall_mem_cons.mpr ⟨s_getf C (by decide +kernel : decode c_X10_again 51 = .ok (.getfield 35, 3)) rfl rfl em_cl_X10 (by decide) ew709 rfl, ?_⟩
  refine List.forall_mem_cons.mpr ⟨s_iload_n C (by decide +kernel : decode c_X10_again 54 = .ok (.iload_n 2, 1)) rfl rfl rfl, ?_⟩
  refine List.forall_mem_cons.mpr ⟨s_ldc2 C (by decide +kernel : decode c_X10_again 55 = .ok (.ldc2_w 214, 3)) rfl rfl ew965, ?_⟩
  refine List.forall_mem_cons.mpr ⟨s_aload_n C (by decide +kernel : decode c_X10_again 58 = .ok (.aload_n 0, 1)) rfl rfl rfl, ?_⟩
  refine List.forall_mem_cons.mpr ⟨s_getf C (by decide +kernel : decode c_X10_again 59 = .ok (.getfield 35, 3)) rfl rfl em_cl_X10 (by decide) ew709 rfl, ?_⟩
  refine List.forall_mem_cons.mpr ⟨s_iload_n C (by decide +kernel : decode c_X10_again 62 = .ok (.iload_n 2, 1)) rfl rfl rfl, ?_⟩
  refine List.forall_mem_cons.mpr ⟨s_lald C (by decide +kernel : decode c_X10_again 63 = .ok (.laload, 1)) rfl rfl, ?_⟩
  refine List.forall_mem_cons.mpr ⟨s_lmul C (by decide +kernel : decode c_X10_again 64 = .ok (.lmul, 1)) rfl rfl, ?_⟩
  refine List.forall_mem_cons.mpr ⟨s_aload_n C (by decide +kernel : decode c_X10_again 65 = .ok (.aload_n 0, 1)) rfl rfl rfl, ?_⟩
  refine List.forall_mem_cons.mpr ⟨s_getf C (by decide +kernel : decode c_X10_again 66 = .ok (.getfield 32, 3)) rfl rfl em_cl_X10 (by decide) ew708 rfl, ?_⟩
  refine List.forall_mem_cons.mpr ⟨s_iload_n C (by decide +kernel : decode c_X10_again 69 = .ok (.iload_n 3, 1)) rfl rfl rfl, ?_⟩
  refine List.forall_mem_cons.mpr ⟨s_iald C (by decide +kernel : decode c_X10_again 70 = .ok (.iaload, 1)) rfl rfl, ?_⟩
  refine List.forall_mem_cons.mpr ⟨s_i2l C (by decide +kernel : decode c_X10_again 71 = .ok (.i2l, 1)) rfl rfl, ?_⟩
  refine List.forall_mem_cons.mpr ⟨s_ladd C (by decide +kernel : decode c_X10_again 72 = .ok (.ladd, 1)) rfl rfl, ?_⟩
  refine List.forall_mem_cons.mpr ⟨s_last C (by decide +kernel : decode c_X10_again 73 = .ok (.lastore, 1)) rfl rfl, ?_⟩
  refine List.forall_mem_cons.mpr ⟨s_iinc C (by decide +kernel : decode c_X10_again 74 = .ok (.iinc 3 1, 3)) rfl rfl (by decide) (by decide), ?_⟩
  refine List.forall_mem_cons.mpr ⟨s_goto C (by decide +kernel : decode c_X10_again 77 = .ok (.goto (-37), 3)) (by decide) rfl, ?_⟩
  refine List.forall_mem_cons.mpr ⟨s_aload_n C (by decide +kernel : decode c_X10_again 80 = .ok (.aload_n 0, 1)) rfl rfl rfl, ?_⟩
  refine List.forall_mem_cons.mpr ⟨s_aload_n C (by decide +kernel : decode c_X10_again 81 = .ok (.aload_n 0, 1)) rfl rfl rfl, ?_⟩
  refine List.forall_mem_cons.mpr ⟨s_getf C (by decide +kernel : decode c_X10_again 82 = .ok (.getfield 7, 3)) rfl rfl em_cl_X10 (by decide) ew691 rfl, ?_⟩
  refine List.forall_mem_cons.mpr ⟨s_iconst C (by decide +kernel : decode c_X10_again 85 = .ok (.iconst 2, 1)) rfl rfl (by decide), ?_⟩
  refine List.forall_mem_cons.mpr ⟨s_iald C (by decide +kernel : decode c_X10_again 86 = .ok (.iaload, 1)) rfl rfl, ?_⟩
  refine List.forall_mem_cons.mpr ⟨s_iload_n C (by decide +kernel : decode c_X10_again 87 = .ok (.iload_n 2, 1)) rfl rfl rfl, ?_⟩
  refine List.forall_mem_cons.mpr ⟨s_iadd C (by decide +kernel : decode c_X10_again 88 = .ok (.iadd, 1)) rfl rfl, ?_⟩
  refine List.forall_mem_cons.mpr ⟨s_callV C hFok hF (ct_X10_goes l D dA σ) ⟨rfl, rfl⟩ ew923 em_cl_X10 ew920 ew922 ewp29 ew6 ⟨by decide, by decide, by decide +kernel⟩ ⟨by decide, by decide⟩ (by decide +kernel : decode c_X10_again 89 = .ok (.invokevirtual 199, 3)) rfl rfl ⟨Nat.zero_le _, Nat.zero_le _⟩, ?_⟩
  refine List.forall_mem_cons.mpr ⟨s_iinc C (by decide +kernel : decode c_X10_again 92 = .ok (.iinc 2 1, 3)) rfl rfl (by decide) (by decide), ?_⟩
  refine List.forall_mem_cons.mpr ⟨s_goto C (by decide +kernel : decode c_X10_again 95 = .ok (.goto (-71), 3)) (by decide) rfl, ?_⟩
  refine List.forall_mem_cons.mpr ⟨s_aload_n C (by decide +kernel : decode c_X10_again 98 = .ok (.aload_n 0, 1)) rfl rfl rfl, ?_⟩
  refine List.forall_mem_cons.mpr ⟨s_getf C (by decide +kernel : decode c_X10_again 99 = .ok (.getfield 7, 3)) rfl rfl em_cl_X10 (by decide) ew691 rfl, ?_⟩
  refine List.forall_mem_cons.mpr ⟨s_iconst C (by decide +kernel : decode c_X10_again 102 = .ok (.iconst 1, 1)) rfl rfl (by decide), ?_⟩
  refine List.forall_mem_cons.mpr ⟨s_iald C (by decide +kernel : decode c_X10_again 103 = .ok (.iaload, 1)) rfl rfl, ?_⟩
  refine List.forall_mem_cons.mpr ⟨s_ifne C (by decide +kernel : decode c_X10_again 104 = .ok (.ifCond .ne 7, 3)) (by decide) rfl rfl rfl, ?_⟩
  refine List.forall_mem_cons.mpr ⟨s_iconst C (by decide +kernel : decode c_X10_again 107 = .ok (.iconst 1, 1)) rfl rfl (by decide), ?_⟩
  refine List.forall_mem_cons.mpr ⟨s_goto C (by decide +kernel : decode c_X10_again 108 = .ok (.goto 9, 3)) (by decide) rfl, ?_⟩
  refine List.forall_mem_cons.mpr ⟨s_aload_n C (by decide +kernel : decode c_X10_again 111 = .ok (.aload_n 0, 1)) rfl rfl rfl, ?_⟩
  refine List.forall_mem_cons.mpr ⟨s_getf C (by decide +kernel : decode c_X10_again 112 = .ok (.getfield 7, 3)) rfl rfl em_cl_X10 (by decide) ew691 rfl, ?_⟩
  refine List.forall_mem_cons.mpr ⟨s_iconst C (by decide +kernel : decode c_X10_again 115 = .ok (.iconst 1, 1)) rfl rfl (by decide), ?_⟩
  refine List.forall_mem_cons.mpr ⟨s_iald C (by decide +kernel : decode c_X10_again 116 = .ok (.iaload, 1)) rfl rfl, ?_⟩
  refine List.forall_mem_cons.mpr ⟨s_istore_n C (by decide +kernel : decode c_X10_again 117 = .ok (.istore_n 2, 1)) rfl rfl rfl (by decide), ?_⟩
  refine List.forall_mem_cons.mpr ⟨s_iconst C (by decide +kernel : decode c_X10_again 118 = .ok (.iconst 1, 1)) rfl rfl (by decide), ?_⟩
  refine List.forall_mem_cons.mpr ⟨s_istore_n C (by decide +kernel : decode c_X10_again 119 = .ok (.istore_n 3, 1)) rfl rfl rfl (by decide), ?_⟩
  refine List.forall_mem_cons.mpr ⟨s_iload_n C (by decide +kernel : decode c_X10_again 120 = .ok (.iload_n 3, 1)) rfl rfl rfl, ?_⟩
  refine List.forall_mem_cons.mpr ⟨s_sipush C (by decide +kernel : decode c_X10_again 121 = .ok (.sipush 200, 3)) rfl rfl (by decide), ?_⟩
  refine List.forall_mem_cons.mpr ⟨s_icmpgt C (by decide +kernel : decode c_X10_again 124 = .ok (.if_icmp .gt 57, 3)) (by decide) rfl rfl rfl, ?_⟩
  refine List.forall_mem_cons.mpr ⟨s_iload_n C (by decide +kernel : decode c_X10_again 127 = .ok (.iload_n 3, 1)) rfl rfl rfl, ?_⟩
  refine List.forall_mem_cons.mpr ⟨s_iload_n C (by decide +kernel : decode c_X10_again 128 = .ok (.iload_n 2, 1)) rfl rfl rfl, ?_⟩
  refine List.forall_mem_cons.mpr ⟨s_irem C (by decide +kernel : decode c_X10_again 129 = .ok (.irem, 1)) rfl rfl, ?_⟩
  refine List.forall_mem_cons.mpr ⟨s_istore C (by decide +kernel : decode c_X10_again 130 = .ok (.istore 4, 2)) rfl rfl (by decide), ?_⟩
  refine List.forall_mem_cons.mpr ⟨s_iload C (by decide +kernel : decode c_X10_again 132 = .ok (.iload 4, 2)) rfl rfl, ?_⟩
  refine List.forall_mem_cons.mpr ⟨s_iload_n C (by decide +kernel : decode c_X10_again 134 = .ok (.iload_n 3, 1)) rfl rfl rfl, ?_⟩
  refine List.forall_mem_cons.mpr ⟨s_icmpge C (by decide +kernel : decode c_X10_again 135 = .ok (.if_icmp .ge 40, 3)) (by decide) rfl rfl rfl, ?_⟩
  refine List.forall_mem_cons.mpr ⟨s_aload_n C (by decide +kernel : decode c_X10_again 138 = .ok (.aload_n 0, 1)) rfl rfl rfl, ?_⟩
  refine List.forall_mem_cons.mpr ⟨s_getf C (by decide +kernel : decode c_X10_again 139 = .ok (.getfield 35, 3)) rfl rfl em_cl_X10 (by decide) ew709 rfl, ?_⟩
  refine List.forall_mem_cons.mpr ⟨s_iload C (by decide +kernel : decode c_X10_again 142 = .ok (.iload 4, 2)) rfl rfl, ?_⟩
  refine List.forall_mem_cons.mpr ⟨s_lald C (by decide +kernel : decode c_X10_again 144 = .ok (.laload, 1)) rfl rfl, ?_⟩
  refine List.forall_mem_cons.mpr ⟨s_aload_n C (by decide +kernel : decode c_X10_again 145 = .ok (.aload_n 0, 1)) rfl rfl rfl, ?_⟩
  refine List.forall_mem_cons.mpr ⟨s_getf C (by decide +kernel : decode c_X10_again 146 = .ok (.getfield 35, 3)) rfl rfl em_cl_X10 (by decide) ew709 rfl, ?_⟩
  refine List.forall_mem_cons.mpr ⟨s_iload_n C (by decide +kernel : decode c_X10_again 149 = .ok (.iload_n 3, 1)) rfl rfl rfl, ?_⟩
  refine List.forall_mem_cons.mpr ⟨s_lald C (by decide +kernel : decode c_X10_again 150 = .ok (.laload, 1)) rfl rfl, ?_⟩
  refine List.forall_mem_cons.mpr ⟨s_lcmp C (by decide +kernel : decode c_X10_again 151 = .ok (.lcmp, 1)) rfl rfl, ?_⟩
  refine List.forall_mem_cons.mpr ⟨s_ifne C (by decide +kernel : decode c_X10_again 152 = .ok (.ifCond .ne 14, 3)) (by decide) rfl rfl rfl, ?_⟩
  refine List.forall_mem_cons.mpr ⟨s_iload_n C (by decide +kernel : decode c_X10_again 155 = .ok (.iload_n 1, 1)) rfl rfl rfl, ?_⟩
  refine List.forall_mem_cons.mpr ⟨s_ifne C (by decide +kernel : decode c_X10_again 156 = .ok (.ifCond .ne 7, 3)) (by decide) rfl rfl rfl, ?_⟩
  refine List.forall_mem_cons.mpr ⟨s_iload_n C (by decide +kernel : decode c_X10_again 159 = .ok (.iload_n 3, 1)) rfl rfl rfl, ?_⟩
  refine List.forall_mem_cons.mpr ⟨s_goto C (by decide +kernel : decode c_X10_again 160 = .ok (.goto 5, 3)) (by decide) rfl, ?_⟩
  refine List.forall_mem_cons.mpr ⟨s_iload C (by decide +kernel : decode c_X10_again 163 = .ok (.iload 4, 2)) rfl rfl, ?_⟩
  refine List.forall_mem_cons.mpr ⟨s_iret C (by decide +kernel : decode c_X10_again 165 = .ok (.ireturn, 1)) hret hlk ⟨Nat.le_refl 0, Nat.le_refl 0⟩, ?_⟩
  refine List.forall_mem_cons.mpr ⟨s_iload C (by decide +kernel : decode c_X10_again 166 = .ok (.iload 4, 2)) rfl rfl, ?_⟩
  refine List.forall_mem_cons.mpr ⟨s_iload_n C (by decide +kernel : decode c_X10_again 168 = .ok (.iload_n 2, 1)) rfl rfl rfl, ?_⟩
  refine List.forall_mem_cons.mpr ⟨s_iadd C (by decide +kernel : decode c_X10_again 169 = .ok (.iadd, 1)) rfl rfl, ?_⟩
  refine List.forall_mem_cons.mpr ⟨s_istore C (by decide +kernel : decode c_X10_again 170 = .ok (.istore 4, 2)) rfl rfl (by decide), ?_⟩
  refine List.forall_mem_cons.mpr ⟨s_goto C (by decide +kernel : decode c_X10_again 172 = .ok (.goto (-40), 3)) (by decide) rfl, ?_⟩
  refine List.forall_mem_cons.mpr ⟨s_iinc C (by decide +kernel : decode c_X10_again 175 = .ok (.iinc 3 1, 3)) rfl rfl (by decide) (by decide), ?_⟩
  refine List.forall_mem_cons.mpr ⟨s_goto C (by decide +kernel : decode c_X10_again 178 = .ok (.goto (-58), 3)) (by decide) rfl, ?_⟩
  refine List.forall_mem_cons.mpr ⟨s_iconst C (by decide +kernel : decode c_X10_again 181 = .ok (.iconst (-1), 1)) rfl rfl (by decide), ?_⟩
  refine List.forall_mem_cons.mpr ⟨s_iret C (by decide +kernel : decode c_X10_again 182 = .ok (.ireturn, 1)) hret hlk ⟨Nat.le_refl 0, Nat.le_refl 0⟩, ?_⟩
  exact fun _ h => absurd h List.not_mem_nil
