/-! ===== dinners ===== -/
def dine (B : Nat → Nat) (a b : Nat) (S : Nat → Nat) (d : Nat) : Option (Nat → Nat) :=
  if d = 0 then (if isL B (tlN B S a b) a b = true then some (tlN B S a b) else none)
  else if (d - 1) % 6 < B 0 ∧ (d - 1) % 6 ≠ a ∧ (d - 1) % 6 ≠ b then
    (if isL B (tlN B (tlN B S a b) (if 6 < d then b else a) ((d - 1) % 6)) a b = true then some (tlN B (tlN B S a b) (if 6 < d then b else a) ((d - 1) % 6)) else none)
  else none
def dnR (B : Nat → Nat) (a b : Nat) (r : Nat → Nat) : Nat → Option (Nat → Nat)
  | 0 => some (nw B)
  | k + 1 => match dnR B a b r k with
    | none => none
    | some S => dine B a b S (r k)
theorem dnR_none {B : Nat → Nat} {a b : Nat} {r : Nat → Nat} {k : Nat} (h : dnR B a b r k = none) : ∀ j, dnR B a b r (k + j) = none
  | 0 => h
  | j + 1 => by rw [← Nat.add_assoc, dnR, dnR_none h j]
def sp_X10_dines : em_Sp := fun av hp Q => ∃ B im kp asd rf qt ab be tx ty at9 st9 tk vl wd it mn S sb my we be9 rw fr a b m r, av = [.ref 0, .int (nI a), .int (nI b), .int (nI m)] ∧ hp = (wM (nB B) im kp asd rf qt ab be tx ty at9 st9 tk vl wd it mn (nB S) sb my we be9 rw fr) ∧ GK B ∧ Z6 S ∧ a < B 0 ∧ b < B 0 ∧ m ≤ 4 ∧ (∀ k, k < m → rw k = nI (r k) ∧ r k < 13) ∧ (∀ S', Z6 S' → Q (some (.int (b1 (dnR B a b r m).isSome))) (wM (nB B) im kp asd rf qt ab be tx ty at9 st9 tk vl wd it mn (nB S') sb my we be9 rw fr))
def T_X10_dines : List (Nat × em_Op) := [(0, o_aload 0 1), (1, o_call 1 (some 5) (sp_X10_asNow) 4), (4, o_iconst 1 5), (5, o_istore 4 7), (7, o_iconst 0 8), (8, o_istore 5 10), (10, o_iload 5 12), (12, o_iload 3 13), (13, o_icmpge 134 16), (16, o_iload 4 18), (18, o_ifeq 134 21), (21, o_aload 0 22), (22, o_iload 1 23), (23, o_iload 2 24), (24, o_call 3 (some 5) (sp_X10_talks) 27), (27, o_aload 0 28), (28, o_getf 5 22 31), (31, o_iload 5 33), (33, o_aldI 0 34), (34, o_istore 6 36), (36, o_iload 6 38), (38, o_ifle 107 41), (41, o_iload 6 43), (43, o_iconst 1 44), (44, o_isub 45), (45, o_iconst 6 47), (47, o_irem 48), (48, o_istore 7 50), (50, o_iload 6 52), (52, o_iconst 6 54), (54, o_icmple 61 57), (57, o_iload 2 58), (58, o_goto 62), (61, o_iload 1 62), (62, o_istore 8 64), (64, o_iload 7 66), (66, o_aload 0 67), (67, o_getf 5 0 70), (70, o_iconst 0 71), (71, o_aldI 0 72), (72, o_icmpge 91 75), (75, o_iload 7 77), (77, o_iload 1 78), (78, o_icmpeq 91 81), (81, o_iload 7 83), (83, o_iload 2 84), (84, o_icmpeq 91 87), (87, o_iconst 1 88), (88, o_goto 92), (91, o_iconst 0 92), (92, o_istore 4 94), (94, o_iload 4 96), (96, o_ifeq 107 99), (99, o_aload 0 100), (100, o_iload 8 102), (102, o_iload 7 104), (104, o_call 3 (some 5) (sp_X10_talks) 107), (107, o_iload 4 109), (109, o_ifeq 125 112), (112, o_aload 0 113), (113, o_iload 1 114), (114, o_iload 2 115), (115, o_call 3 (some 5) (sp_X10_isLawful) 118), (118, o_ifeq 125 121), (121, o_iconst 1 122), (122, o_goto 126), (125, o_iconst 0 126), (126, o_istore 4 128), (128, o_iinc 5 1 131), (131, o_goto 10), (134, o_iload 4 136), (136, o_zret)]
theorem me_X10_dines : em_Me T_X10_dines 9 sp_X10_dines := by
  intro Q K hK hle av hp hs
  obtain ⟨B, im, kp, asd, rf, qt, ab, be, tx, ty, at9, st9, tk, vl, wd, it, mn, S, sb, my, we, be9, rw, fr, a, b, m, r, rfl, rfl, hB, hz, ha, hb, hm, hr, hq⟩ := hs
  have h0 := hB.1
  refine ⟨Nat.le_of_ble_eq_true rfl, ?_⟩
  have stop : ∀ (S2 : Nat → Nat) (k : Nat) (x6 x7 x8 : Option Value), Z6 S2 → k ≤ m → dnR B a b r k = none → K 10 [some (.ref 0), some (.int (nI a)), some (.int (nI b)), some (.int (nI m)), some (.int (b1 false)), some (.int (nI k)), x6, x7, x8] [] (wM (nB B) im kp asd rf qt ab be tx ty at9 st9 tk vl wd it mn (nB S2) sb my we be9 rw fr) := by
    intro S2 k x6 x7 x8 hS2 hk hn
    have hnm : dnR B a b r m = none := by
      have := dnR_none hn (m - k)
      rw [show k + (m - k) = m by omega] at this
      exact this
    have hq := hq S2 hS2
    rw [hnm] at hq
    refine hK 6 9999 10 _ _ _ ?_
    exact ⟨fun _ => ⟨b1_01 _, hq⟩, fun _ => ⟨fun _ => ⟨b1_01 _, hq⟩, fun z => absurd rfl z⟩⟩
  have loop : ∀ (w k : Nat) (S2 : Nat → Nat), k + w = m → SOK S2 → Z6 S2 → dnR B a b r k = some S2 → K 10 [some (.ref 0), some (.int (nI a)), some (.int (nI b)), some (.int (nI m)), some (.int (b1 true)), some (.int (nI k)), none, none, none] [] (wM (nB B) im kp asd rf qt ab be tx ty at9 st9 tk vl wd it mn (nB S2) sb my we be9 rw fr) := by
    intro w
    induction w with
    | zero =>
      intro k S2 hk hok hS2 hd
      have hk : k = m := by omega
      subst hk
      have hq := hq S2 hS2
      rw [hd] at hq
      refine hK 6 9999 10 _ _ _ ?_
      exact ⟨fun _ => ⟨b1_01 _, hq⟩, fun z => absurd (nI_le (Nat.le_refl k) (by omega)) z⟩
    | succ w ih =>
      intro k S2 hk hok hS2 hd
      obtain ⟨hrk, hr13⟩ := hr k (by omega)
      have hT := tlN_ok (B := B) (i := a) (j := b) (by omega) (by omega) hok
      have hTZ := tlN_Z (B := B) (i := a) (j := b) (by omega) (by omega) hS2
      have et := tlk_nB (B := B) (i := a) (j := b) (by omega) (by omega) hok hB.2.2.2.2.2.1
      -- behind the second talk, or without it: whether they are lawful
      have law : ∀ (U : Nat → Nat) (x7 x8 : Option Value), SOK U → Z6 U → dnR B a b r (k + 1) = (if isL B U a b = true then some U else none) → K 107 [some (.ref 0), some (.int (nI a)), some (.int (nI b)), some (.int (nI m)), some (.int (b1 true)), some (.int (nI k)), some (.int (nI (r k))), x7, x8] [] (wM (nB B) im kp asd rf qt ab be tx ty at9 st9 tk vl wd it mn (nB U) sb my we be9 rw fr) := by
        intro U x7 x8 hU hUZ hd2
        refine hK 57 13 107 _ _ _ ?_
        refine ⟨fun z => absurd z (by decide), fun _ => ?_⟩
        refine ⟨_, _, _, _, _, _, _, _, _, _, _, _, _, _, _, _, _, _, _, _, _, _, _, _, a, b, rfl, rfl, by omega, by omega, fun u => ?_, fun u => ?_⟩
        · have u := (lw_isL hB.2.2.2.1 hB.2.2.2.2.1 (hU a (by omega)) (hU b (by omega))).mp u
          rw [if_pos u] at hd2
          have := ih (k + 1) U (by omega) hU hUZ hd2
          rw [← nI_1 k] at this
          exact ⟨fun y => absurd y (by decide), fun _ => hle _ _ _ _ _ (by repeat (first | exact trivial | refine ⟨rfl, ?_⟩)) this⟩
        · have u := isL_f hB.2.2.2.1 hB.2.2.2.2.1 (hU a (by omega)) (hU b (by omega)) u
          rw [if_neg (by rw [u]; exact Bool.false_ne_true)] at hd2
          have := stop U (k + 1) (some (.int (nI (r k)))) x7 x8 hUZ (by omega) hd2
          rw [← nI_1 k] at this
          exact ⟨fun _ => this, fun y => absurd rfl y⟩
      have behind : dnR B a b r (k + 1) = dine B a b S2 (r k) → K 36 [some (.ref 0), some (.int (nI a)), some (.int (nI b)), some (.int (nI m)), some (.int (b1 true)), some (.int (nI k)), some (.int (nI (r k))), none, none] [] (wM (nB B) im kp asd rf qt ab be tx ty at9 st9 tk vl wd it mn (nB (tlN B S2 a b)) sb my we be9 rw fr) := by
        intro hd2
        refine hK 20 14 36 _ _ _ ?_
        refine ⟨fun z => ?_, fun z => ?_⟩
        · have z : r k = 0 := by
            have := (nI_leI (a := r k) (b := 0) (by omega) (by omega)).mp z
            omega
          rw [dine, if_pos z] at hd2
          exact law _ none none hT hTZ hd2
        · have z : ¬ r k = 0 := fun q => z (by rw [q]; decide)
          obtain ⟨e, he⟩ : ∃ e, r k = e + 1 := ⟨r k - 1, by omega⟩
          rw [dine, if_neg z] at hd2
          have e6 : (r k - 1) % 6 = e % 6 := by rw [he]; rfl
          rw [e6] at hd2
          have hm6 := Nat.mod_lt e (show 6 > 0 by omega)
          have em : nI (r k) - 1 - (nI (r k) - 1) / 6 * 6 = nI (e % 6) := by
            rw [he, nI_pred]; exact pk_rem (d := 6) (by omega) (by omega) (by omega)
          have fin : ∀ wh, wh = (if 6 < r k then b else a) → K 62 [some (.ref 0), some (.int (nI a)), some (.int (nI b)), some (.int (nI m)), some (.int (b1 true)), some (.int (nI k)), some (.int (nI (r k))), some (.int (nI (e % 6))), none] [.int (nI wh)] (wM (nB B) im kp asd rf qt ab be tx ty at9 st9 tk vl wd it mn (nB (tlN B S2 a b)) sb my we be9 rw fr) := by
            intro wh hwh
            rw [← hwh] at hd2
            have hwh6 : wh < 6 := by rw [hwh]; split <;> omega
            have hT2 := tlN_ok (B := B) (i := wh) (j := e % 6) (by omega) (by omega) hT
            have hT2Z := tlN_Z (B := B) (i := wh) (j := e % 6) (by omega) (by omega) hTZ
            have et2 := tlk_nB (B := B) (i := wh) (j := e % 6) (by omega) (by omega) hT hB.2.2.2.2.2.1
            have yes : (e % 6 < B 0 ∧ e % 6 ≠ a ∧ e % 6 ≠ b) → K 92 [some (.ref 0), some (.int (nI a)), some (.int (nI b)), some (.int (nI m)), some (.int (b1 true)), some (.int (nI k)), some (.int (nI (r k))), some (.int (nI (e % 6))), some (.int (nI wh))] [.int 1] (wM (nB B) im kp asd rf qt ab be tx ty at9 st9 tk vl wd it mn (nB (tlN B S2 a b)) sb my we be9 rw fr) := by
              intro h
              rw [if_pos h] at hd2
              refine hK 50 7 92 _ _ _ ?_
              refine ⟨fun q => absurd q (by decide), fun _ => ?_⟩
              refine ⟨_, _, _, _, _, _, _, _, _, _, _, _, _, _, _, _, _, _, _, _, _, _, _, _, wh, e % 6, B 5, tlN B S2 a b wh, tlN B S2 a b (e % 6), rfl, rfl, hwh6, by omega, rfl, rfl, rfl, hT wh hwh6, hT _ (by omega), ?_⟩
              rw [et2]
              exact law _ _ _ hT2 hT2Z hd2
            have no : ¬ (e % 6 < B 0 ∧ e % 6 ≠ a ∧ e % 6 ≠ b) → K 91 [some (.ref 0), some (.int (nI a)), some (.int (nI b)), some (.int (nI m)), some (.int (b1 true)), some (.int (nI k)), some (.int (nI (r k))), some (.int (nI (e % 6))), some (.int (nI wh))] [] (wM (nB B) im kp asd rf qt ab be tx ty at9 st9 tk vl wd it mn (nB (tlN B S2 a b)) sb my we be9 rw fr) := by
              intro h
              rw [if_neg h] at hd2
              have := stop (tlN B S2 a b) (k + 1) (some (.int (nI (r k)))) (some (.int (nI (e % 6)))) (some (.int (nI wh))) hTZ (by omega) hd2
              rw [← nI_1 k] at this
              refine hK 49 21 91 _ _ _ ?_
              exact ⟨fun _ => ⟨fun _ => this, fun y => absurd rfl y⟩, fun y => absurd rfl y⟩
            refine hK 34 15 62 _ _ _ ?_
            refine ⟨0, rfl, by decide, fun y => ?_, fun y => ⟨fun x => ?_, fun x => ⟨fun v => ?_, fun v => ?_⟩⟩⟩
            · have y := (nI_leI (a := B 0) (b := e % 6) (by omega) (by omega)).mp y
              exact no (fun q => by omega)
            · have x := (nI_eq (by omega) (by omega)).mp x
              exact no (fun q => q.2.1 x)
            · have v := (nI_eq (by omega) (by omega)).mp v
              exact no (fun q => q.2.2 v)
            · have y : e % 6 < B 0 := by
                rcases Nat.lt_or_ge (e % 6) (B 0) with q | q
                · exact q
                · exact absurd (nI_le q (by omega)) y
              exact yes ⟨y, fun q => x (by rw [q]), fun q => v (by rw [q])⟩
          refine ⟨by decide, ?_⟩
          rw [em]
          refine ⟨fun y => ?_, fun y => ?_⟩
          · have y := (nI_leI (a := r k) (b := 6) (by omega) (by omega)).mp y
            exact fin a (by rw [if_neg (by omega)])
          · have y : 6 < r k := by
              rcases Nat.lt_or_ge 6 (r k) with q | q
              · exact q
              · exact absurd (nI_le q (by omega)) y
            exact fin b (by rw [if_pos y])
      have b0 := behind (by rw [dnR, hd])
      rw [← hrk] at b0
      refine hK 6 14 10 _ _ _ ?_
      refine ⟨fun z => absurd z (nI_ge (a := k) (b := m) (by omega) (by omega)), fun _ => ⟨fun z => absurd z (by decide), fun _ => ?_⟩⟩
      refine ⟨_, _, _, _, _, _, _, _, _, _, _, _, _, _, _, _, _, _, _, _, _, _, _, _, a, b, B 5, S2 a, S2 b, rfl, rfl, by omega, by omega, rfl, rfl, rfl, hok a (by omega), hok b (by omega), ?_⟩
      rw [et]
      exact ⟨k, rfl, by omega, b0⟩
  refine hK 0 6 0 _ _ _ ?_
  refine ⟨_, _, _, _, _, _, _, _, _, _, _, _, _, _, _, _, _, _, _, _, _, _, _, _, rfl, rfl, fun so' h1 h2 => ?_⟩
  have e := nw_eq hz h1 h2
  subst e
  exact loop m 0 _ (by omega) (nw_ok hB) (nw_Z B) rfl
abbrev rm_X10_dines : Room := { frames := 3, cells := 0, slots := 0, locals := 65 }
set_option maxRecDepth 100000 in
set_option maxHeartbeats 4000000 in
theorem ct_X10_dines (l : Launch) (D : va_G) (dA : Nat → ClassId) (σ : Nat → Nat) : em_CT l D em_cl dA σ (em_F σ) y_X10_dines c_X10_dines 9 (Option.some ClassFile.FieldType.boolean) rm_X10_dines (sp_X10_dines ) := by
  refine em_CT_of (T := T_X10_dines ) (em_F_ok σ) (by decide) (fun p e s m args below meth c A ρ Q C hFok hF hret hlk hin => ?_) (me_X10_dines )
  unfold T_X10_dines
  refine List.forall_mem_cons.mpr ⟨s_aload_n C (by decide +kernel : decode c_X10_dines 0 = .ok (.aload_n 0, 1)) rfl rfl rfl, ?_⟩
  refine List.forall_mem_cons.mpr ⟨s_callV C hFok hF (ct_X10_asNow l D dA σ) ⟨rfl, rfl⟩ ew903 em_cl_X10 ew900 ew902 ewp26 ew6 ⟨by decide, by decide, by decide +kernel⟩ ⟨by decide, by decide⟩ (by decide +kernel : decode c_X10_dines 1 = .ok (.invokevirtual 182, 3)) rfl rfl ⟨Nat.zero_le _, Nat.zero_le _⟩, ?_⟩
  refine List.forall_mem_cons.mpr ⟨s_iconst C (by decide +kernel : decode c_X10_dines 4 = .ok (.iconst 1, 1)) rfl rfl (by decide), ?_⟩
  refine List.forall_mem_cons.mpr ⟨s_istore C (by decide +kernel : decode c_X10_dines 5 = .ok (.istore 4, 2)) rfl rfl (by decide), ?_⟩
  refine List.forall_mem_cons.mpr ⟨s_iconst C (by decide +kernel : decode c_X10_dines 7 = .ok (.iconst 0, 1)) rfl rfl (by decide), ?_⟩
  refine List.forall_mem_cons.mpr ⟨s_istore C (by decide +kernel : decode c_X10_dines 8 = .ok (.istore 5, 2)) rfl rfl (by decide), ?_⟩
  refine List.forall_mem_cons.mpr ⟨s_iload C (by decide +kernel : decode c_X10_dines 10 = .ok (.iload 5, 2)) rfl rfl, ?_⟩
  refine List.forall_mem_cons.mpr ⟨s_iload_n C (by decide +kernel : decode c_X10_dines 12 = .ok (.iload_n 3, 1)) rfl rfl rfl, ?_⟩
  refine List.forall_mem_cons.mpr ⟨s_icmpge C (by decide +kernel : decode c_X10_dines 13 = .ok (.if_icmp .ge 121, 3)) (by decide) rfl rfl rfl, ?_⟩
  refine List.forall_mem_cons.mpr ⟨s_iload C (by decide +kernel : decode c_X10_dines 16 = .ok (.iload 4, 2)) rfl rfl, ?_⟩
  refine List.forall_mem_cons.mpr ⟨s_ifeq C (by decide +kernel : decode c_X10_dines 18 = .ok (.ifCond .eq 116, 3)) (by decide) rfl rfl rfl, ?_⟩
  refine List.forall_mem_cons.mpr ⟨s_aload_n C (by decide +kernel : decode c_X10_dines 21 = .ok (.aload_n 0, 1)) rfl rfl rfl, ?_⟩
  refine List.forall_mem_cons.mpr ⟨s_iload_n C (by decide +kernel : decode c_X10_dines 22 = .ok (.iload_n 1, 1)) rfl rfl rfl, ?_⟩
  refine List.forall_mem_cons.mpr ⟨s_iload_n C (by decide +kernel : decode c_X10_dines 23 = .ok (.iload_n 2, 1)) rfl rfl rfl, ?_⟩
  refine List.forall_mem_cons.mpr ⟨s_callV C hFok hF (ct_X10_talks l D dA σ) ⟨rfl, rfl⟩ ew927 em_cl_X10 ew924 ew926 ewp30 ew6 ⟨by decide, by decide, by decide +kernel⟩ ⟨by decide, by decide⟩ (by decide +kernel : decode c_X10_dines 24 = .ok (.invokevirtual 192, 3)) rfl rfl ⟨Nat.zero_le _, Nat.zero_le _⟩, ?_⟩
  refine List.forall_mem_cons.mpr ⟨s_aload_n C (by decide +kernel : decode c_X10_dines 27 = .ok (.aload_n 0, 1)) rfl rfl rfl, ?_⟩
  refine List.forall_mem_cons.mpr ⟨s_getf C (by decide +kernel : decode c_X10_dines 28 = .ok (.getfield 48, 3)) rfl rfl em_cl_X10 (by decide) ew713 rfl, ?_⟩
  refine List.forall_mem_cons.mpr ⟨s_iload C (by decide +kernel : decode c_X10_dines 31 = .ok (.iload 5, 2)) rfl rfl, ?_⟩
  refine List.forall_mem_cons.mpr ⟨s_iald C (by decide +kernel : decode c_X10_dines 33 = .ok (.iaload, 1)) rfl rfl, ?_⟩
  refine List.forall_mem_cons.mpr ⟨s_istore C (by decide +kernel : decode c_X10_dines 34 = .ok (.istore 6, 2)) rfl rfl (by decide), ?_⟩
  refine List.forall_mem_cons.mpr ⟨s_iload C (by decide +kernel : decode c_X10_dines 36 = .ok (.iload 6, 2)) rfl rfl, ?_⟩
  refine List.forall_mem_cons.mpr ⟨s_ifle C (by decide +kernel : decode c_X10_dines 38 = .ok (.ifCond .le 69, 3)) (by decide) rfl rfl rfl, ?_⟩
  refine List.forall_mem_cons.mpr ⟨s_iload C (by decide +kernel : decode c_X10_dines 41 = .ok (.iload 6, 2)) rfl rfl, ?_⟩
  refine List.forall_mem_cons.mpr ⟨s_iconst C (by decide +kernel : decode c_X10_dines 43 = .ok (.iconst 1, 1)) rfl rfl (by decide), ?_⟩
  refine List.forall_mem_cons.mpr ⟨s_isub C (by decide +kernel : decode c_X10_dines 44 = .ok (.isub, 1)) rfl rfl, ?_⟩
  refine List.forall_mem_cons.mpr ⟨s_bipush C (by decide +kernel : decode c_X10_dines 45 = .ok (.bipush 6, 2)) rfl rfl (by decide), ?_⟩
  refine List.forall_mem_cons.mpr ⟨s_irem C (by decide +kernel : decode c_X10_dines 47 = .ok (.irem, 1)) rfl rfl, ?_⟩
  refine List.forall_mem_cons.mpr ⟨s_istore C (by decide +kernel : decode c_X10_dines 48 = .ok (.istore 7, 2)) rfl rfl (by decide), ?_⟩
  refine List.forall_mem_cons.mpr ⟨s_iload C (by decide +kernel : decode c_X10_dines 50 = .ok (.iload 6, 2)) rfl rfl, ?_⟩
  refine List.forall_mem_cons.mpr ⟨s_bipush C (by decide +kernel : decode c_X10_dines 52 = .ok (.bipush 6, 2)) rfl rfl (by decide), ?_⟩
  refine List.forall_mem_cons.mpr ⟨s_icmple C (by decide +kernel : decode c_X10_dines 54 = .ok (.if_icmp .le 7, 3)) (by decide) rfl rfl rfl, ?_⟩
  refine List.forall_mem_cons.mpr ⟨s_iload_n C (by decide +kernel : decode c_X10_dines 57 = .ok (.iload_n 2, 1)) rfl rfl rfl, ?_⟩
  refine List.forall_mem_cons.mpr ⟨s_goto C (by decide +kernel : decode c_X10_dines 58 = .ok (.goto 4, 3)) (by decide) rfl, ?_⟩
  refine List.forall_mem_cons.mpr ⟨s_iload_n C (by decide +kernel : decode c_X10_dines 61 = .ok (.iload_n 1, 1)) rfl rfl rfl, ?_⟩
  refine List.forall_mem_cons.mpr ⟨s_istore C (by decide +kernel : decode c_X10_dines 62 = .ok (.istore 8, 2)) rfl rfl (by decide), ?_⟩
  refine List.forall_mem_cons.mpr ⟨s_iload C (by decide +kernel : decode c_X10_dines 64 = .ok (.iload 7, 2)) rfl rfl, ?_⟩
  refine List.forall_mem_cons.mpr ⟨s_aload_n C (by decide +kernel : decode c_X10_dines 66 = .ok (.aload_n 0, 1)) rfl rfl rfl, ?_⟩
  refine List.forall_mem_cons.mpr ⟨s_getf C (by decide +kernel : decode c_X10_dines 67 = .ok (.getfield 7, 3)) rfl rfl em_cl_X10 (by decide) ew691 rfl, ?_⟩
  refine List.forall_mem_cons.mpr ⟨s_iconst C (by decide +kernel : decode c_X10_dines 70 = .ok (.iconst 0, 1)) rfl rfl (by decide), ?_⟩
  refine List.forall_mem_cons.mpr ⟨s_iald C (by decide +kernel : decode c_X10_dines 71 = .ok (.iaload, 1)) rfl rfl, ?_⟩
  refine List.forall_mem_cons.mpr ⟨s_icmpge C (by decide +kernel : decode c_X10_dines 72 = .ok (.if_icmp .ge 19, 3)) (by decide) rfl rfl rfl, ?_⟩
  refine List.forall_mem_cons.mpr ⟨s_iload C (by decide +kernel : decode c_X10_dines 75 = .ok (.iload 7, 2)) rfl rfl, ?_⟩
  refine List.forall_mem_cons.mpr ⟨s_iload_n C (by decide +kernel : decode c_X10_dines 77 = .ok (.iload_n 1, 1)) rfl rfl rfl, ?_⟩
  refine List.forall_mem_cons.mpr ⟨s_icmpeq C (by decide +kernel : decode c_X10_dines 78 = .ok (.if_icmp .eq 13, 3)) (by decide) rfl rfl rfl, ?_⟩
  refine List.forall_mem_cons.mpr ⟨s_iload C (by decide +kernel : decode c_X10_dines 81 = .ok (.iload 7, 2)) rfl rfl, ?_⟩
  refine List.forall_mem_cons.mpr ⟨s_iload_n C (by decide +kernel : decode c_X10_dines 83 = .ok (.iload_n 2, 1)) rfl rfl rfl, ?_⟩
  refine List.forall_mem_cons.mpr ⟨s_icmpeq C (by decide +kernel : decode c_X10_dines 84 = .ok (.if_icmp .eq 7, 3)) (by decide) rfl rfl rfl, ?_⟩
  refine List.forall_mem_cons.mpr ⟨s_iconst C (by decide +kernel : decode c_X10_dines 87 = .ok (.iconst 1, 1)) rfl rfl (by decide), ?_⟩
  refine List.forall_mem_cons.mpr ⟨s_goto C (by decide +kernel : decode c_X10_dines 88 = .ok (.goto 4, 3)) (by decide) rfl, ?_⟩
  refine List.forall_mem_cons.mpr ⟨s_iconst C (by decide +kernel : decode c_X10_dines 91 = .ok (.iconst 0, 1)) rfl rfl (by decide), ?_⟩
  refine List.forall_mem_cons.mpr ⟨s_istore C (by decide +kernel : decode c_X10_dines 92 = .ok (.istore 4, 2)) rfl rfl (by decide), ?_⟩
  refine List.forall_mem_cons.mpr ⟨s_iload C (by decide +kernel : decode c_X10_dines 94 = .ok (.iload 4, 2)) rfl rfl, ?_⟩
  refine List.forall_mem_cons.mpr ⟨s_ifeq C (by decide +kernel : decode c_X10_dines 96 = .ok (.ifCond .eq 11, 3)) (by decide) rfl rfl rfl, ?_⟩
  refine List.forall_mem_cons.mpr ⟨s_aload_n C (by decide +kernel : decode c_X10_dines 99 = .ok (.aload_n 0, 1)) rfl rfl rfl, ?_⟩
  refine List.forall_mem_cons.mpr ⟨s_iload C (by decide +kernel : decode c_X10_dines 100 = .ok (.iload 8, 2)) rfl rfl, ?_⟩
  refine List.forall_mem_cons.mpr ⟨s_iload C (by decide +kernel : decode c_X10_dines 102 = .ok (.iload 7, 2)) rfl rfl, ?_⟩
  refine List.forall_mem_cons.mpr ⟨s_callV C hFok hF (ct_X10_talks l D dA σ) ⟨rfl, rfl⟩ ew927 em_cl_X10 ew924 ew926 ewp30 ew6 ⟨by decide, by decide, by decide +kernel⟩ ⟨by decide, by decide⟩ (by decide +kernel : decode c_X10_dines 104 = .ok (.invokevirtual 192, 3)) rfl rfl ⟨Nat.zero_le _, Nat.zero_le _⟩, ?_⟩
  refine List.forall_mem_cons.mpr ⟨s_iload C (by decide +kernel : decode c_X10_dines 107 = .ok (.iload 4, 2)) rfl rfl, ?_⟩
  refine List.forall_mem_cons.mpr ⟨s_ifeq C (by decide +kernel : decode c_X10_dines 109 = .ok (.ifCond .eq 16, 3)) (by decide) rfl rfl rfl, ?_⟩
  refine List.forall_mem_cons.mpr ⟨s_aload_n C (by decide +kernel : decode c_X10_dines 112 = .ok (.aload_n 0, 1)) rfl rfl rfl, ?_⟩
  refine List.forall_mem_cons.mpr ⟨s_iload_n C (by decide +kernel : decode c_X10_dines 113 = .ok (.iload_n 1, 1)) rfl rfl rfl, ?_⟩
  refine List.forall_mem_cons.mpr ⟨s_iload_n C (by decide +kernel : decode c_X10_dines 114 = .ok (.iload_n 2, 1)) rfl rfl rfl, ?_⟩
  refine List.forall_mem_cons.mpr ⟨s_callV C hFok hF (ct_X10_isLawful l D dA σ) ⟨rfl, rfl⟩ ew907 em_cl_X10 ew904 ew906 ewp27 ew6 ⟨by decide, by decide, by decide +kernel⟩ ⟨by decide, by decide⟩ (by decide +kernel : decode c_X10_dines 115 = .ok (.invokevirtual 185, 3)) rfl rfl ⟨Nat.zero_le _, Nat.zero_le _⟩, ?_⟩
  refine List.forall_mem_cons.mpr ⟨s_ifeq C (by decide +kernel : decode c_X10_dines 118 = .ok (.ifCond .eq 7, 3)) (by decide) rfl rfl rfl, ?_⟩
  refine List.forall_mem_cons.mpr ⟨s_iconst C (by decide +kernel : decode c_X10_dines 121 = .ok (.iconst 1, 1)) rfl rfl (by decide), ?_⟩
  refine List.forall_mem_cons.mpr ⟨s_goto C (by decide +kernel : decode c_X10_dines 122 = .ok (.goto 4, 3)) (by decide) rfl, ?_⟩
  refine List.forall_mem_cons.mpr ⟨s_iconst C (by decide +kernel : decode c_X10_dines 125 = .ok (.iconst 0, 1)) rfl rfl (by decide), ?_⟩
  refine List.forall_mem_cons.mpr ⟨s_istore C (by decide +kernel : decode c_X10_dines 126 = .ok (.istore 4, 2)) rfl rfl (by decide), ?_⟩
  refine List.forall_mem_cons.mpr ⟨s_iinc C (by decide +kernel : decode c_X10_dines 128 = .ok (.iinc 5 1, 3)) rfl rfl (by decide) (by decide), ?_⟩
  refine List.forall_mem_cons.mpr ⟨s_goto C (by decide +kernel : decode c_X10_dines 131 = .ok (.goto (-121), 3)) (by decide) rfl, ?_⟩
  refine List.forall_mem_cons.mpr ⟨s_iload C (by decide +kernel : decode c_X10_dines 134 = .ok (.iload 4, 2)) rfl rfl, ?_⟩
  refine List.forall_mem_cons.mpr ⟨s_zret C (by decide +kernel : decode c_X10_dines 136 = .ok (.ireturn, 1)) hret hlk ⟨Nat.le_refl 0, Nat.le_refl 0⟩, ?_⟩
  exact fun _ h => absurd h List.not_mem_nil
