/-! ===== wed ===== -/
def Z6i (f : Nat → Int32) : Prop := ∀ p, 6 ≤ p → f p = 0
theorem Z6_i {S : Nat → Nat} (h : Z6 S) : Z6i (nB S) := fun p hp => by unfold nB; rw [h p hp]; rfl
def maI (B S : Nat → Nat) (a : Nat) (M : Nat → Nat) : Nat → Nat → Nat
  | 0 => M
  | b + 1 => un (maI B S a M b) a (maI B S a M b a &&& (if isL B S a b = true then 63 else c10 (2 ^ b)))
def maO (B S : Nat → Nat) (M : Nat → Nat) : Nat → Nat → Nat
  | 0 => M
  | a + 1 => maI B S a (maO B S M a) (B 0)
def may0 : Nat → Nat := fun p => if p < 6 then 63 &&& c10 (2 ^ p) else 0
def maK (B : Nat → Nat) : Nat → Nat → Nat
  | 0 => may0
  | k + 1 => maO B (trN B k) (maK B k) (B 0)
theorem maI_ok {B S : Nat → Nat} {a : Nat} {M : Nat → Nat} (h : ∀ p, M p < 64) : ∀ b p, maI B S a M b p < 64
  | 0, p => h p
  | b + 1, p => by
    rw [maI]
    unfold un
    split
    · exact Nat.lt_of_le_of_lt Nat.and_le_left (maI_ok h b a)
    · exact maI_ok h b p
theorem maO_ok {B S : Nat → Nat} {M : Nat → Nat} (h : ∀ p, M p < 64) : ∀ a p, maO B S M a p < 64
  | 0, p => h p
  | a + 1, p => by rw [maO]; exact maI_ok (maO_ok h a) _ p
theorem may0_ok (p : Nat) : may0 p < 64 := by
  unfold may0
  split
  · exact Nat.lt_of_le_of_lt Nat.and_le_left (by omega)
  · omega
theorem maK_ok {B : Nat → Nat} : ∀ k p, maK B k p < 64
  | 0, p => may0_ok p
  | k + 1, p => by rw [maK]; exact maO_ok (maK_ok k) _ p
theorem maI_Z {B S : Nat → Nat} {a : Nat} {M : Nat → Nat} (ha : a < 6) (h : Z6 M) : ∀ b, Z6 (maI B S a M b)
  | 0 => h
  | b + 1 => fun p hp => by rw [maI, un_n (by omega)]; exact maI_Z ha h b p hp
theorem maO_Z {B S : Nat → Nat} {M : Nat → Nat} (h : Z6 M) : ∀ a, a ≤ 6 → Z6 (maO B S M a)
  | 0, _ => h
  | a + 1, ha => fun p hp => by rw [maO]; exact maI_Z (by omega) (maO_Z h a (by omega)) _ p hp
theorem maK_Z {B : Nat → Nat} (h0 : B 0 ≤ 6) : ∀ k, Z6 (maK B k)
  | 0 => fun p hp => if_neg (by omega)
  | k + 1 => by rw [maK]; exact maO_Z (maK_Z h0 k) _ h0
def sp_X10_allows : em_Sp := fun av hp Q => ∃ B im kp asd rf qt ab be tx ty at9 st9 tk vl wd it mn S sb my we be9 rw fr k, av = [.ref 0, .int (nI k)] ∧ hp = (wM (nB B) im kp asd rf qt ab be tx ty at9 st9 tk vl wd it mn (nB S) sb my we be9 rw fr) ∧ GK B ∧ Z6 S ∧ Z6i my ∧ k ≤ 40 ∧ Q none (wM (nB B) im kp asd rf qt ab be tx ty at9 st9 tk vl wd it mn (nB (trN B (k + 1))) sb (nB (maK B (k + 1))) we be9 rw fr)
def T_X10_allows : List (Nat × em_Op) := [(0, o_iconst 0 1), (1, o_istore 2 2), (2, o_iload 2 3), (3, o_iconst 6 5), (5, o_icmpge 28 8), (8, o_aload 0 9), (9, o_getf 5 19 12), (12, o_iload 2 13), (13, o_iconst 63 15), (15, o_iconst 1 16), (16, o_iload 2 17), (17, o_ishl 18), (18, o_iconst (-1) 19), (19, o_ixor 20), (20, o_iand 21), (21, o_iast 22), (22, o_iinc 2 1 25), (25, o_goto 2), (28, o_aload 0 29), (29, o_call 1 (some 5) (sp_X10_asNow) 32), (32, o_iconst 0 33), (33, o_istore 2 34), (34, o_iload 2 35), (35, o_iload 1 36), (36, o_icmpgt 125 39), (39, o_iconst 0 40), (40, o_istore 3 41), (41, o_iload 3 42), (42, o_aload 0 43), (43, o_getf 5 0 46), (46, o_iconst 0 47), (47, o_aldI 0 48), (48, o_icmpge 107 51), (51, o_iconst 0 52), (52, o_istore 4 54), (54, o_iload 4 56), (56, o_aload 0 57), (57, o_getf 5 0 60), (60, o_iconst 0 61), (61, o_aldI 0 62), (62, o_icmpge 101 65), (65, o_aload 0 66), (66, o_getf 5 19 69), (69, o_iload 3 70), (70, o_dup2 71), (71, o_aldI 0 72), (72, o_aload 0 73), (73, o_iload 3 74), (74, o_iload 4 76), (76, o_call 3 (some 5) (sp_X10_isLawful) 79), (79, o_ifeq 87 82), (82, o_iconst 63 84), (84, o_goto 93), (87, o_iconst 1 88), (88, o_iload 4 90), (90, o_ishl 91), (91, o_iconst (-1) 92), (92, o_ixor 93), (93, o_iand 94), (94, o_iast 95), (95, o_iinc 4 1 98), (98, o_goto 54), (101, o_iinc 3 1 104), (104, o_goto 41), (107, o_aload 0 108), (108, o_aload 0 109), (109, o_getf 5 0 112), (112, o_iconst 2 113), (113, o_aldI 0 114), (114, o_iload 2 115), (115, o_iadd 116), (116, o_call 2 (some 5) (sp_X10_goes) 119), (119, o_iinc 2 1 122), (122, o_goto 34), (125, o_vret)]
theorem me_X10_allows : em_Me T_X10_allows 5 sp_X10_allows := by
  intro Q K hK hle av hp hs
  obtain ⟨B, im, kp, asd, rf, qt, ab, be, tx, ty, at9, st9, tk, vl, wd, it, mn, S, sb, my, we, be9, rw, fr, k, rfl, rfl, hB, hz, hy, hk, hq⟩ := hs
  have h0 := hB.1
  have hb2 := hB.2.2.1
  refine ⟨Nat.le_of_ble_eq_true rfl, ?_⟩
  have main : ∀ (r t : Nat), t + r = k + 1 → K 34 [some (.ref 0), some (.int (nI k)), some (.int (nI t)), none, none] [] (wM (nB B) im kp asd rf qt ab be tx ty at9 st9 tk vl wd it mn (nB (trN B t)) sb (nB (maK B t)) we be9 rw fr) := by
    intro r
    induction r with
    | zero =>
      intro t ht
      have ht : t = k + 1 := by omega
      subst ht
      refine hK 22 9999 34 _ _ _ ?_
      exact ⟨fun _ => hq, fun z => absurd (nI_lt (a := k) (b := k + 1) (by omega) (by omega)) z⟩
    | succ r ih =>
      intro t ht
      have hT := trN_ok hB t
      generalize hM0 : maK B t = M0
      have hM0ok : ∀ p, M0 p < 64 := fun p => by rw [← hM0]; exact maK_ok t p
      have outer : ∀ (q a : Nat), a + q = B 0 → K 41 [some (.ref 0), some (.int (nI k)), some (.int (nI t)), some (.int (nI a)), none] [] (wM (nB B) im kp asd rf qt ab be tx ty at9 st9 tk vl wd it mn (nB (trN B t)) sb (nB (maO B (trN B t) M0 a)) we be9 rw fr) := by
        intro q
        induction q with
        | zero =>
          intro a ha
          have ha : a = B 0 := by omega
          subst ha
          have := ih (t + 1) (by omega)
          rw [← nI_1 t, trN, maK, hM0] at this
          refine hK 27 9999 41 _ _ _ ?_
          refine ⟨0, rfl, by decide, fun _ => ?_, fun z => absurd (nI_le (Nat.le_refl (B 0)) (by omega)) z⟩
          exact ⟨2, rfl, by decide, _, _, _, _, _, _, _, _, _, _, _, _, _, _, _, _, _, _, _, _, _, _, _, _, B 2 + t, (by show [Value.ref 0, Value.int (nI (B 2) + nI t)] = _; rw [nI_add]), rfl, hB, hT, by omega, hle _ _ _ _ _ (by repeat (first | exact trivial | refine ⟨rfl, ?_⟩)) this⟩
        | succ q ihq =>
          intro a ha
          have hnx := ihq (a + 1) (by omega)
          rw [maO, ← nI_1 a] at hnx
          generalize hM : maO B (trN B t) M0 a = M at hnx
          have hMok : ∀ p, M p < 64 := fun p => by rw [← hM]; exact maO_ok hM0ok a p
          have inner : ∀ (w b : Nat), b + w = B 0 → K 54 [some (.ref 0), some (.int (nI k)), some (.int (nI t)), some (.int (nI a)), some (.int (nI b))] [] (wM (nB B) im kp asd rf qt ab be tx ty at9 st9 tk vl wd it mn (nB (trN B t)) sb (nB (maI B (trN B t) a M b)) we be9 rw fr) := by
            intro w
            induction w with
            | zero =>
              intro b hb
              have hb : b = B 0 := by omega
              subst hb
              refine hK 35 29 54 _ _ _ ?_
              exact ⟨0, rfl, by decide, fun _ => hle _ _ _ _ _ (by repeat (first | exact trivial | refine ⟨rfl, ?_⟩)) hnx, fun y => absurd (nI_le (Nat.le_refl (B 0)) (by omega)) y⟩
            | succ w ihw =>
              intro b hb
              have hlt := maI_ok (B := B) (S := trN B t) (a := a) hMok b a
              have nx : ∀ v, nI (maI B (trN B t) a M b a) &&& v = nI (maI B (trN B t) a M b a &&& (if isL B (trN B t) a b = true then 63 else c10 (2 ^ b))) → K 93 [some (.ref 0), some (.int (nI k)), some (.int (nI t)), some (.int (nI a)), some (.int (nI b))] [.int v, .int (nI (maI B (trN B t) a M b a)), .int (nI a), .ref 10] (wM (nB B) im kp asd rf qt ab be tx ty at9 st9 tk vl wd it mn (nB (trN B t)) sb (nB (maI B (trN B t) a M b)) we be9 rw fr) := by
                intro v hv
                have := ihw (b + 1) (by omega)
                rw [maI, nB_un, ← hv, ← nI_1 b] at this
                refine hK 58 4 93 _ _ _ ?_
                exact ⟨a, rfl, by omega, this⟩
              refine hK 35 23 54 _ _ _ ?_
              refine ⟨0, rfl, by decide, fun z => absurd z (by show ¬ nI (B 0) ≤ nI b; exact nI_ge (by omega) (by omega)), fun _ => ?_⟩
              refine ⟨a, rfl, by omega, ?_⟩
              refine ⟨_, _, _, _, _, _, _, _, _, _, _, _, _, _, _, _, _, _, _, _, _, _, _, _, a, b, rfl, rfl, by omega, by omega, fun u => ?_, fun u => ?_⟩
              · have u := (lw_isL hB.2.2.2.1 hB.2.2.2.2.1 (hT a (by omega)) (hT b (by omega))).mp u
                refine ⟨fun y => absurd y (by decide), fun _ => ?_⟩
                exact nx _ (by rw [if_pos u]; exact nI_and _ 63)
              · have u := isL_f hB.2.2.2.1 hB.2.2.2.2.1 (hT a (by omega)) (hT b (by omega)) u
                refine ⟨fun _ => ?_, fun y => absurd rfl y⟩
                exact nx _ (by rw [if_neg (by rw [u]; exact Bool.false_ne_true), shl_nI b (by omega)]; exact and_c10 (by omega) _)
          have i0 := inner (B 0) 0 (by omega)
          rw [maI] at i0
          refine hK 27 8 41 _ _ _ ?_
          refine ⟨0, rfl, by decide, fun z => absurd z (by show ¬ nI (B 0) ≤ nI a; exact nI_ge (by omega) (by omega)), fun _ => ?_⟩
          exact i0
      have o0 := outer (B 0) 0 (by omega)
      rw [maO] at o0
      refine hK 22 5 34 _ _ _ ?_
      exact ⟨fun z => absurd z (nI_nlt (a := k) (b := t) (by omega) (by omega)), fun _ => o0⟩
  have first : ∀ (r p : Nat) (my' : Nat → Int32), p + r = 6 → (∀ j, j < p → my' j = nB may0 j) → Z6i my' → K 2 [some (.ref 0), some (.int (nI k)), some (.int (nI p)), none, none] [] (wM (nB B) im kp asd rf qt ab be tx ty at9 st9 tk vl wd it mn (nB S) sb (my') we be9 rw fr) := by
    intro r
    induction r with
    | zero =>
      intro p my' hp hj hz6
      have hp : p = 6 := by omega
      subst hp
      have e : my' = nB may0 := by
        funext j
        by_cases h : j < 6
        · exact hj j h
        · rw [hz6 j (by omega)]; unfold nB may0; rw [if_neg h]; rfl
      subst e
      refine hK 2 20 2 _ _ _ ?_
      refine ⟨fun _ => ?_, fun z => absurd (nI_le (a := 6) (b := 6) (by omega) (by omega)) z⟩
      refine ⟨_, _, _, _, _, _, _, _, _, _, _, _, _, _, _, _, _, _, _, _, _, _, _, _, rfl, rfl, fun so' h1 h2 => ?_⟩
      have e := nw_eq hz h1 h2
      subst e
      exact main (k + 1) 0 (by omega)
    | succ r ih =>
      intro p my' hp hj hz6
      have e : (63 : Int32) &&& (((1 : Int32) <<< (nI p &&& 31)) ^^^ (-1)) = nI (63 &&& c10 (2 ^ p)) := by
        rw [shl_nI p (by omega)]; exact and_c10 (a := 63) (by omega) _
      have := ih (p + 1) (upd my' p (nI (63 &&& c10 (2 ^ p)))) (by omega) (fun j hj2 => by
        by_cases h : j = p
        · subst h; rw [pk_us]; unfold nB may0; rw [if_pos (by omega)]
        · rw [pk_un h]; exact hj j (by omega)) (fun j hj2 => by rw [pk_un (by omega)]; exact hz6 j hj2)
      rw [← nI_1 p, ← e] at this
      refine hK 2 20 2 _ _ _ ?_
      refine ⟨fun z => absurd z (nI_ge (a := p) (b := 6) (by omega) (by omega)), fun _ => ?_⟩
      exact ⟨p, rfl, by omega, this⟩
  exact hK 0 2 0 _ _ _ (first 6 0 my rfl (fun j h => by omega) hy)
abbrev rm_X10_allows : Room := { frames := 3, cells := 0, slots := 0, locals := 83 }
set_option maxRecDepth 100000 in
set_option maxHeartbeats 4000000 in
theorem ct_X10_allows (l : Launch) (D : va_G) (dA : Nat → ClassId) (σ : Nat → Nat) : em_CT l D em_cl dA σ (em_F σ) y_X10_allows c_X10_allows 5 (Option.none : Option ClassFile.FieldType) rm_X10_allows (sp_X10_allows ) := by
  refine em_CT_of (T := T_X10_allows ) (em_F_ok σ) (by decide) (fun p e s m args below meth c A ρ Q C hFok hF hret hlk hin => ?_) (me_X10_allows )
  unfold T_X10_allows
  refine List.forall_mem_cons.mpr ⟨s_iconst C (by decide +kernel : decode c_X10_allows 0 = .ok (.iconst 0, 1)) rfl rfl (by decide), ?_⟩
  refine List.forall_mem_cons.mpr ⟨s_istore_n C (by decide +kernel : decode c_X10_allows 1 = .ok (.istore_n 2, 1)) rfl rfl rfl (by decide), ?_⟩
  refine List.forall_mem_cons.mpr ⟨s_iload_n C (by decide +kernel : decode c_X10_allows 2 = .ok (.iload_n 2, 1)) rfl rfl rfl, ?_⟩
  refine List.forall_mem_cons.mpr ⟨s_bipush C (by decide +kernel : decode c_X10_allows 3 = .ok (.bipush 6, 2)) rfl rfl (by decide), ?_⟩
  refine List.forall_mem_cons.mpr ⟨s_icmpge C (by decide +kernel : decode c_X10_allows 5 = .ok (.if_icmp .ge 23, 3)) (by decide) rfl rfl rfl, ?_⟩
  refine List.forall_mem_cons.mpr ⟨s_aload_n C (by decide +kernel : decode c_X10_allows 8 = .ok (.aload_n 0, 1)) rfl rfl rfl, ?_⟩
  refine List.forall_mem_cons.mpr ⟨s_getf C (by decide +kernel : decode c_X10_allows 9 = .ok (.getfield 39, 3)) rfl rfl em_cl_X10 (by decide) ew710 rfl, ?_⟩
  refine List.forall_mem_cons.mpr ⟨s_iload_n C (by decide +kernel : decode c_X10_allows 12 = .ok (.iload_n 2, 1)) rfl rfl rfl, ?_⟩
  refine List.forall_mem_cons.mpr ⟨s_bipush C (by decide +kernel : decode c_X10_allows 13 = .ok (.bipush 63, 2)) rfl rfl (by decide), ?_⟩
  refine List.forall_mem_cons.mpr ⟨s_iconst C (by decide +kernel : decode c_X10_allows 15 = .ok (.iconst 1, 1)) rfl rfl (by decide), ?_⟩
  refine List.forall_mem_cons.mpr ⟨s_iload_n C (by decide +kernel : decode c_X10_allows 16 = .ok (.iload_n 2, 1)) rfl rfl rfl, ?_⟩
  refine List.forall_mem_cons.mpr ⟨s_ishl C (by decide +kernel : decode c_X10_allows 17 = .ok (.ishl, 1)) rfl rfl, ?_⟩
  refine List.forall_mem_cons.mpr ⟨s_iconst C (by decide +kernel : decode c_X10_allows 18 = .ok (.iconst (-1), 1)) rfl rfl (by decide), ?_⟩
  refine List.forall_mem_cons.mpr ⟨s_ixor C (by decide +kernel : decode c_X10_allows 19 = .ok (.ixor, 1)) rfl rfl, ?_⟩
  refine List.forall_mem_cons.mpr ⟨s_iand C (by decide +kernel : decode c_X10_allows 20 = .ok (.iand, 1)) rfl rfl, ?_⟩
  refine List.forall_mem_cons.mpr ⟨s_iast C (by decide +kernel : decode c_X10_allows 21 = .ok (.iastore, 1)) rfl rfl, ?_⟩
  refine List.forall_mem_cons.mpr ⟨s_iinc C (by decide +kernel : decode c_X10_allows 22 = .ok (.iinc 2 1, 3)) rfl rfl (by decide) (by decide), ?_⟩
  refine List.forall_mem_cons.mpr ⟨s_goto C (by decide +kernel : decode c_X10_allows 25 = .ok (.goto (-23), 3)) (by decide) rfl, ?_⟩
  refine List.forall_mem_cons.mpr ⟨s_aload_n C (by decide +kernel : decode c_X10_allows 28 = .ok (.aload_n 0, 1)) rfl rfl rfl, ?_⟩
  refine List.forall_mem_cons.mpr ⟨s_callV C hFok hF (ct_X10_asNow l D dA σ) ⟨rfl, rfl⟩ ew903 em_cl_X10 ew900 ew902 ewp26 ew6 ⟨by decide, by decide, by decide +kernel⟩ ⟨by decide, by decide⟩ (by decide +kernel : decode c_X10_allows 29 = .ok (.invokevirtual 182, 3)) rfl rfl ⟨Nat.zero_le _, Nat.zero_le _⟩, ?_⟩
  refine List.forall_mem_cons.mpr ⟨s_iconst C (by decide +kernel : decode c_X10_allows 32 = .ok (.iconst 0, 1)) rfl rfl (by decide), ?_⟩
  refine List.forall_mem_cons.mpr ⟨s_istore_n C (by decide +kernel : decode c_X10_allows 33 = .ok (.istore_n 2, 1)) rfl rfl rfl (by decide), ?_⟩
  refine List.forall_mem_cons.mpr ⟨s_iload_n C (by decide +kernel : decode c_X10_allows 34 = .ok (.iload_n 2, 1)) rfl rfl rfl, ?_⟩
  refine List.forall_mem_cons.mpr ⟨s_iload_n C (by decide +kernel : decode c_X10_allows 35 = .ok (.iload_n 1, 1)) rfl rfl rfl, ?_⟩
  refine List.forall_mem_cons.mpr ⟨s_icmpgt C (by decide +kernel : decode c_X10_allows 36 = .ok (.if_icmp .gt 89, 3)) (by decide) rfl rfl rfl, ?_⟩
  refine List.forall_mem_cons.mpr ⟨s_iconst C (by decide +kernel : decode c_X10_allows 39 = .ok (.iconst 0, 1)) rfl rfl (by decide), ?_⟩
  refine List.forall_mem_cons.mpr ⟨s_istore_n C (by decide +kernel : decode c_X10_allows 40 = .ok (.istore_n 3, 1)) rfl rfl rfl (by decide), ?_⟩
  refine List.forall_mem_cons.mpr ⟨s_iload_n C (by decide +kernel : decode c_X10_allows 41 = .ok (.iload_n 3, 1)) rfl rfl rfl, ?_⟩
  refine List.forall_mem_cons.mpr ⟨s_aload_n C (by decide +kernel : decode c_X10_allows 42 = .ok (.aload_n 0, 1)) rfl rfl rfl, ?_⟩
  refine List.forall_mem_cons.mpr ⟨s_getf C (by decide +kernel : decode c_X10_allows 43 = .ok (.getfield 7, 3)) rfl rfl em_cl_X10 (by decide) ew691 rfl, ?_⟩
  refine List.forall_mem_cons.mpr ⟨s_iconst C (by decide +kernel : decode c_X10_allows 46 = .ok (.iconst 0, 1)) rfl rfl (by decide), ?_⟩
  refine List.forall_mem_cons.mpr ⟨s_iald C (by decide +kernel : decode c_X10_allows 47 = .ok (.iaload, 1)) rfl rfl, ?_⟩
  refine List.forall_mem_cons.mpr ⟨s_icmpge C (by decide +kernel : decode c_X10_allows 48 = .ok (.if_icmp .ge 59, 3)) (by decide) rfl rfl rfl, ?_⟩
  refine List.forall_mem_cons.mpr ⟨s_iconst C (by decide +kernel : decode c_X10_allows 51 = .ok (.iconst 0, 1)) rfl rfl (by decide), ?_⟩
  refine List.forall_mem_cons.mpr ⟨s_istore C (by decide +kernel : decode c_X10_allows 52 = .ok (.istore 4, 2)) rfl rfl (by decide), ?_⟩
  refine List.forall_mem_cons.mpr ⟨s_iload C (by decide +kernel : decode c_X10_allows 54 = .ok (.iload 4, 2)) rfl rfl, ?_⟩
  refine List.forall_mem_cons.mpr ⟨s_aload_n C (by decide +kernel : decode c_X10_allows 56 = .ok (.aload_n 0, 1)) rfl rfl rfl, ?_⟩
  refine List.forall_mem_cons.mpr ⟨s_getf C (by decide +kernel : decode c_X10_allows 57 = .ok (.getfield 7, 3)) rfl rfl em_cl_X10 (by decide) ew691 rfl, ?_⟩
  refine List.forall_mem_cons.mpr ⟨s_iconst C (by decide +kernel : decode c_X10_allows 60 = .ok (.iconst 0, 1)) rfl rfl (by decide), ?_⟩
  refine List.forall_mem_cons.mpr ⟨s_iald C (by decide +kernel : decode c_X10_allows 61 = .ok (.iaload, 1)) rfl rfl, ?_⟩
  refine List.forall_mem_cons.mpr ⟨s_icmpge C (by decide +kernel : decode c_X10_allows 62 = .ok (.if_icmp .ge 39, 3)) (by decide) rfl rfl rfl, ?_⟩
  refine List.forall_mem_cons.mpr ⟨s_aload_n C (by decide +kernel : decode c_X10_allows 65 = .ok (.aload_n 0, 1)) rfl rfl rfl, ?_⟩
  refine List.forall_mem_cons.mpr ⟨s_getf C (by decide +kernel : decode c_X10_allows 66 = .ok (.getfield 39, 3)) rfl rfl em_cl_X10 (by decide) ew710 rfl, ?_⟩
  refine List.forall_mem_cons.mpr ⟨s_iload_n C (by decide +kernel : decode c_X10_allows 69 = .ok (.iload_n 3, 1)) rfl rfl rfl, ?_⟩
  refine List.forall_mem_cons.mpr ⟨s_dup2 C (by decide +kernel : decode c_X10_allows 70 = .ok (.dup2, 1)) rfl rfl, ?_⟩
  refine List.forall_mem_cons.mpr ⟨s_iald C (by decide +kernel : decode c_X10_allows 71 = .ok (.iaload, 1)) rfl rfl, ?_⟩
  refine List.forall_mem_cons.mpr ⟨s_aload_n C (by decide +kernel : decode c_X10_allows 72 = .ok (.aload_n 0, 1)) rfl rfl rfl, ?_⟩
  refine List.forall_mem_cons.mpr ⟨s_iload_n C (by decide +kernel : decode c_X10_allows 73 = .ok (.iload_n 3, 1)) rfl rfl rfl, ?_⟩
  refine List.forall_mem_cons.mpr ⟨s_iload C (by decide +kernel : decode c_X10_allows 74 = .ok (.iload 4, 2)) rfl rfl, ?_⟩
  refine List.forall_mem_cons.mpr ⟨s_callV C hFok hF (ct_X10_isLawful l D dA σ) ⟨rfl, rfl⟩ ew907 em_cl_X10 ew904 ew906 ewp27 ew6 ⟨by decide, by decide, by decide +kernel⟩ ⟨by decide, by decide⟩ (by decide +kernel : decode c_X10_allows 76 = .ok (.invokevirtual 185, 3)) rfl rfl ⟨Nat.zero_le _, Nat.zero_le _⟩, ?_⟩
  refine List.forall_mem_cons.mpr ⟨s_ifeq C (by decide +kernel : decode c_X10_allows 79 = .ok (.ifCond .eq 8, 3)) (by decide) rfl rfl rfl, ?_⟩
  refine List.forall_mem_cons.mpr ⟨s_bipush C (by decide +kernel : decode c_X10_allows 82 = .ok (.bipush 63, 2)) rfl rfl (by decide), ?_⟩
  refine List.forall_mem_cons.mpr ⟨s_goto C (by decide +kernel : decode c_X10_allows 84 = .ok (.goto 9, 3)) (by decide) rfl, ?_⟩
  refine List.forall_mem_cons.mpr ⟨s_iconst C (by decide +kernel : decode c_X10_allows 87 = .ok (.iconst 1, 1)) rfl rfl (by decide), ?_⟩
  refine List.forall_mem_cons.mpr ⟨s_iload C (by decide +kernel : decode c_X10_allows 88 = .ok (.iload 4, 2)) rfl rfl, ?_⟩
  refine List.forall_mem_cons.mpr ⟨s_ishl C (by decide +kernel : decode c_X10_allows 90 = .ok (.ishl, 1)) rfl rfl, ?_⟩
  refine List.forall_mem_cons.mpr ⟨s_iconst C (by decide +kernel : decode c_X10_allows 91 = .ok (.iconst (-1), 1)) rfl rfl (by decide), ?_⟩
  refine List.forall_mem_cons.mpr ⟨s_ixor C (by decide +kernel : decode c_X10_allows 92 = .ok (.ixor, 1)) rfl rfl, ?_⟩
  refine List.forall_mem_cons.mpr ⟨s_iand C (by decide +kernel : decode c_X10_allows 93 = .ok (.iand, 1)) rfl rfl, ?_⟩
  refine List.forall_mem_cons.mpr ⟨s_iast C (by decide +kernel : decode c_X10_allows 94 = .ok (.iastore, 1)) rfl rfl, ?_⟩
  refine List.forall_mem_cons.mpr ⟨s_iinc C (by decide +kernel : decode c_X10_allows 95 = .ok (.iinc 4 1, 3)) rfl rfl (by decide) (by decide), ?_⟩
  refine List.forall_mem_cons.mpr ⟨s_goto C (by decide +kernel : decode c_X10_allows 98 = .ok (.goto (-44), 3)) (by decide) rfl, ?_⟩
  refine List.forall_mem_cons.mpr ⟨s_iinc C (by decide +kernel : decode c_X10_allows 101 = .ok (.iinc 3 1, 3)) rfl rfl (by decide) (by decide), ?_⟩
  refine List.forall_mem_cons.mpr ⟨s_goto C (by decide +kernel : decode c_X10_allows 104 = .ok (.goto (-63), 3)) (by decide) rfl, ?_⟩
  refine List.forall_mem_cons.mpr ⟨s_aload_n C (by decide +kernel : decode c_X10_allows 107 = .ok (.aload_n 0, 1)) rfl rfl rfl, ?_⟩
  refine List.forall_mem_cons.mpr ⟨s_aload_n C (by decide +kernel : decode c_X10_allows 108 = .ok (.aload_n 0, 1)) rfl rfl rfl, ?_⟩
  refine List.forall_mem_cons.mpr ⟨s_getf C (by decide +kernel : decode c_X10_allows 109 = .ok (.getfield 7, 3)) rfl rfl em_cl_X10 (by decide) ew691 rfl, ?_⟩
  refine List.forall_mem_cons.mpr ⟨s_iconst C (by decide +kernel : decode c_X10_allows 112 = .ok (.iconst 2, 1)) rfl rfl (by decide), ?_⟩
  refine List.forall_mem_cons.mpr ⟨s_iald C (by decide +kernel : decode c_X10_allows 113 = .ok (.iaload, 1)) rfl rfl, ?_⟩
  refine List.forall_mem_cons.mpr ⟨s_iload_n C (by decide +kernel : decode c_X10_allows 114 = .ok (.iload_n 2, 1)) rfl rfl rfl, ?_⟩
  refine List.forall_mem_cons.mpr ⟨s_iadd C (by decide +kernel : decode c_X10_allows 115 = .ok (.iadd, 1)) rfl rfl, ?_⟩
  refine List.forall_mem_cons.mpr ⟨s_callV C hFok hF (ct_X10_goes l D dA σ) ⟨rfl, rfl⟩ ew923 em_cl_X10 ew920 ew922 ewp29 ew6 ⟨by decide, by decide, by decide +kernel⟩ ⟨by decide, by decide⟩ (by decide +kernel : decode c_X10_allows 116 = .ok (.invokevirtual 199, 3)) rfl rfl ⟨Nat.zero_le _, Nat.zero_le _⟩, ?_⟩
  refine List.forall_mem_cons.mpr ⟨s_iinc C (by decide +kernel : decode c_X10_allows 119 = .ok (.iinc 2 1, 3)) rfl rfl (by decide) (by decide), ?_⟩
  refine List.forall_mem_cons.mpr ⟨s_goto C (by decide +kernel : decode c_X10_allows 122 = .ok (.goto (-88), 3)) (by decide) rfl, ?_⟩
  refine List.forall_mem_cons.mpr ⟨s_vret C (by decide +kernel : decode c_X10_allows 125 = .ok (.return_, 1)) hret hlk ⟨Nat.le_refl 0, Nat.le_refl 0⟩, ?_⟩
  exact fun _ h => absurd h List.not_mem_nil
/-- one of who is whose, told by a number -/
def dgt (n c p : Nat) : Nat := c / (n + 1) ^ (n - 1 - p) % (n + 1)
def canP (n : Nat) (M : Nat → Nat) (c p : Nat) : Bool := decide (dgt n c p = 0) || (decide (dgt n c (dgt n c p - 1) = p + 1) && (M p).testBit (dgt n c p - 1))
def canR (n : Nat) (M : Nat → Nat) (c : Nat) : Nat → Bool
  | 0 => true
  | p + 1 => canR n M c p && canP n M c p
def wdR (n c : Nat) : Nat → Nat
  | 0 => 0
  | p + 1 => wdR n c p + (if dgt n c p = 0 then 0 else 1)
def bsW (n : Nat) (M : Nat → Nat) : Nat → Option Nat
  | 0 => none
  | c + 1 => match bsW n M c with
    | none => if canR n M c n = true then some c else none
    | some d => if (canR n M c n && decide (wdR n d n < wdR n c n)) = true then some c else some d
def mstI (n : Nat) : Option Nat → Int32
  | none => -1
  | some d => nI (wdR n d n)
theorem canR_f {n : Nat} {M : Nat → Nat} {c p : Nat} (h : canR n M c p = false) : ∀ k, canR n M c (p + k) = false
  | 0 => h
  | k + 1 => by rw [← Nat.add_assoc, canR, canR_f h k]; rfl
theorem wdR_le {n c : Nat} : ∀ p, wdR n c p ≤ p
  | 0 => Nat.le_refl _
  | p + 1 => by
    have := wdR_le (n := n) (c := c) p
    rw [wdR]; split <;> omega
theorem dgt_0 (n p : Nat) : dgt n 0 p = 0 := by unfold dgt; rw [Nat.zero_div, Nat.zero_mod]
theorem canR_0 {n : Nat} {M : Nat → Nat} : ∀ p, canR n M 0 p = true
  | 0 => rfl
  | p + 1 => by rw [canR, canR_0 p, canP, dgt_0]; rfl
theorem bsW_some {n : Nat} {M : Nat → Nat} : ∀ c, ∃ d, d ≤ c ∧ bsW n M (c + 1) = some d
  | 0 => ⟨0, Nat.le_refl _, by rw [bsW, bsW]; exact if_pos (canR_0 n)⟩
  | c + 1 => by
    obtain ⟨d, hd, e⟩ := bsW_some (n := n) (M := M) c
    rw [bsW, e]
    by_cases h : (canR n M (c + 1) n && decide (wdR n d n < wdR n (c + 1) n)) = true
    · exact ⟨c + 1, Nat.le_refl _, if_pos h⟩
    · exact ⟨d, by omega, if_neg h⟩
theorem wd_eq {x p : Nat} (hx : x < 100) (hp : p < 100) : nI x - 1 = nI p ↔ x = p + 1 := by
  cases x with
  | zero =>
    constructor
    · intro h
      have h2 : nI p = -1 := h.symm
      exact absurd h2 (nI_m1 (by omega))
    · intro h; omega
  | succ y =>
    rw [nI_pred, nI_eq (by omega) (by omega)]
    omega
theorem wd_m1 {x : Nat} (hx : x < 100) : nI x - 1 = -1 ↔ x = 0 := by
  cases x with
  | zero => exact ⟨fun _ => rfl, fun _ => rfl⟩
  | succ y =>
    rw [nI_pred]
    exact ⟨fun h => absurd h (nI_m1 (by omega)), fun h => by omega⟩
theorem m1s (x : Int32) : x + (-1) = x - 1 := (Int32.sub_eq_add_neg (a := x) (b := 1)).symm
def sp_X10_wed : em_Sp := fun av hp Q => ∃ B im kp asd rf qt ab be tx ty at9 st9 tk vl wd it mn S sb my we be9 rw fr m p, av = [.ref 0, .int m, .int p] ∧ hp = (wM (nB B) im kp asd rf qt ab be tx ty at9 st9 tk vl wd it mn (nB S) sb my we be9 rw fr) ∧ GK B ∧ Z6 S ∧ Z6i my ∧ (¬ (inw m ∧ (p = -1 ∨ hs (nI (B 0)) p)) → Q (some (.int (-10))) (wM (nB B) im kp asd (rfM qt rf 0) qt ab be tx ty at9 st9 tk vl wd it mn (nB S) sb my we be9 rw fr)) ∧ (∀ k S' my' we' be' d, Z6 S' → Z6i my' → m = nI k → k ≤ 40 → bsW (B 0) (maK B (k + 1)) ((B 0 + 1) ^ B 0) = some d → (p = -1 → Q (some (.int (nI (wdR (B 0) d (B 0) / 2)))) (wM (nB B) im kp asd rf qt ab be tx ty at9 st9 tk vl wd it mn (nB S') sb (my') (we') (be') rw fr)) ∧ (∀ j, p = nI j → j < B 0 → Q (some (.int (nI (dgt (B 0) d j) - 1))) (wM (nB B) im kp asd rf qt ab be tx ty at9 st9 tk vl wd it mn (nB S') sb (my') (we') (be') rw fr)))
def T_X10_wed : List (Nat × em_Op) := [(0, o_iload 1 1), (1, o_i2l 2), (2, o_lconst 0 3), (3, o_lconst 40 6), (6, o_call 3 none (sp_X10_in) 9), (9, o_ifeq 25 12), (12, o_iload 2 13), (13, o_iconst (-1) 14), (14, o_icmpeq 33 17), (17, o_aload 0 18), (18, o_iload 2 19), (19, o_call 2 (some 5) (sp_X10_isPerson) 22), (22, o_ifne 33 25), (25, o_aload 0 26), (26, o_iconst 0 27), (27, o_iconst (-10) 29), (29, o_call 3 (some 5) (sp_X10_refuses) 32), (32, o_iret), (33, o_aload 0 34), (34, o_iload 1 35), (35, o_call 2 (some 5) (sp_X10_allows) 38), (38, o_aload 0 39), (39, o_getf 5 0 42), (42, o_iconst 0 43), (43, o_aldI 0 44), (44, o_istore 3 45), (45, o_iconst (-1) 46), (46, o_istore 4 48), (48, o_iconst 1 49), (49, o_istore 5 51), (51, o_iconst 0 52), (52, o_istore 6 54), (54, o_iload 6 56), (56, o_iload 3 57), (57, o_icmpge 74 60), (60, o_iload 5 62), (62, o_iload 3 63), (63, o_iconst 1 64), (64, o_iadd 65), (65, o_imul 66), (66, o_istore 5 68), (68, o_iinc 6 1 71), (71, o_goto 54), (74, o_iconst 0 75), (75, o_istore 6 77), (77, o_iload 6 79), (79, o_iload 5 81), (81, o_icmpge 281 84), (84, o_iload 6 86), (86, o_istore 7 88), (88, o_iload 3 89), (89, o_iconst 1 90), (90, o_isub 91), (91, o_istore 8 93), (93, o_iload 8 95), (95, o_iflt 127 98), (98, o_aload 0 99), (99, o_getf 5 20 102), (102, o_iload 8 104), (104, o_iload 7 106), (106, o_iload 3 107), (107, o_iconst 1 108), (108, o_iadd 109), (109, o_irem 110), (110, o_iconst 1 111), (111, o_isub 112), (112, o_iast 113), (113, o_iload 7 115), (115, o_iload 3 116), (116, o_iconst 1 117), (117, o_iadd 118), (118, o_idiv 119), (119, o_istore 7 121), (121, o_iinc 8 (-1) 124), (124, o_goto 93), (127, o_iconst 0 128), (128, o_istore 8 130), (130, o_iconst 1 131), (131, o_istore 9 133), (133, o_iconst 0 134), (134, o_istore 10 136), (136, o_iload 10 138), (138, o_iload 3 139), (139, o_icmpge 230 142), (142, o_iload 9 144), (144, o_ifeq 230 147), (147, o_aload 0 148), (148, o_getf 5 20 151), (151, o_iload 10 153), (153, o_aldI 0 154), (154, o_iconst (-1) 155), (155, o_icmpeq 196 158), (158, o_aload 0 159), (159, o_getf 5 20 162), (162, o_aload 0 163), (163, o_getf 5 20 166), (166, o_iload 10 168), (168, o_aldI 0 169), (169, o_aldI 0 170), (170, o_iload 10 172), (172, o_icmpne 200 175), (175, o_aload 0 176), (176, o_getf 5 19 179), (179, o_iload 10 181), (181, o_aldI 0 182), (182, o_aload 0 183), (183, o_getf 5 20 186), (186, o_iload 10 188), (188, o_aldI 0 189), (189, o_ishr 190), (190, o_iconst 1 191), (191, o_iand 192), (192, o_iconst 1 193), (193, o_icmpne 200 196), (196, o_iconst 1 197), (197, o_goto 201), (200, o_iconst 0 201), (201, o_istore 9 203), (203, o_iload 8 205), (205, o_aload 0 206), (206, o_getf 5 20 209), (209, o_iload 10 211), (211, o_aldI 0 212), (212, o_iconst (-1) 213), (213, o_icmpne 220 216), (216, o_iconst 0 217), (217, o_goto 221), (220, o_iconst 1 221), (221, o_iadd 222), (222, o_istore 8 224), (224, o_iinc 10 1 227), (227, o_goto 136), (230, o_iload 9 232), (232, o_ifeq 275 235), (235, o_iload 8 237), (237, o_iload 4 239), (239, o_icmple 275 242), (242, o_iload 8 244), (244, o_istore 4 246), (246, o_iconst 0 247), (247, o_istore 10 249), (249, o_iload 10 251), (251, o_iload 3 252), (252, o_icmpge 275 255), (255, o_aload 0 256), (256, o_getf 5 21 259), (259, o_iload 10 261), (261, o_aload 0 262), (262, o_getf 5 20 265), (265, o_iload 10 267), (267, o_aldI 0 268), (268, o_iast 269), (269, o_iinc 10 1 272), (272, o_goto 249), (275, o_iinc 6 1 278), (278, o_goto 77), (281, o_iload 2 282), (282, o_iconst (-1) 283), (283, o_icmpne 293 286), (286, o_iload 4 288), (288, o_iconst 2 289), (289, o_idiv 290), (290, o_goto 299), (293, o_aload 0 294), (294, o_getf 5 21 297), (297, o_iload 2 298), (298, o_aldI 0 299), (299, o_iret)]
theorem me_X10_wed : em_Me T_X10_wed 11 sp_X10_wed := by
  intro Q K hK hle av hp hs
  obtain ⟨B, im, kp, asd, rf, qt, ab, be, tx, ty, at9, st9, tk, vl, wd, it, mn, S, sb, my, we, be9, rw, fr, m, p, rfl, rfl, hB, hz, hy, hbad, hq⟩ := hs
  have h0 := hB.1
  obtain ⟨n, hn⟩ : ∃ n, n = B 0 := ⟨_, rfl⟩
  have hn6 : n ≤ 6 := by omega
  have bad : ¬ (inw m ∧ (p = -1 ∨ hs (nI (B 0)) p)) → K 25 [some (.ref 0), some (.int m), some (.int p), none, none, none, none, none, none, none, none] [] (wM (nB B) im kp asd rf qt ab be tx ty at9 st9 tk vl wd it mn (nB S) sb my we be9 rw fr) := by
    intro h
    exact hK 13 5 25 _ _ _ ⟨_, _, _, _, _, _, _, _, _, _, _, _, _, _, _, _, _, _, _, _, _, _, _, _, 0, _, rfl, rfl, by decide, hbad h⟩
  have good : ∀ k, m = nI k → k ≤ 40 → (p = -1 ∨ ∃ j, j < n ∧ p = nI j) → K 33 [some (.ref 0), some (.int m), some (.int p), none, none, none, none, none, none, none, none] [] (wM (nB B) im kp asd rf qt ab be tx ty at9 st9 tk vl wd it mn (nB S) sb my we be9 rw fr) := by
    intro k hmk hk hp
    subst hmk
    have hS' := trN_Z hB (k + 1)
    have hM' : Z6i (nB (maK B (k + 1))) := Z6_i (maK_Z h0 (k + 1))
    have hMok : ∀ p, maK B (k + 1) p < 64 := fun p => maK_ok (k + 1) p
    have hq := fun we' be' d hd => hq k (trN B (k + 1)) (nB (maK B (k + 1))) we' be' d hS' hM' rfl hk hd
    generalize hMM : maK B (k + 1) = M at hMok hq
    generalize hSS : trN B (k + 1) = S1 at hq
    rw [← hn] at hq
    obtain ⟨W, hW⟩ : ∃ W, W = (n + 1) ^ n := ⟨_, rfl⟩
    rw [← hW] at hq
    have hpw : ∀ i, i ≤ n → (n + 1) ^ i ≤ 117649 := fun i hi => Nat.le_trans (Nat.pow_le_pow_left (show n + 1 ≤ 7 by omega) i) (Nat.le_trans (Nat.pow_le_pow_right (n := 7) (by omega) (show i ≤ 6 by omega)) (by decide))
    have hW9 : W ≤ 117649 := by rw [hW]; exact hpw n (Nat.le_refl _)
    have hW1 : 1 ≤ W := by rw [hW]; exact Nat.one_le_pow _ _ (by omega)
    have hdg : ∀ c q, dgt n c q ≤ n := fun c q => by
      have := Nat.mod_lt (c / (n + 1) ^ (n - 1 - q)) (show n + 1 > 0 by omega)
      unfold dgt; omega
    have loop : ∀ (r c : Nat) (we' be' : Nat → Int32), c + r = W → (∀ d, bsW n M c = some d → ∀ q, q < n → be' q = nI (dgt n d q) - 1) → K 77 [some (.ref 0), some (.int (nI k)), some (.int p), some (.int (nI n)), some (.int (mstI n (bsW n M c))), some (.int (nI W)), some (.int (nI c)), none, none, none, none] [] (wM (nB B) im kp asd rf qt ab be tx ty at9 st9 tk vl wd it mn (nB S1) sb (nB M) (we') (be') rw fr) := by
      intro r
      induction r with
      | zero =>
        intro c we' be' hc hbe
        have hc : c = W := by omega
        subst hc
        obtain ⟨d, hd, e⟩ := bsW_some (n := n) (M := M) (c - 1)
        rw [show c - 1 + 1 = c by omega] at e
        have hq := hq we' be' d e
        have hbe := hbe d e
        have hwl := wdR_le (n := n) (c := d) n
        rw [e]
        refine hK 45 9999 77 _ _ _ ?_
        refine ⟨fun _ => ⟨fun z => ?_, fun z => ?_⟩, fun z => absurd (nI_le (Nat.le_refl c) (by omega)) z⟩
        · rcases hp with q | ⟨j, hj, q⟩
          · exact absurd q z
          · have := hq.2 j q hj
            rw [← hbe j hj] at this
            exact ⟨j, q, by omega, this⟩
        · have := hq.1 z
          have ed : nI (wdR n d n) / 2 = nI (wdR n d n / 2) := pk_div (d := 2) (by omega) (by omega) (by omega)
          rw [← ed] at this
          exact ⟨by decide, this⟩
      | succ r ih =>
        intro c we' be' hc hbe
        have hc9 : c < W := by omega
        -- behind the trial of this number
        have nxt : ∀ (we2 be2 : Nat → Int32) (x7 x8 x9 x10 : Option Value), (∀ d, bsW n M (c + 1) = some d → ∀ q, q < n → be2 q = nI (dgt n d q) - 1) → K 275 [some (.ref 0), some (.int (nI k)), some (.int p), some (.int (nI n)), some (.int (mstI n (bsW n M (c + 1)))), some (.int (nI W)), some (.int (nI c)), x7, x8, x9, x10] [] (wM (nB B) im kp asd rf qt ab be tx ty at9 st9 tk vl wd it mn (nB S1) sb (nB M) (we2) (be2) rw fr) := by
          intro we2 be2 x7 x8 x9 x10 hb
          have := ih (c + 1) we2 be2 (by omega) hb
          rw [← nI_1 c] at this
          exact hK 154 2 275 _ _ _ (hle _ _ _ _ _ (by repeat (first | exact trivial | refine ⟨rfl, ?_⟩)) this)
        have cmp : ∀ (we2 : Nat → Int32) (x7 x10 : Option Value) (v : Bool) (w : Nat), (∀ q, q < n → we2 q = nI (dgt n c q) - 1) → v = canR n M c n → w < 100 → (v = true → w = wdR n c n) → K 230 [some (.ref 0), some (.int (nI k)), some (.int p), some (.int (nI n)), some (.int (mstI n (bsW n M c))), some (.int (nI W)), some (.int (nI c)), x7, some (.int (nI w)), some (.int (b1 v)), x10] [] (wM (nB B) im kp asd rf qt ab be tx ty at9 st9 tk vl wd it mn (nB S1) sb (nB M) (we2) (be') rw fr) := by
          intro we2 x7 x10 v w hwe hv hw9 hw
          have keep : ∀ d, bsW n M c = some d → bsW n M (c + 1) = some d → K 275 [some (.ref 0), some (.int (nI k)), some (.int p), some (.int (nI n)), some (.int (mstI n (bsW n M c))), some (.int (nI W)), some (.int (nI c)), x7, some (.int (nI w)), some (.int (b1 v)), x10] [] (wM (nB B) im kp asd rf qt ab be tx ty at9 st9 tk vl wd it mn (nB S1) sb (nB M) (we2) (be') rw fr) := by
            intro d e1 e2
            have := nxt we2 be' x7 (some (.int (nI w))) (some (.int (b1 v))) x10 (fun d' hd' q hq => by
              rw [e2] at hd'
              exact hbe d' (by rw [e1]; exact hd') q hq)
            rw [e2] at this
            rw [e1]
            exact this
          have take : bsW n M (c + 1) = some c → v = true → K 242 [some (.ref 0), some (.int (nI k)), some (.int p), some (.int (nI n)), some (.int (mstI n (bsW n M c))), some (.int (nI W)), some (.int (nI c)), x7, some (.int (nI w)), some (.int (b1 v)), x10] [] (wM (nB B) im kp asd rf qt ab be tx ty at9 st9 tk vl wd it mn (nB S1) sb (nB M) (we2) (be') rw fr) := by
            intro e2 hvt
            have copy : ∀ (r q : Nat) (be2 : Nat → Int32), q + r = n → (∀ j, j < q → be2 j = nI (dgt n c j) - 1) → K 249 [some (.ref 0), some (.int (nI k)), some (.int p), some (.int (nI n)), some (.int (nI w)), some (.int (nI W)), some (.int (nI c)), x7, some (.int (nI w)), some (.int (b1 v)), some (.int (nI q))] [] (wM (nB B) im kp asd rf qt ab be tx ty at9 st9 tk vl wd it mn (nB S1) sb (nB M) (we2) (be2) rw fr) := by
              intro r
              induction r with
              | zero =>
                intro q be2 hq hb
                have hq : q = n := by omega
                subst hq
                have := nxt we2 be2 x7 (some (.int (nI w))) (some (.int (b1 v))) (some (.int (nI q))) (fun d' hd' j hj => by
                  rw [e2] at hd'
                  rw [← Option.some.inj hd']
                  exact hb j hj)
                rw [e2, mstI, ← hw hvt] at this
                refine hK 141 13 249 _ _ _ ?_
                exact ⟨fun _ => this, fun z => absurd (nI_le (Nat.le_refl q) (by omega)) z⟩
              | succ r ihr =>
                intro q be2 hq hb
                have := ihr (q + 1) (upd be2 q (we2 q)) (by omega) (fun j hj => by
                  by_cases h : j = q
                  · subst h; rw [pk_us]; exact hwe j (by omega)
                  · rw [pk_un h]; exact hb j (by omega))
                rw [← nI_1 q] at this
                refine hK 141 13 249 _ _ _ ?_
                refine ⟨fun z => absurd z (nI_ge (by omega) (by omega)), fun _ => ?_⟩
                exact ⟨q, rfl, by omega, q, rfl, by omega, this⟩
            exact hK 137 4 242 _ _ _ (copy n 0 be' (by omega) (fun j h => by omega))
          refine hK 132 5 230 _ _ _ ?_
          refine ⟨fun z => ?_, fun z => ?_⟩
          · have z := b1_0.mp z
            have hcf : canR n M c n = false := by rw [← hv]; exact z
            have hex : ∃ d, bsW n M c = some d := by
              cases c with
              | zero => rw [canR_0] at hcf; cases hcf
              | succ c0 =>
                obtain ⟨d, _, e⟩ := bsW_some (n := n) (M := M) c0
                exact ⟨d, e⟩
            obtain ⟨d, e⟩ := hex
            exact keep d e (by rw [bsW, e, hcf]; exact if_neg Bool.false_ne_true)
          · have zt : v = true := by
              cases hc : v with
              | true => rfl
              | false => exact absurd (b1_0.mpr hc) z
            have hct : canR n M c n = true := by rw [← hv]; exact zt
            have hw1 := hw zt
            cases e : bsW n M c with
            | none =>
              rw [e] at take
              refine ⟨fun y => ?_, fun _ => take (by rw [bsW, e]; exact if_pos hct) zt⟩
              exfalso
              have y : nI w ≤ -1 := y
              have := Int32.le_iff_toInt_le.mp y
              rw [nI_toInt (by omega)] at this
              have h2 : ((-1 : Int32)).toInt = -1 := by decide
              omega
            | some d =>
              have hwl := wdR_le (n := n) (c := d) n
              rw [e] at take keep
              refine ⟨fun y => ?_, fun y => ?_⟩
              · have y := (nI_leI (a := w) (b := wdR n d n) (by omega) (by omega)).mp y
                exact keep d rfl (by rw [bsW, e, hct]; exact if_neg (by rw [Bool.true_and, decide_eq_true_eq]; omega))
              · have y : wdR n d n < w := by
                  rcases Nat.lt_or_ge (wdR n d n) w with q | q
                  · exact q
                  · exact absurd (nI_le q (by omega)) y
                exact take (by rw [bsW, e, hct]; exact if_pos (by rw [Bool.true_and, decide_eq_true_eq]; omega)) zt
        have tri : ∀ (we2 : Nat → Int32) (y7 : Int32), (∀ q, q < n → we2 q = nI (dgt n c q) - 1) → ∀ (r q : Nat), q + r = n → K 136 [some (.ref 0), some (.int (nI k)), some (.int p), some (.int (nI n)), some (.int (mstI n (bsW n M c))), some (.int (nI W)), some (.int (nI c)), some (.int y7), some (.int (nI (wdR n c q))), some (.int (b1 (canR n M c q))), some (.int (nI q))] [] (wM (nB B) im kp asd rf qt ab be tx ty at9 st9 tk vl wd it mn (nB S1) sb (nB M) (we2) (be') rw fr) := by
          intro we2 y7 hwe r
          induction r with
          | zero =>
            intro q hq
            have hq : q = n := by omega
            subst hq
            have hwl := wdR_le (n := q) (c := c) q
            refine hK 81 51 136 _ _ _ ?_
            exact ⟨fun _ => cmp we2 (some (.int y7)) _ _ _ hwe rfl (by omega) (fun _ => rfl), fun z => absurd (nI_le (Nat.le_refl q) (by omega)) z⟩
          | succ r ihr =>
            intro q hq
            have hwl := wdR_le (n := n) (c := c) q
            have hd := hdg c q
            have hwq := hwe q (by omega)
            have end_ : ∀ v x, x = b1 (canR n M c (q + 1)) → nI (wdR n c q) + v = nI (wdR n c (q + 1)) → K 221 [some (.ref 0), some (.int (nI k)), some (.int p), some (.int (nI n)), some (.int (mstI n (bsW n M c))), some (.int (nI W)), some (.int (nI c)), some (.int y7), some (.int (nI (wdR n c q))), some (.int x), some (.int (nI q))] [.int v, .int (nI (wdR n c q))] (wM (nB B) im kp asd rf qt ab be tx ty at9 st9 tk vl wd it mn (nB S1) sb (nB M) (we2) (be') rw fr) := by
              intro v x hx hv
              subst hx
              have := ihr (q + 1) (by omega)
              rw [← hv, ← nI_1 q] at this
              exact hK 128 4 221 _ _ _ this
            have mid : ∀ v, v = b1 (canR n M c (q + 1)) → K 201 [some (.ref 0), some (.int (nI k)), some (.int p), some (.int (nI n)), some (.int (mstI n (bsW n M c))), some (.int (nI W)), some (.int (nI c)), some (.int y7), some (.int (nI (wdR n c q))), some (.int (b1 (canR n M c q))), some (.int (nI q))] [.int v] (wM (nB B) im kp asd rf qt ab be tx ty at9 st9 tk vl wd it mn (nB S1) sb (nB M) (we2) (be') rw fr) := by
              intro v hv
              refine hK 117 11 201 _ _ _ ?_
              refine ⟨q, rfl, by omega, fun z => ?_, fun z => ?_⟩
              · have z : ¬ dgt n c q = 0 := fun y => z (by rw [hwq, y]; rfl)
                exact end_ _ _ hv (by rw [wdR, if_neg z]; exact nI_1 _)
              · have z : dgt n c q = 0 := by
                  rw [hwq] at z
                  exact (wd_m1 (by omega)).mp z
                exact end_ _ _ hv (by rw [wdR, if_pos z]; exact Int32.add_zero _)
            refine hK 81 36 136 _ _ _ ?_
            refine ⟨fun z => absurd z (nI_ge (by omega) (by omega)), fun _ => ⟨fun z => ?_, fun z => ?_⟩⟩
            · have z := b1_0.mp z
              have hcf : canR n M c n = false := by
                have := canR_f z (n - q)
                rw [show q + (n - q) = n by omega] at this
                exact this
              rw [z]
              exact cmp we2 (some (.int y7)) _ false (wdR n c q) hwe hcf.symm (by omega) (fun h => absurd h Bool.false_ne_true)
            · have zt : canR n M c q = true := by
                cases hc : canR n M c q with
                | true => rfl
                | false => exact absurd (b1_0.mpr hc) z
              refine ⟨q, rfl, by omega, fun y => ?_, fun y => ?_⟩
              · have y : dgt n c q = 0 := by
                  rw [hwq] at y
                  exact (wd_m1 (by omega)).mp y
                exact mid _ (by rw [canR, zt, canP, decide_eq_true y]; rfl)
              · have y : ¬ dgt n c q = 0 := fun x => y (by rw [hwq, x]; rfl)
                obtain ⟨e, he⟩ : ∃ e, dgt n c q = e + 1 := ⟨dgt n c q - 1, by omega⟩
                have ewe : we2 q = nI e := by rw [hwq, he]; exact nI_pred e
                have hwe2 := hwe e (by omega)
                have hd2 := hdg c e
                have ec : canP n M c q = (decide (dgt n c e = q + 1) && (M q).testBit e) := by
                  rw [canP, decide_eq_false y, he]; rfl
                have hMq := hMok q
                refine ⟨q, rfl, by omega, e, ewe, by omega, fun x => ?_, fun x => ?_⟩
                · have x : ¬ dgt n c e = q + 1 := fun t => x (by rw [hwe2]; exact (wd_eq (by omega) (by omega)).mpr t)
                  exact mid _ (by rw [canR, ec, decide_eq_false x, Bool.false_and, Bool.and_false]; rfl)
                · have x : dgt n c e = q + 1 := by
                    rw [hwe2] at x
                    exact (wd_eq (by omega) (by omega)).mp x
                  refine ⟨q, rfl, by omega, q, rfl, by omega, ?_⟩
                  rw [ewe]
                  refine ⟨fun t => ?_, fun t => ?_⟩
                  · have t : (M q).testBit e = false := by
                      cases hb : (M q).testBit e with
                      | false => rfl
                      | true => exact absurd ((bit1 (by omega) (by omega)).mpr hb) t
                    exact mid _ (by rw [canR, ec, t, Bool.and_false, Bool.and_false]; rfl)
                  · have t := (bit1 (by omega) (by omega)).mp t
                    exact mid _ (by rw [canR, ec, t, zt, decide_eq_true x]; rfl)
        have dig : ∀ (j q : Nat) (we2 : Nat → Int32), j + q = n → (∀ t, j ≤ t → t < n → we2 t = nI (dgt n c t) - 1) → K 93 [some (.ref 0), some (.int (nI k)), some (.int p), some (.int (nI n)), some (.int (mstI n (bsW n M c))), some (.int (nI W)), some (.int (nI c)), some (.int (nI (c / (n + 1) ^ q))), some (.int (nI j - 1)), none, none] [] (wM (nB B) im kp asd rf qt ab be tx ty at9 st9 tk vl wd it mn (nB S1) sb (nB M) (we2) (be') rw fr) := by
          intro j
          induction j with
          | zero =>
            intro q we2 hjq hwe
            refine hK 54 27 93 _ _ _ ?_
            exact ⟨fun _ => tri we2 _ (fun t ht => hwe t (by omega) ht) n 0 (by omega), fun z => absurd (by show nI 0 - 1 < 0; decide) z⟩
          | succ i ihj =>
            intro q we2 hjq hwe
            have hl : c / (n + 1) ^ q ≤ c := Nat.div_le_self _ _
            have em : nI (c / (n + 1) ^ q) - nI (c / (n + 1) ^ q) / (nI n + 1) * (nI n + 1) = nI (c / (n + 1) ^ q % (n + 1)) := by
              rw [nI_1]; exact pk_rem (by omega) (by omega) (by omega)
            have ed : nI (c / (n + 1) ^ q) / (nI n + 1) = nI (c / (n + 1) ^ (q + 1)) := by
              rw [nI_1, pk_div (by omega) (by omega) (by omega), Nat.div_div_eq_div_mul, Nat.pow_succ]
            have edg : dgt n c i = c / (n + 1) ^ q % (n + 1) := by
              unfold dgt; rw [show n - 1 - i = q by omega]
            have hne : ¬ nI n + 1 = 0 := by rw [nI_1]; exact nI_ne0 (by omega) (by omega)
            have := ihj (q + 1) (upd we2 i (nI (c / (n + 1) ^ q % (n + 1)) - 1)) (by omega) (fun t h1 h2 => by
              by_cases h : t = i
              · subst h; rw [pk_us, edg]
              · rw [pk_un h]; exact hwe t (by omega) h2)
            rw [← em, ← ed, ← m1s (nI i)] at this
            rw [nI_pred i]
            refine hK 54 21 93 _ _ _ ?_
            refine ⟨fun z => absurd z (nI_pos (by omega)), fun _ => ?_⟩
            exact ⟨hne, i, rfl, by omega, hne, this⟩
        have d0 := dig n 0 we' (by omega) (fun t h1 h2 => by omega)
        rw [Nat.pow_zero, Nat.div_one] at d0
        refine hK 45 9 77 _ _ _ ?_
        exact ⟨fun z => absurd z (nI_ge (by omega) (by omega)), fun _ => d0⟩
    have ways : ∀ (r i : Nat), i + r = n → K 54 [some (.ref 0), some (.int (nI k)), some (.int p), some (.int (nI n)), some (.int (-1)), some (.int (nI ((n + 1) ^ i))), some (.int (nI i)), none, none, none, none] [] (wM (nB B) im kp asd rf qt ab be tx ty at9 st9 tk vl wd it mn (nB S1) sb (nB M) we be9 rw fr) := by
      intro r
      induction r with
      | zero =>
        intro i hi
        have hi : i = n := by omega
        subst hi
        refine hK 32 13 54 _ _ _ ?_
        have := loop W 0 we be9 (by omega) (fun d h => by rw [bsW] at h; cases h)
        rw [hW] at this
        exact ⟨fun _ => hle _ _ _ _ _ (by repeat (first | exact trivial | refine ⟨rfl, ?_⟩)) this, fun z => absurd (nI_le (Nat.le_refl i) (by omega)) z⟩
      | succ r ih =>
        intro i hi
        have := ih (i + 1) (by omega)
        have hpi := hpw i (by omega)
        rw [Nat.pow_succ, ← pk_mul, ← nI_1 n, ← nI_1 i] at this
        refine hK 32 13 54 _ _ _ ?_
        refine ⟨fun z => absurd z (nI_ge (by omega) (by omega)), fun _ => ?_⟩
        exact this
    refine hK 18 14 33 _ _ _ ?_
    refine ⟨_, _, _, _, _, _, _, _, _, _, _, _, _, _, _, _, _, _, _, _, _, _, _, _, k, rfl, rfl, hB, hz, hy, hk, ?_⟩
    rw [hMM, hSS]
    have w0 := ways n 0 (by omega)
    rw [hn] at w0
    exact ⟨0, rfl, by decide, w0⟩
  refine ⟨Nat.le_of_ble_eq_true rfl, hK 0 13 0 _ _ _ ?_⟩
  refine ⟨_, _, _, rfl, fun z1 => ?_, fun z1 => ?_⟩
  · refine ⟨fun y => absurd y (by decide), fun _ => ?_⟩
    have z1 := in_40.mp z1
    obtain ⟨k, hk, hmk⟩ := inw_at z1
    refine ⟨fun z => good k hmk hk (Or.inl z), fun z => ?_⟩
    refine ⟨_, _, _, _, _, _, _, _, _, _, _, _, _, _, _, _, _, _, _, _, _, _, _, _, _, B 0, rfl, rfl, rfl, h0, fun z2 => ?_, fun z2 => ?_⟩
    · refine ⟨fun _ => ?_, fun y => absurd y (by decide)⟩
      obtain ⟨j, hj, e⟩ := nI_at rfl z2
      exact good k hmk hk (Or.inr ⟨j, by omega, e⟩)
    · exact ⟨fun y => absurd rfl y, fun _ => bad (fun q => q.2.elim z z2)⟩
  · exact ⟨fun _ => bad (fun q => z1 (in_40.mpr q.1)), fun y => absurd rfl y⟩
abbrev rm_X10_wed : Room := { frames := 4, cells := 0, slots := 0, locals := 107 }
set_option maxRecDepth 100000 in
set_option maxHeartbeats 4000000 in
theorem ct_X10_wed (l : Launch) (D : va_G) (dA : Nat → ClassId) (σ : Nat → Nat) : em_CT l D em_cl dA σ (em_F σ) y_X10_wed c_X10_wed 11 (Option.some ClassFile.FieldType.int) rm_X10_wed (sp_X10_wed ) := by
  refine em_CT_of (T := T_X10_wed ) (em_F_ok σ) (by decide) (fun p e s m args below meth c A ρ Q C hFok hF hret hlk hin => ?_) (me_X10_wed )
  unfold T_X10_wed
  refine List.forall_mem_cons.mpr ⟨s_iload_n C (by decide +kernel : decode c_X10_wed 0 = .ok (.iload_n 1, 1)) rfl rfl rfl, ?_⟩
  refine List.forall_mem_cons.mpr ⟨s_i2l C (by decide +kernel : decode c_X10_wed 1 = .ok (.i2l, 1)) rfl rfl, ?_⟩
  refine List.forall_mem_cons.mpr ⟨s_lconst C (by decide +kernel : decode c_X10_wed 2 = .ok (.lconst 0, 1)) rfl rfl (by decide), ?_⟩
  refine List.forall_mem_cons.mpr ⟨s_ldc2 C (by decide +kernel : decode c_X10_wed 3 = .ok (.ldc2_w 222, 3)) rfl rfl ew983, ?_⟩
  refine List.forall_mem_cons.mpr ⟨s_callS C hFok hF (ct_X10_in l D dA σ) ⟨rfl, rfl⟩ ew771 ew769 ew770 ew6 ⟨by decide, by decide, by decide +kernel⟩ ⟨by decide, by decide⟩ (by decide +kernel : decode c_X10_wed 6 = .ok (.invokestatic 69, 3)) rfl rfl ⟨Nat.zero_le _, Nat.zero_le _⟩, ?_⟩
  refine List.forall_mem_cons.mpr ⟨s_ifeq C (by decide +kernel : decode c_X10_wed 9 = .ok (.ifCond .eq 16, 3)) (by decide) rfl rfl rfl, ?_⟩
  refine List.forall_mem_cons.mpr ⟨s_iload_n C (by decide +kernel : decode c_X10_wed 12 = .ok (.iload_n 2, 1)) rfl rfl rfl, ?_⟩
  refine List.forall_mem_cons.mpr ⟨s_iconst C (by decide +kernel : decode c_X10_wed 13 = .ok (.iconst (-1), 1)) rfl rfl (by decide), ?_⟩
  refine List.forall_mem_cons.mpr ⟨s_icmpeq C (by decide +kernel : decode c_X10_wed 14 = .ok (.if_icmp .eq 19, 3)) (by decide) rfl rfl rfl, ?_⟩
  refine List.forall_mem_cons.mpr ⟨s_aload_n C (by decide +kernel : decode c_X10_wed 17 = .ok (.aload_n 0, 1)) rfl rfl rfl, ?_⟩
  refine List.forall_mem_cons.mpr ⟨s_iload_n C (by decide +kernel : decode c_X10_wed 18 = .ok (.iload_n 2, 1)) rfl rfl rfl, ?_⟩
  refine List.forall_mem_cons.mpr ⟨s_callV C hFok hF (ct_X10_isPerson l D dA σ) ⟨rfl, rfl⟩ ew795 em_cl_X10 ew792 ew794 ewp16 ew6 ⟨by decide, by decide, by decide +kernel⟩ ⟨by decide, by decide⟩ (by decide +kernel : decode c_X10_wed 19 = .ok (.invokevirtual 73, 3)) rfl rfl ⟨Nat.zero_le _, Nat.zero_le _⟩, ?_⟩
  refine List.forall_mem_cons.mpr ⟨s_ifne C (by decide +kernel : decode c_X10_wed 22 = .ok (.ifCond .ne 11, 3)) (by decide) rfl rfl rfl, ?_⟩
  refine List.forall_mem_cons.mpr ⟨s_aload_n C (by decide +kernel : decode c_X10_wed 25 = .ok (.aload_n 0, 1)) rfl rfl rfl, ?_⟩
  refine List.forall_mem_cons.mpr ⟨s_iconst C (by decide +kernel : decode c_X10_wed 26 = .ok (.iconst 0, 1)) rfl rfl (by decide), ?_⟩
  refine List.forall_mem_cons.mpr ⟨s_bipush C (by decide +kernel : decode c_X10_wed 27 = .ok (.bipush (-10), 2)) rfl rfl (by decide), ?_⟩
  refine List.forall_mem_cons.mpr ⟨s_callV C hFok hF (ct_X10_refuses l D dA σ) ⟨rfl, rfl⟩ ew783 em_cl_X10 ew780 ew782 ewp14 ew6 ⟨by decide, by decide, by decide +kernel⟩ ⟨by decide, by decide⟩ (by decide +kernel : decode c_X10_wed 29 = .ok (.invokevirtual 65, 3)) rfl rfl ⟨Nat.zero_le _, Nat.zero_le _⟩, ?_⟩
  refine List.forall_mem_cons.mpr ⟨s_iret C (by decide +kernel : decode c_X10_wed 32 = .ok (.ireturn, 1)) hret hlk ⟨Nat.le_refl 0, Nat.le_refl 0⟩, ?_⟩
  refine List.forall_mem_cons.mpr ⟨s_aload_n C (by decide +kernel : decode c_X10_wed 33 = .ok (.aload_n 0, 1)) rfl rfl rfl, ?_⟩
  refine List.forall_mem_cons.mpr ⟨s_iload_n C (by decide +kernel : decode c_X10_wed 34 = .ok (.iload_n 1, 1)) rfl rfl rfl, ?_⟩
  refine List.forall_mem_cons.mpr ⟨s_callV C hFok hF (ct_X10_allows l D dA σ) ⟨rfl, rfl⟩ ew987 em_cl_X10 ew984 ew986 ewp36 ew6 ⟨by decide, by decide, by decide +kernel⟩ ⟨by decide, by decide⟩ (by decide +kernel : decode c_X10_wed 35 = .ok (.invokevirtual 224, 3)) rfl rfl ⟨Nat.zero_le _, Nat.zero_le _⟩, ?_⟩
  refine List.forall_mem_cons.mpr ⟨s_aload_n C (by decide +kernel : decode c_X10_wed 38 = .ok (.aload_n 0, 1)) rfl rfl rfl, ?_⟩
  refine List.forall_mem_cons.mpr ⟨s_getf C (by decide +kernel : decode c_X10_wed 39 = .ok (.getfield 7, 3)) rfl rfl em_cl_X10 (by decide) ew691 rfl, ?_⟩
  refine List.forall_mem_cons.mpr ⟨s_iconst C (by decide +kernel : decode c_X10_wed 42 = .ok (.iconst 0, 1)) rfl rfl (by decide), ?_⟩
  refine List.forall_mem_cons.mpr ⟨s_iald C (by decide +kernel : decode c_X10_wed 43 = .ok (.iaload, 1)) rfl rfl, ?_⟩
  refine List.forall_mem_cons.mpr ⟨s_istore_n C (by decide +kernel : decode c_X10_wed 44 = .ok (.istore_n 3, 1)) rfl rfl rfl (by decide), ?_⟩
  refine List.forall_mem_cons.mpr ⟨s_iconst C (by decide +kernel : decode c_X10_wed 45 = .ok (.iconst (-1), 1)) rfl rfl (by decide), ?_⟩
  refine List.forall_mem_cons.mpr ⟨s_istore C (by decide +kernel : decode c_X10_wed 46 = .ok (.istore 4, 2)) rfl rfl (by decide), ?_⟩
  refine List.forall_mem_cons.mpr ⟨s_iconst C (by decide +kernel : decode c_X10_wed 48 = .ok (.iconst 1, 1)) rfl rfl (by decide), ?_⟩
  refine List.forall_mem_cons.mpr ⟨s_istore C (by decide +kernel : decode c_X10_wed 49 = .ok (.istore 5, 2)) rfl rfl (by decide), ?_⟩
  refine List.forall_mem_cons.mpr ⟨s_iconst C (by decide +kernel : decode c_X10_wed 51 = .ok (.iconst 0, 1)) rfl rfl (by decide), ?_⟩
  refine List.forall_mem_cons.mpr ⟨s_istore C (by decide +kernel : decode c_X10_wed 52 = .ok (.istore 6, 2)) rfl rfl (by decide), ?_⟩
  refine List.forall_mem_cons.mpr ⟨s_iload C (by decide +kernel : decode c_X10_wed 54 = .ok (.iload 6, 2)) rfl rfl, ?_⟩
  refine List.forall_mem_cons.mpr ⟨s_iload_n C (by decide +kernel : decode c_X10_wed 56 = .ok (.iload_n 3, 1)) rfl rfl rfl, ?_⟩
  refine List.forall_mem_cons.mpr ⟨s_icmpge C (by decide +kernel : decode c_X10_wed 57 = .ok (.if_icmp .ge 17, 3)) (by decide) rfl rfl rfl, ?_⟩
  refine List.forall_mem_cons.mpr ⟨s_iload C (by decide +kernel : decode c_X10_wed 60 = .ok (.iload 5, 2)) rfl rfl, ?_⟩
  refine List.forall_mem_cons.mpr ⟨s_iload_n C (by decide +kernel : decode c_X10_wed 62 = .ok (.iload_n 3, 1)) rfl rfl rfl, ?_⟩
  refine List.forall_mem_cons.mpr ⟨s_iconst C (by decide +kernel : decode c_X10_wed 63 = .ok (.iconst 1, 1)) rfl rfl (by decide), ?_⟩
  refine List.forall_mem_cons.mpr ⟨s_iadd C (by decide +kernel : decode c_X10_wed 64 = .ok (.iadd, 1)) rfl rfl, ?_⟩
  refine List.forall_mem_cons.mpr ⟨s_imul C (by decide +kernel : decode c_X10_wed 65 = .ok (.imul, 1)) rfl rfl, ?_⟩
  refine List.forall_mem_cons.mpr ⟨s_istore C (by decide +kernel : decode c_X10_wed 66 = .ok (.istore 5, 2)) rfl rfl (by decide), ?_⟩
  refine List.forall_mem_cons.mpr ⟨s_iinc C (by decide +kernel : decode c_X10_wed 68 = .ok (.iinc 6 1, 3)) rfl rfl (by decide) (by decide), ?_⟩
  refine List.forall_mem_cons.mpr ⟨s_goto C (by decide +kernel : decode c_X10_wed 71 = .ok (.goto (-17), 3)) (by decide) rfl, ?_⟩
  refine List.forall_mem_cons.mpr ⟨s_iconst C (by decide +kernel : decode c_X10_wed 74 = .ok (.iconst 0, 1)) rfl rfl (by decide), ?_⟩
  refine List.forall_mem_cons.mpr ⟨s_istore C (by decide +kernel : decode c_X10_wed 75 = .ok (.istore 6, 2)) rfl rfl (by decide), ?_⟩
  refine List.forall_mem_cons.mpr ⟨s_iload C (by decide +kernel : decode c_X10_wed 77 = .ok (.iload 6, 2)) rfl rfl, ?_⟩
  refine List.forall_mem_cons.mpr ⟨s_iload C (by decide +kernel : decode c_X10_wed 79 = .ok (.iload 5, 2)) rfl rfl, ?_⟩
  refine List.forall_mem_cons.mpr ⟨s_icmpge C (by decide +kernel : decode c_X10_wed 81 = .ok (.if_icmp .ge 200, 3)) (by decide) rfl rfl rfl, ?_⟩
  refine List.forall_mem_cons.mpr ⟨s_iload C (by decide +kernel : decode c_X10_wed 84 = .ok (.iload 6, 2)) rfl rfl, ?_⟩
  refine List.forall_mem_cons.mpr ⟨s_istore C (by decide +kernel : decode c_X10_wed 86 = .ok (.istore 7, 2)) rfl rfl (by decide), ?_⟩
  refine List.forall_mem_cons.mpr ⟨s_iload_n C (by decide +kernel : decode c_X10_wed 88 = .ok (.iload_n 3, 1)) rfl rfl rfl, ?_⟩
  refine List.forall_mem_cons.mpr ⟨s_iconst C (by decide +kernel : decode c_X10_wed 89 = .ok (.iconst 1, 1)) rfl rfl (by decide), ?_⟩
  refine List.forall_mem_cons.mpr ⟨s_isub C (by decide +kernel : decode c_X10_wed 90 = .ok (.isub, 1)) rfl rfl, ?_⟩
  refine List.forall_mem_cons.mpr ⟨s_istore C (by decide +kernel : decode c_X10_wed 91 = .ok (.istore 8, 2)) rfl rfl (by decide), ?_⟩
  refine List.forall_mem_cons.mpr ⟨s_iload C (by decide +kernel : decode c_X10_wed 93 = .ok (.iload 8, 2)) rfl rfl, ?_⟩
  refine List.forall_mem_cons.mpr ⟨s_iflt C (by decide +kernel : decode c_X10_wed 95 = .ok (.ifCond .lt 32, 3)) (by decide) rfl rfl rfl, ?_⟩
  refine List.forall_mem_cons.mpr ⟨s_aload_n C (by decide +kernel : decode c_X10_wed 98 = .ok (.aload_n 0, 1)) rfl rfl rfl, ?_⟩
  refine List.forall_mem_cons.mpr ⟨s_getf C (by decide +kernel : decode c_X10_wed 99 = .ok (.getfield 42, 3)) rfl rfl em_cl_X10 (by decide) ew711 rfl, ?_⟩
  refine List.forall_mem_cons.mpr ⟨s_iload C (by decide +kernel : decode c_X10_wed 102 = .ok (.iload 8, 2)) rfl rfl, ?_⟩
  refine List.forall_mem_cons.mpr ⟨s_iload C (by decide +kernel : decode c_X10_wed 104 = .ok (.iload 7, 2)) rfl rfl, ?_⟩
  refine List.forall_mem_cons.mpr ⟨s_iload_n C (by decide +kernel : decode c_X10_wed 106 = .ok (.iload_n 3, 1)) rfl rfl rfl, ?_⟩
  refine List.forall_mem_cons.mpr ⟨s_iconst C (by decide +kernel : decode c_X10_wed 107 = .ok (.iconst 1, 1)) rfl rfl (by decide), ?_⟩
  refine List.forall_mem_cons.mpr ⟨s_iadd C (by decide +kernel : decode c_X10_wed 108 = .ok (.iadd, 1)) rfl rfl, ?_⟩
  refine List.forall_mem_cons.mpr ⟨s_irem C (by decide +kernel : decode c_X10_wed 109 = .ok (.irem, 1)) rfl rfl, ?_⟩
  refine List.forall_mem_cons.mpr ⟨s_iconst C (by decide +kernel : decode c_X10_wed 110 = .ok (.iconst 1, 1)) rfl rfl (by decide), ?_⟩
  refine List.forall_mem_cons.mpr ⟨s_isub C (by decide +kernel : decode c_X10_wed 111 = .ok (.isub, 1)) rfl rfl, ?_⟩
  refine List.forall_mem_cons.mpr ⟨s_iast C (by decide +kernel : decode c_X10_wed 112 = .ok (.iastore, 1)) rfl rfl, ?_⟩
  refine List.forall_mem_cons.mpr ⟨s_iload C (by decide +kernel : decode c_X10_wed 113 = .ok (.iload 7, 2)) rfl rfl, ?_⟩
  refine List.forall_mem_cons.mpr ⟨s_iload_n C (by decide +kernel : decode c_X10_wed 115 = .ok (.iload_n 3, 1)) rfl rfl rfl, ?_⟩
  refine List.forall_mem_cons.mpr ⟨s_iconst C (by decide +kernel : decode c_X10_wed 116 = .ok (.iconst 1, 1)) rfl rfl (by decide), ?_⟩
  refine List.forall_mem_cons.mpr ⟨s_iadd C (by decide +kernel : decode c_X10_wed 117 = .ok (.iadd, 1)) rfl rfl, ?_⟩
  refine List.forall_mem_cons.mpr ⟨s_idiv C (by decide +kernel : decode c_X10_wed 118 = .ok (.idiv, 1)) rfl rfl, ?_⟩
  refine List.forall_mem_cons.mpr ⟨s_istore C (by decide +kernel : decode c_X10_wed 119 = .ok (.istore 7, 2)) rfl rfl (by decide), ?_⟩
  refine List.forall_mem_cons.mpr ⟨s_iinc C (by decide +kernel : decode c_X10_wed 121 = .ok (.iinc 8 (-1), 3)) rfl rfl (by decide) (by decide), ?_⟩
  refine List.forall_mem_cons.mpr ⟨s_goto C (by decide +kernel : decode c_X10_wed 124 = .ok (.goto (-31), 3)) (by decide) rfl, ?_⟩
  refine List.forall_mem_cons.mpr ⟨s_iconst C (by decide +kernel : decode c_X10_wed 127 = .ok (.iconst 0, 1)) rfl rfl (by decide), ?_⟩
  refine List.forall_mem_cons.mpr ⟨s_istore C (by decide +kernel : decode c_X10_wed 128 = .ok (.istore 8, 2)) rfl rfl (by decide), ?_⟩
  refine List.forall_mem_cons.mpr ⟨s_iconst C (by decide +kernel : decode c_X10_wed 130 = .ok (.iconst 1, 1)) rfl rfl (by decide), ?_⟩
  refine List.forall_mem_cons.mpr ⟨s_istore C (by decide +kernel : decode c_X10_wed 131 = .ok (.istore 9, 2)) rfl rfl (by decide), ?_⟩
  refine List.forall_mem_cons.mpr ⟨s_iconst C (by decide +kernel : decode c_X10_wed 133 = .ok (.iconst 0, 1)) rfl rfl (by decide), ?_⟩
  refine List.forall_mem_cons.mpr ⟨s_istore C (by decide +kernel : decode c_X10_wed 134 = .ok (.istore 10, 2)) rfl rfl (by decide), ?_⟩
  refine List.forall_mem_cons.mpr ⟨s_iload C (by decide +kernel : decode c_X10_wed 136 = .ok (.iload 10, 2)) rfl rfl, ?_⟩
  refine List.forall_mem_cons.mpr ⟨s_iload_n C (by decide +kernel : decode c_X10_wed 138 = .ok (.iload_n 3, 1)) rfl rfl rfl, ?_⟩
  refine List.forall_mem_cons.mpr ⟨s_icmpge C (by decide +kernel : decode c_X10_wed 139 = .ok (.if_icmp .ge 91, 3)) (by decide) rfl rfl rfl, ?_⟩
  refine List.forall_mem_cons.mpr ⟨s_iload C (by decide +kernel : decode c_X10_wed 142 = .ok (.iload 9, 2)) rfl rfl, ?_⟩
  refine List.forall_mem_cons.mpr ⟨s_ifeq C (by decide +kernel : decode c_X10_wed 144 = .ok (.ifCond .eq 86, 3)) (by decide) rfl rfl rfl, ?_⟩
  refine List.forall_mem_cons.mpr ⟨s_aload_n C (by decide +kernel : decode c_X10_wed 147 = .ok (.aload_n 0, 1)) rfl rfl rfl, ?_⟩
  refine List.forall_mem_cons.mpr ⟨s_getf C (by decide +kernel : decode c_X10_wed 148 = .ok (.getfield 42, 3)) rfl rfl em_cl_X10 (by decide) ew711 rfl, ?_⟩
  refine List.forall_mem_cons.mpr ⟨s_iload C (by decide +kernel : decode c_X10_wed 151 = .ok (.iload 10, 2)) rfl rfl, ?_⟩
  refine List.forall_mem_cons.mpr ⟨s_iald C (by decide +kernel : decode c_X10_wed 153 = .ok (.iaload, 1)) rfl rfl, ?_⟩
  refine List.forall_mem_cons.mpr ⟨s_iconst C (by decide +kernel : decode c_X10_wed 154 = .ok (.iconst (-1), 1)) rfl rfl (by decide), ?_⟩
  refine List.forall_mem_cons.mpr ⟨s_icmpeq C (by decide +kernel : decode c_X10_wed 155 = .ok (.if_icmp .eq 41, 3)) (by decide) rfl rfl rfl, ?_⟩
  refine List.forall_mem_cons.mpr ⟨s_aload_n C (by decide +kernel : decode c_X10_wed 158 = .ok (.aload_n 0, 1)) rfl rfl rfl, ?_⟩
  refine List.forall_mem_cons.mpr ⟨s_getf C (by decide +kernel : decode c_X10_wed 159 = .ok (.getfield 42, 3)) rfl rfl em_cl_X10 (by decide) ew711 rfl, ?_⟩
  refine List.forall_mem_cons.mpr ⟨s_aload_n C (by decide +kernel : decode c_X10_wed 162 = .ok (.aload_n 0, 1)) rfl rfl rfl, ?_⟩
  refine List.forall_mem_cons.mpr ⟨s_getf C (by decide +kernel : decode c_X10_wed 163 = .ok (.getfield 42, 3)) rfl rfl em_cl_X10 (by decide) ew711 rfl, ?_⟩
  refine List.forall_mem_cons.mpr ⟨s_iload C (by decide +kernel : decode c_X10_wed 166 = .ok (.iload 10, 2)) rfl rfl, ?_⟩
  refine List.forall_mem_cons.mpr ⟨s_iald C (by decide +kernel : decode c_X10_wed 168 = .ok (.iaload, 1)) rfl rfl, ?_⟩
  refine List.forall_mem_cons.mpr ⟨s_iald C (by decide +kernel : decode c_X10_wed 169 = .ok (.iaload, 1)) rfl rfl, ?_⟩
  refine List.forall_mem_cons.mpr ⟨s_iload C (by decide +kernel : decode c_X10_wed 170 = .ok (.iload 10, 2)) rfl rfl, ?_⟩
  refine List.forall_mem_cons.mpr ⟨s_icmpne C (by decide +kernel : decode c_X10_wed 172 = .ok (.if_icmp .ne 28, 3)) (by decide) rfl rfl rfl, ?_⟩
  refine List.forall_mem_cons.mpr ⟨s_aload_n C (by decide +kernel : decode c_X10_wed 175 = .ok (.aload_n 0, 1)) rfl rfl rfl, ?_⟩
  refine List.forall_mem_cons.mpr ⟨s_getf C (by decide +kernel : decode c_X10_wed 176 = .ok (.getfield 39, 3)) rfl rfl em_cl_X10 (by decide) ew710 rfl, ?_⟩
  refine List.forall_mem_cons.mpr ⟨s_iload C (by decide +kernel : decode c_X10_wed 179 = .ok (.iload 10, 2)) rfl rfl, ?_⟩
  refine List.forall_mem_cons.mpr ⟨s_iald C (by decide +kernel : decode c_X10_wed 181 = .ok (.iaload, 1)) rfl rfl, ?_⟩
  refine List.forall_mem_cons.mpr ⟨s_aload_n C (by decide +kernel : decode c_X10_wed 182 = .ok (.aload_n 0, 1)) rfl rfl rfl, ?_⟩
  refine List.forall_mem_cons.mpr ⟨s_getf C (by decide +kernel : decode c_X10_wed 183 = .ok (.getfield 42, 3)) rfl rfl em_cl_X10 (by decide) ew711 rfl, ?_⟩
  refine List.forall_mem_cons.mpr ⟨s_iload C (by decide +kernel : decode c_X10_wed 186 = .ok (.iload 10, 2)) rfl rfl, ?_⟩
  refine List.forall_mem_cons.mpr ⟨s_iald C (by decide +kernel : decode c_X10_wed 188 = .ok (.iaload, 1)) rfl rfl, ?_⟩
  refine List.forall_mem_cons.mpr ⟨s_ishr C (by decide +kernel : decode c_X10_wed 189 = .ok (.ishr, 1)) rfl rfl, ?_⟩
  refine List.forall_mem_cons.mpr ⟨s_iconst C (by decide +kernel : decode c_X10_wed 190 = .ok (.iconst 1, 1)) rfl rfl (by decide), ?_⟩
  refine List.forall_mem_cons.mpr ⟨s_iand C (by decide +kernel : decode c_X10_wed 191 = .ok (.iand, 1)) rfl rfl, ?_⟩
  refine List.forall_mem_cons.mpr ⟨s_iconst C (by decide +kernel : decode c_X10_wed 192 = .ok (.iconst 1, 1)) rfl rfl (by decide), ?_⟩
  refine List.forall_mem_cons.mpr ⟨s_icmpne C (by decide +kernel : decode c_X10_wed 193 = .ok (.if_icmp .ne 7, 3)) (by decide) rfl rfl rfl, ?_⟩
  refine List.forall_mem_cons.mpr ⟨s_iconst C (by decide +kernel : decode c_X10_wed 196 = .ok (.iconst 1, 1)) rfl rfl (by decide), ?_⟩
  refine List.forall_mem_cons.mpr ⟨s_goto C (by decide +kernel : decode c_X10_wed 197 = .ok (.goto 4, 3)) (by decide) rfl, ?_⟩
  refine List.forall_mem_cons.mpr ⟨s_iconst C (by decide +kernel : decode c_X10_wed 200 = .ok (.iconst 0, 1)) rfl rfl (by decide), ?_⟩
  refine List.forall_mem_cons.mpr ⟨s_istore C (by decide +kernel : decode c_X10_wed 201 = .ok (.istore 9, 2)) rfl rfl (by decide), ?_⟩
  refine List.forall_mem_cons.mpr ⟨s_iload C (by decide +kernel : decode c_X10_wed 203 = .ok (.iload 8, 2)) rfl rfl, ?_⟩
  refine List.forall_mem_cons.mpr ⟨s_aload_n C (by decide +kernel : decode c_X10_wed 205 = .ok (.aload_n 0, 1)) rfl rfl rfl, ?_⟩
  refine List.forall_mem_cons.mpr ⟨s_getf C (by decide +kernel : decode c_X10_wed 206 = .ok (.getfield 42, 3)) rfl rfl em_cl_X10 (by decide) ew711 rfl, ?_⟩
  refine List.forall_mem_cons.mpr ⟨s_iload C (by decide +kernel : decode c_X10_wed 209 = .ok (.iload 10, 2)) rfl rfl, ?_⟩
  refine List.forall_mem_cons.mpr ⟨s_iald C (by decide +kernel : decode c_X10_wed 211 = .ok (.iaload, 1)) rfl rfl, ?_⟩
  refine List.forall_mem_cons.mpr ⟨s_iconst C (by decide +kernel : decode c_X10_wed 212 = .ok (.iconst (-1), 1)) rfl rfl (by decide), ?_⟩
  refine List.forall_mem_cons.mpr ⟨s_icmpne C (by decide +kernel : decode c_X10_wed 213 = .ok (.if_icmp .ne 7, 3)) (by decide) rfl rfl rfl, ?_⟩
  refine List.forall_mem_cons.mpr ⟨s_iconst C (by decide +kernel : decode c_X10_wed 216 = .ok (.iconst 0, 1)) rfl rfl (by decide), ?_⟩
  refine List.forall_mem_cons.mpr ⟨s_goto C (by decide +kernel : decode c_X10_wed 217 = .ok (.goto 4, 3)) (by decide) rfl, ?_⟩
  refine List.forall_mem_cons.mpr ⟨s_iconst C (by decide +kernel : decode c_X10_wed 220 = .ok (.iconst 1, 1)) rfl rfl (by decide), ?_⟩
  refine List.forall_mem_cons.mpr ⟨s_iadd C (by decide +kernel : decode c_X10_wed 221 = .ok (.iadd, 1)) rfl rfl, ?_⟩
  refine List.forall_mem_cons.mpr ⟨s_istore C (by decide +kernel : decode c_X10_wed 222 = .ok (.istore 8, 2)) rfl rfl (by decide), ?_⟩
  refine List.forall_mem_cons.mpr ⟨s_iinc C (by decide +kernel : decode c_X10_wed 224 = .ok (.iinc 10 1, 3)) rfl rfl (by decide) (by decide), ?_⟩
  refine List.forall_mem_cons.mpr ⟨s_goto C (by decide +kernel : decode c_X10_wed 227 = .ok (.goto (-91), 3)) (by decide) rfl, ?_⟩
  refine List.forall_mem_cons.mpr ⟨s_iload C (by decide +kernel : decode c_X10_wed 230 = .ok (.iload 9, 2)) rfl rfl, ?_⟩
  refine List.forall_mem_cons.mpr ⟨s_ifeq C (by decide +kernel : decode c_X10_wed 232 = .ok (.ifCond .eq 43, 3)) (by decide) rfl rfl rfl, ?_⟩
  refine List.forall_mem_cons.mpr ⟨s_iload C (by decide +kernel : decode c_X10_wed 235 = .ok (.iload 8, 2)) rfl rfl, ?_⟩
  refine List.forall_mem_cons.mpr ⟨s_iload C (by decide +kernel : decode c_X10_wed 237 = .ok (.iload 4, 2)) rfl rfl, ?_⟩
  refine List.forall_mem_cons.mpr ⟨s_icmple C (by decide +kernel : decode c_X10_wed 239 = .ok (.if_icmp .le 36, 3)) (by decide) rfl rfl rfl, ?_⟩
  refine List.forall_mem_cons.mpr ⟨s_iload C (by decide +kernel : decode c_X10_wed 242 = .ok (.iload 8, 2)) rfl rfl, ?_⟩
  refine List.forall_mem_cons.mpr ⟨s_istore C (by decide +kernel : decode c_X10_wed 244 = .ok (.istore 4, 2)) rfl rfl (by decide), ?_⟩
  refine List.forall_mem_cons.mpr ⟨s_iconst C (by decide +kernel : decode c_X10_wed 246 = .ok (.iconst 0, 1)) rfl rfl (by decide), ?_⟩
  refine List.forall_mem_cons.mpr ⟨s_istore C (by decide +kernel : decode c_X10_wed 247 = .ok (.istore 10, 2)) rfl rfl (by decide), ?_⟩
  refine List.forall_mem_cons.mpr ⟨s_iload C (by decide +kernel : decode c_X10_wed 249 = .ok (.iload 10, 2)) rfl rfl, ?_⟩
  refine List.forall_mem_cons.mpr ⟨s_iload_n C (by decide +kernel : decode c_X10_wed 251 = .ok (.iload_n 3, 1)) rfl rfl rfl, ?_⟩
  refine List.forall_mem_cons.mpr ⟨s_icmpge C (by decide +kernel : decode c_X10_wed 252 = .ok (.if_icmp .ge 23, 3)) (by decide) rfl rfl rfl, ?_⟩
  refine List.forall_mem_cons.mpr ⟨s_aload_n C (by decide +kernel : decode c_X10_wed 255 = .ok (.aload_n 0, 1)) rfl rfl rfl, ?_⟩
  refine List.forall_mem_cons.mpr ⟨s_getf C (by decide +kernel : decode c_X10_wed 256 = .ok (.getfield 45, 3)) rfl rfl em_cl_X10 (by decide) ew712 rfl, ?_⟩
  refine List.forall_mem_cons.mpr ⟨s_iload C (by decide +kernel : decode c_X10_wed 259 = .ok (.iload 10, 2)) rfl rfl, ?_⟩
  refine List.forall_mem_cons.mpr ⟨s_aload_n C (by decide +kernel : decode c_X10_wed 261 = .ok (.aload_n 0, 1)) rfl rfl rfl, ?_⟩
  refine List.forall_mem_cons.mpr ⟨s_getf C (by decide +kernel : decode c_X10_wed 262 = .ok (.getfield 42, 3)) rfl rfl em_cl_X10 (by decide) ew711 rfl, ?_⟩
  refine List.forall_mem_cons.mpr ⟨s_iload C (by decide +kernel : decode c_X10_wed 265 = .ok (.iload 10, 2)) rfl rfl, ?_⟩
  refine List.forall_mem_cons.mpr ⟨s_iald C (by decide +kernel : decode c_X10_wed 267 = .ok (.iaload, 1)) rfl rfl, ?_⟩
  refine List.forall_mem_cons.mpr ⟨s_iast C (by decide +kernel : decode c_X10_wed 268 = .ok (.iastore, 1)) rfl rfl, ?_⟩
  refine List.forall_mem_cons.mpr ⟨s_iinc C (by decide +kernel : decode c_X10_wed 269 = .ok (.iinc 10 1, 3)) rfl rfl (by decide) (by decide), ?_⟩
  refine List.forall_mem_cons.mpr ⟨s_goto C (by decide +kernel : decode c_X10_wed 272 = .ok (.goto (-23), 3)) (by decide) rfl, ?_⟩
  refine List.forall_mem_cons.mpr ⟨s_iinc C (by decide +kernel : decode c_X10_wed 275 = .ok (.iinc 6 1, 3)) rfl rfl (by decide) (by decide), ?_⟩
  refine List.forall_mem_cons.mpr ⟨s_goto C (by decide +kernel : decode c_X10_wed 278 = .ok (.goto (-201), 3)) (by decide) rfl, ?_⟩
  refine List.forall_mem_cons.mpr ⟨s_iload_n C (by decide +kernel : decode c_X10_wed 281 = .ok (.iload_n 2, 1)) rfl rfl rfl, ?_⟩
  refine List.forall_mem_cons.mpr ⟨s_iconst C (by decide +kernel : decode c_X10_wed 282 = .ok (.iconst (-1), 1)) rfl rfl (by decide), ?_⟩
  refine List.forall_mem_cons.mpr ⟨s_icmpne C (by decide +kernel : decode c_X10_wed 283 = .ok (.if_icmp .ne 10, 3)) (by decide) rfl rfl rfl, ?_⟩
  refine List.forall_mem_cons.mpr ⟨s_iload C (by decide +kernel : decode c_X10_wed 286 = .ok (.iload 4, 2)) rfl rfl, ?_⟩
  refine List.forall_mem_cons.mpr ⟨s_iconst C (by decide +kernel : decode c_X10_wed 288 = .ok (.iconst 2, 1)) rfl rfl (by decide), ?_⟩
  refine List.forall_mem_cons.mpr ⟨s_idiv C (by decide +kernel : decode c_X10_wed 289 = .ok (.idiv, 1)) rfl rfl, ?_⟩
  refine List.forall_mem_cons.mpr ⟨s_goto C (by decide +kernel : decode c_X10_wed 290 = .ok (.goto 9, 3)) (by decide) rfl, ?_⟩
  refine List.forall_mem_cons.mpr ⟨s_aload_n C (by decide +kernel : decode c_X10_wed 293 = .ok (.aload_n 0, 1)) rfl rfl rfl, ?_⟩
  refine List.forall_mem_cons.mpr ⟨s_getf C (by decide +kernel : decode c_X10_wed 294 = .ok (.getfield 45, 3)) rfl rfl em_cl_X10 (by decide) ew712 rfl, ?_⟩
  refine List.forall_mem_cons.mpr ⟨s_iload_n C (by decide +kernel : decode c_X10_wed 297 = .ok (.iload_n 2, 1)) rfl rfl rfl, ?_⟩
  refine List.forall_mem_cons.mpr ⟨s_iald C (by decide +kernel : decode c_X10_wed 298 = .ok (.iaload, 1)) rfl rfl, ?_⟩
  refine List.forall_mem_cons.mpr ⟨s_iret C (by decide +kernel : decode c_X10_wed 299 = .ok (.ireturn, 1)) hret hlk ⟨Nat.le_refl 0, Nat.le_refl 0⟩, ?_⟩
  exact fun _ h => absurd h List.not_mem_nil
