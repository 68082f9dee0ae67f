/-! ===== TownText.takeMatters ===== -/
theorem word_in {C : Nat → Nat} {L p : Nat} (hp : p ≤ L) (h : knd C L p = 4) : ∀ j, tkS C L p ≤ j → j < nxp C L p → 97 ≤ C j ∧ C j ≤ 122 ∧ j < L := by
  intro j hj1 hj2
  have z : tkK C L (tkS C L p) = 4 := h
  have hs : ¬ tkS C L p = L := by
    intro q
    unfold tkK at z
    rw [if_pos q] at z
    omega
  have ee : nxp C L p = run C L 97 122 151 (tkS C L p) := by
    have zz := z
    unfold tkK at zz
    rw [if_neg hs] at zz
    by_cases y : isr C L 97 122 (tkS C L p) = true
    · unfold nxp tkE; rw [if_neg hs, if_pos y]
    · rw [if_neg y] at zz
      by_cases x : isr C L 48 57 (tkS C L p) = true
      · rw [if_pos x] at zz; split at zz <;> omega
      · rw [if_neg x] at zz; split at zz <;> omega
  rw [ee] at hj2
  have := isr_lt (run_in 151 _ j hj1 hj2)
  exact ⟨this.2.1, this.2.2, this.1⟩
theorem knd_4 {C : Nat → Nat} {L p : Nat} (h1 : tkS C L p < L) (h2 : 97 ≤ C (tkS C L p)) (h3 : C (tkS C L p) ≤ 122) : knd C L p = 4 := by
  unfold knd tkK
  rw [if_neg (by omega), if_pos (show isr C L 97 122 (tkS C L p) = true from decide_eq_true ⟨h1, h2, h3⟩)]
theorem leR_f {C : Nat → Nat} {s k : Nat} (h : (leR C s k).2 = false) : ∀ r, (leR C s (k + r)).2 = false
  | 0 => h
  | r + 1 => by
    rw [← Nat.add_assoc, leR, leR_f h r, Bool.false_and, if_neg Bool.false_ne_true]
theorem leR_st {C : Nat → Nat} {s k d : Nat} (h : (leR C s k).2 = true) (hd : C (s + k) = 97 + d) (hd9 : d ≤ 9) : leR C s (k + 1) = if (leR C s k).1 < 2 ^ d then ((leR C s k).1 ||| 2 ^ d, true) else ((leR C s k).1, false) := by
  have hp : 0 < 2 ^ d := Nat.two_pow_pos d
  rw [leR, h, hd, show 97 + d - 97 = d by omega, decide_eq_true hd9]
  by_cases z : (leR C s k).1 < 2 ^ d
  · rw [decide_eq_true (Nat.div_eq_of_lt z), if_pos z]; rfl
  · have : ¬ (leR C s k).1 / 2 ^ d = 0 := fun q => z ((Nat.div_eq_zero_iff_lt hp).mp q)
    rw [decide_eq_false this, if_neg z]; rfl
def sp_X8_takeMatters : em_Sp := fun av hp Q => ∃ by9 tln tst ten C L p, av = [.ref 0] ∧ hp = (wY by9 tln tst ten) ∧ TY by9 tln C L ∧ p ≤ L ∧ SY C L p tst ten ∧ (prA C L p true = none → Q (some (.int (-1))) hp) ∧ (∀ a s' e', prA C L p true = some a → SY C L (nxp C L p) s' e' → Q (some (.int (nI a))) (wY by9 tln (s') (e')))
def T_X8_takeMatters : List (Nat × em_Op) := [(0, o_iconst 0 1), (1, o_istore 1 2), (2, o_aload 0 3), (3, o_ldS 1 5), (5, o_call 2 (some 3) (sp_X8_isWord) 8), (8, o_ifne 76 11), (11, o_aload 0 12), (12, o_getf 3 2 15), (15, o_istore 2 16), (16, o_iload 2 17), (17, o_aload 0 18), (18, o_getf 3 3 21), (21, o_icmpge 76 24), (24, o_aload 0 25), (25, o_iload 2 26), (26, o_call 2 (some 3) (sp_X8_at) 29), (29, o_iconst 97 31), (31, o_icmplt 57 34), (34, o_aload 0 35), (35, o_iload 2 36), (36, o_call 2 (some 3) (sp_X8_at) 39), (39, o_iconst 106 41), (41, o_icmpgt 57 44), (44, o_iconst 1 45), (45, o_aload 0 46), (46, o_iload 2 47), (47, o_call 2 (some 3) (sp_X8_at) 50), (50, o_iconst 97 52), (52, o_isub 53), (53, o_ishl 54), (54, o_goto 58), (57, o_iconst 0 58), (58, o_istore 3 59), (59, o_iload 3 60), (60, o_iload 1 61), (61, o_icmpgt 66 64), (64, o_iconst (-1) 65), (65, o_iret), (66, o_iload 1 67), (67, o_iload 3 68), (68, o_ior 69), (69, o_istore 1 70), (70, o_iinc 2 1 73), (73, o_goto 16), (76, o_aload 0 77), (77, o_call 1 (some 3) (sp_X8_step) 80), (80, o_iload 1 81), (81, o_iret)]
theorem me_X8_takeMatters : em_Me T_X8_takeMatters 4 sp_X8_takeMatters := by
  intro Q K hK hle av hp hs
  obtain ⟨by9, tln, tst, ten, C, L, p, rfl, rfl, hT, hp, ⟨rfl, rfl⟩, hno, hq⟩ := hs
  obtain ⟨h1, h2⟩ := tkS_le (C := C) hp
  obtain ⟨n1, n2, n3⟩ := nxp_le (C := C) hp
  have hL := hT.2.2.1
  have hC := hT.2.2.2
  have ee : ¬ tkS C L p = L → tyE C L (tkS C L p) = nxp C L p := fun h => if_neg h
  have hse : tkS C L p < tyE C L (tkS C L p) ∧ tyE C L (tkS C L p) ≤ L + 1 := by
    by_cases h : tkS C L p = L
    · unfold tyE; rw [if_pos h]; omega
    · rw [ee h]
      have := (tkE_le (C := C) h2).2 (by omega)
      unfold nxp at *
      omega
  obtain ⟨s, hs⟩ : ∃ s, s = tkS C L p := ⟨_, rfl⟩
  obtain ⟨e, he⟩ : ∃ e, e = tyE C L s := ⟨_, rfl⟩
  rw [← hs] at h1 h2 ee hse
  rw [← he] at ee hse
  have eA : prA C L p true = if knd C L p = 4 then mtV C s (nxp C L p) else none := by rw [hs]; exact if_pos rfl
  have k4 : knd C L p = 4 → e = nxp C L p := by
    intro h
    refine ee (fun q => ?_)
    unfold knd tkK at h
    rw [← hs, if_pos q] at h
    omega
  refine ⟨Nat.le_of_ble_eq_true rfl, ?_⟩
  have hwo : (wY by9 tln (nI (tkS C L p)) (nI (tyE C L (tkS C L p)))) = (wY by9 tln (nI s) (nI e)) := by rw [he, hs]
  rw [hwo] at hno ⊢
  have fin : ∀ (m : Nat) (x2 x3 : Option Value), prA C L p true = some m → K 76 [some (.ref 0), some (.int (nI m)), x2, x3] [] (wY by9 tln (nI s) (nI e)) := by
    intro m x2 x3 hm
    have hk : knd C L p = 4 := by
      rw [eA] at hm
      by_cases q : knd C L p = 4
      · exact q
      · rw [if_neg q] at hm; cases hm
    refine hK 44 9999 76 _ _ _ ?_
    exact ⟨_, _, _, _, C, L, nxp C L p, rfl, rfl, hT, by rw [k4 hk], n2, fun s' e' h => hq m s' e' hm h⟩
  have bad : ∀ (x1 x2 x3 : Option Value), prA C L p true = none → K 64 [some (.ref 0), x1, x2, x3] [] (wY by9 tln (nI s) (nI e)) := fun x1 x2 x3 h => hK 36 2 64 _ _ _ (hno h)
  have xw : isW C L s e 1 = false → K 11 [some (.ref 0), some (.int 0), none, none] [] (wY by9 tln (nI s) (nI e)) := by
    intro hx
    have hnx : ¬ (e - s = 1 ∧ s < L ∧ C s = 120) := by
      intro q
      rw [isW] at hx
      refine of_decide_eq_false hx ⟨q.1, fun i hi => ?_⟩
      have : i = 0 := by
        have : i < 1 := hi
        omega
      subst this
      exact q.2
    have nonf : knd C L p = 4 → nonB C s (nxp C L p) = false := by
      intro h
      rw [← k4 h]
      unfold nonB
      rw [← Bool.not_eq_true, Bool.and_eq_true, decide_eq_true_eq, decide_eq_true_eq]
      intro q
      refine hnx ⟨q.1, ?_, q.2⟩
      have := word_in hp h s (by omega) (by rw [← k4 h]; omega)
      omega
    have none_ : ∀ k, k < e - s → (knd C L p = 4 → (leR C s (k + 1)).2 = false) → prA C L p true = none := by
      intro k hk h
      rw [eA]
      by_cases q : knd C L p = 4
      · rw [if_pos q, mtV, nonf q, if_neg Bool.false_ne_true, ← k4 q]
        have := leR_f (h q) (e - s - (k + 1))
        rw [show k + 1 + (e - s - (k + 1)) = e - s by omega] at this
        rw [this, if_neg Bool.false_ne_true]
      · rw [if_neg q]
    have loop : ∀ (r k : Nat) (x3 : Option Value), k + r = e - s → (leR C s k).2 = true → (∀ j, j < k → s + j < L ∧ 97 ≤ C (s + j) ∧ C (s + j) ≤ 106) → K 16 [some (.ref 0), some (.int (nI (leR C s k).1)), some (.int (nI (s + k))), x3] [] (wY by9 tln (nI s) (nI e)) := by
      intro r
      induction r with
      | zero =>
        intro k x3 hk2 h3 h4
        have hk2 : k = e - s := by omega
        subst hk2
        have h40 := h4 0 (by omega)
        have hk : knd C L p = 4 := knd_4 (by rw [← hs]; exact h40.1) (by rw [← hs]; exact h40.2.1) (by rw [← hs]; have := h40.2.2; rw [Nat.add_zero] at this; omega)
        have hA : prA C L p true = some (leR C s (e - s)).1 := by
          rw [eA, if_pos hk, mtV, nonf hk, if_neg Bool.false_ne_true, ← k4 hk, if_pos h3]
        refine hK 9 4 16 _ _ _ ?_
        exact ⟨fun _ => fin _ _ _ hA, fun q => absurd (nI_le (by omega) (by omega)) q⟩
      | succ r ih =>
        intro k x3 hk2 h3 h4
        have hck := hC (s + k)
        have hle1 := leR_lt (C := C) (s := s) k
        have zero : (knd C L p = 4 → (leR C s (k + 1)).2 = false) → K 57 [some (.ref 0), some (.int (nI (leR C s k).1)), some (.int (nI (s + k))), x3] [] (wY by9 tln (nI s) (nI e)) := by
          intro h
          refine hK 31 5 57 _ _ _ ?_
          exact ⟨fun q => absurd q (nI_pos (by omega)), fun _ => bad _ _ _ (none_ k (by omega) h)⟩
        have off : ¬ (s + k < L ∧ 97 ≤ C (s + k) ∧ C (s + k) ≤ 106) → K 57 [some (.ref 0), some (.int (nI (leR C s k).1)), some (.int (nI (s + k))), x3] [] (wY by9 tln (nI s) (nI e)) := by
          intro h
          refine zero (fun q => ?_)
          have hw := word_in hp q (s + k) (by omega) (by rw [← k4 q]; omega)
          have : ¬ C (s + k) - 97 ≤ 9 := by omega
          rw [leR, decide_eq_false this, Bool.false_and, Bool.and_false, if_neg Bool.false_ne_true]
        refine hK 9 22 16 _ _ _ ?_
        refine ⟨fun q => absurd q (nI_ge (by omega) (by omega)), fun _ => ?_⟩
        refine ⟨_, _, _, _, C, L, s + k, rfl, rfl, hT, by omega, fun q1 => ?_, fun q1 => ?_⟩
        · refine off (fun w => ?_)
          rw [atC, if_pos w.1] at q1
          exact nI_nlt (a := C (s + k)) (b := 97) w.2.1 (by omega) q1
        · refine ⟨_, _, _, _, C, L, s + k, rfl, rfl, hT, by omega, fun q2 => ?_, fun q2 => ?_⟩
          · refine off (fun w => ?_)
            rw [atC, if_pos w.1] at q2
            exact nI_nlt (a := 106) (b := C (s + k)) w.2.2 (by omega) q2
          · have w : s + k < L ∧ 97 ≤ C (s + k) ∧ C (s + k) ≤ 106 := by
              have := (atC_lt (L := L) (i := s + k) (lo := 97) (hi := 106) hC (by omega) (by omega)).mp ⟨q1, q2⟩
              exact isr_lt this
            obtain ⟨d, hd⟩ : ∃ d, C (s + k) = 97 + d := ⟨C (s + k) - 97, by omega⟩
            have st := leR_st h3 hd (by omega)
            have b58 : K 58 [some (.ref 0), some (.int (nI (leR C s k).1)), some (.int (nI (s + k))), x3] [.int (nI (2 ^ d))] (wY by9 tln (nI s) (nI e)) := by
              refine hK 32 4 58 _ _ _ ?_
              have p31 : 2 ^ d < 1024 := p2_lt d (by omega)
              refine ⟨fun q => ?_, fun q => ?_⟩
              · have q : (leR C s k).1 < 2 ^ d := by
                  rcases Nat.lt_or_ge (leR C s k).1 (2 ^ d) with z | z
                  · exact z
                  · exact absurd q (nI_nlt z (by omega))
                rw [if_pos q] at st
                have := ih (k + 1) (some (.int (nI (2 ^ d)))) (by omega) (by rw [st]) (fun j hj => by
                  rcases Nat.lt_or_ge j k with z | z
                  · exact h4 j z
                  · have : j = k := by omega
                    subst this
                    exact w)
                rw [st, show s + (k + 1) = (s + k) + 1 by omega, ← nI_1 (s + k), ← nI_or] at this
                exact hK 38 6 66 _ _ _ this
              · have q : ¬ (leR C s k).1 < 2 ^ d := fun z => q (nI_lt z (by omega))
                exact bad _ _ _ (none_ k (by omega) (fun _ => by rw [st, if_neg q]))
            have ea : atC C L (s + k) = nI (97 + d) := by rw [atC, if_pos w.1, hd]
            have ed : nI (97 + d) - 97 = nI d := by
              have : nI (97 + d) - nI 97 = nI (97 + d - 97) := pk_sub (by omega)
              rw [show 97 + d - 97 = d by omega] at this
              exact this
            rw [← shl_nI d (by omega), ← ed, ← ea] at b58
            exact ⟨_, _, _, _, C, L, s + k, rfl, rfl, hT, by omega, b58⟩
    have l0 := loop (e - s) 0 none (by omega) rfl (fun j hj => by omega)
    exact hK 6 3 11 _ _ _ l0
  refine hK 0 6 0 _ _ _ ?_
  refine ⟨_, _, _, _, C, L, s, e, 1, rfl, rfl, hT, rfl, rfl, by omega, by omega, by omega, fun z => ?_, fun z => ?_⟩
  · have z := b1_tt z
    have z := of_decide_eq_true z
    have z1 : e - s = 1 := z.1
    have z2 : s < L ∧ C s = 120 := z.2 0 (by decide)
    have hk : knd C L p = 4 := knd_4 (by rw [← hs]; exact z2.1) (by rw [← hs]; omega) (by rw [← hs]; omega)
    have hA : prA C L p true = some 0 := by
      rw [eA, if_pos hk, mtV, if_pos]
      unfold nonB
      rw [← k4 hk, decide_eq_true z1, decide_eq_true z2.2]; rfl
    exact fin 0 none none hA
  · exact xw (b1_0.mp z)
abbrev rm_X8_takeMatters : Room := { frames := 5, cells := 0, slots := 0, locals := 107 }
set_option maxRecDepth 100000 in
set_option maxHeartbeats 4000000 in
theorem ct_X8_takeMatters (l : Launch) (D : va_G) (dA : Nat → ClassId) (σ : Nat → Nat) : em_CT l D em_cl dA σ (em_F σ) y_X8_takeMatters c_X8_takeMatters 4 (Option.some ClassFile.FieldType.int) rm_X8_takeMatters (sp_X8_takeMatters ) := by
  refine em_CT_of (T := T_X8_takeMatters ) (em_F_ok σ) (by decide) (fun p e s m args below meth c A ρ Q C hFok hF hret hlk hin => ?_) (me_X8_takeMatters )
  unfold T_X8_takeMatters
  refine List.forall_mem_cons.mpr ⟨s_iconst C (by decide +kernel : decode c_X8_takeMatters 0 = .ok (.iconst 0, 1)) rfl rfl (by decide), ?_⟩
  refine List.forall_mem_cons.mpr ⟨s_istore_n C (by decide +kernel : decode c_X8_takeMatters 1 = .ok (.istore_n 1, 1)) rfl rfl rfl (by decide), ?_⟩
  refine List.forall_mem_cons.mpr ⟨s_aload_n C (by decide +kernel : decode c_X8_takeMatters 2 = .ok (.aload_n 0, 1)) rfl rfl rfl, ?_⟩
  refine List.forall_mem_cons.mpr ⟨s_ldS C hF (k := 1) rfl (by decide +kernel : decode c_X8_takeMatters 3 = .ok (.ldc 81, 2)) rfl rfl, ?_⟩
  refine List.forall_mem_cons.mpr ⟨s_callV C hFok hF (ct_X8_isWord l D dA σ) ⟨rfl, rfl⟩ ew304 em_cl_X8 ew301 ew303 ewp7 ew2 ⟨by decide, by decide, by decide +kernel⟩ ⟨by decide, by decide⟩ (by decide +kernel : decode c_X8_takeMatters 5 = .ok (.invokevirtual 38, 3)) rfl rfl ⟨Nat.zero_le _, Nat.zero_le _⟩, ?_⟩
  refine List.forall_mem_cons.mpr ⟨s_ifne C (by decide +kernel : decode c_X8_takeMatters 8 = .ok (.ifCond .ne 68, 3)) (by decide) rfl rfl rfl, ?_⟩
  refine List.forall_mem_cons.mpr ⟨s_aload_n C (by decide +kernel : decode c_X8_takeMatters 11 = .ok (.aload_n 0, 1)) rfl rfl rfl, ?_⟩
  refine List.forall_mem_cons.mpr ⟨s_getf C (by decide +kernel : decode c_X8_takeMatters 12 = .ok (.getfield 25, 3)) rfl rfl em_cl_X8 (by decide) ew36 rfl, ?_⟩
  refine List.forall_mem_cons.mpr ⟨s_istore_n C (by decide +kernel : decode c_X8_takeMatters 15 = .ok (.istore_n 2, 1)) rfl rfl rfl (by decide), ?_⟩
  refine List.forall_mem_cons.mpr ⟨s_iload_n C (by decide +kernel : decode c_X8_takeMatters 16 = .ok (.iload_n 2, 1)) rfl rfl rfl, ?_⟩
  refine List.forall_mem_cons.mpr ⟨s_aload_n C (by decide +kernel : decode c_X8_takeMatters 17 = .ok (.aload_n 0, 1)) rfl rfl rfl, ?_⟩
  refine List.forall_mem_cons.mpr ⟨s_getf C (by decide +kernel : decode c_X8_takeMatters 18 = .ok (.getfield 19, 3)) rfl rfl em_cl_X8 (by decide) ew37 rfl, ?_⟩
  refine List.forall_mem_cons.mpr ⟨s_icmpge C (by decide +kernel : decode c_X8_takeMatters 21 = .ok (.if_icmp .ge 55, 3)) (by decide) rfl rfl rfl, ?_⟩
  refine List.forall_mem_cons.mpr ⟨s_aload_n C (by decide +kernel : decode c_X8_takeMatters 24 = .ok (.aload_n 0, 1)) rfl rfl rfl, ?_⟩
  refine List.forall_mem_cons.mpr ⟨s_iload_n C (by decide +kernel : decode c_X8_takeMatters 25 = .ok (.iload_n 2, 1)) rfl rfl rfl, ?_⟩
  refine List.forall_mem_cons.mpr ⟨s_callV C hFok hF (ct_X8_at l D dA σ) ⟨rfl, rfl⟩ ew287 em_cl_X8 ew284 ew286 ewp3 ew2 ⟨by decide, by decide, by decide +kernel⟩ ⟨by decide, by decide⟩ (by decide +kernel : decode c_X8_takeMatters 26 = .ok (.invokevirtual 71, 3)) rfl rfl ⟨Nat.zero_le _, Nat.zero_le _⟩, ?_⟩
  refine List.forall_mem_cons.mpr ⟨s_bipush C (by decide +kernel : decode c_X8_takeMatters 29 = .ok (.bipush 97, 2)) rfl rfl (by decide), ?_⟩
  refine List.forall_mem_cons.mpr ⟨s_icmplt C (by decide +kernel : decode c_X8_takeMatters 31 = .ok (.if_icmp .lt 26, 3)) (by decide) rfl rfl rfl, ?_⟩
  refine List.forall_mem_cons.mpr ⟨s_aload_n C (by decide +kernel : decode c_X8_takeMatters 34 = .ok (.aload_n 0, 1)) rfl rfl rfl, ?_⟩
  refine List.forall_mem_cons.mpr ⟨s_iload_n C (by decide +kernel : decode c_X8_takeMatters 35 = .ok (.iload_n 2, 1)) rfl rfl rfl, ?_⟩
  refine List.forall_mem_cons.mpr ⟨s_callV C hFok hF (ct_X8_at l D dA σ) ⟨rfl, rfl⟩ ew287 em_cl_X8 ew284 ew286 ewp3 ew2 ⟨by decide, by decide, by decide +kernel⟩ ⟨by decide, by decide⟩ (by decide +kernel : decode c_X8_takeMatters 36 = .ok (.invokevirtual 71, 3)) rfl rfl ⟨Nat.zero_le _, Nat.zero_le _⟩, ?_⟩
  refine List.forall_mem_cons.mpr ⟨s_bipush C (by decide +kernel : decode c_X8_takeMatters 39 = .ok (.bipush 106, 2)) rfl rfl (by decide), ?_⟩
  refine List.forall_mem_cons.mpr ⟨s_icmpgt C (by decide +kernel : decode c_X8_takeMatters 41 = .ok (.if_icmp .gt 16, 3)) (by decide) rfl rfl rfl, ?_⟩
  refine List.forall_mem_cons.mpr ⟨s_iconst C (by decide +kernel : decode c_X8_takeMatters 44 = .ok (.iconst 1, 1)) rfl rfl (by decide), ?_⟩
  refine List.forall_mem_cons.mpr ⟨s_aload_n C (by decide +kernel : decode c_X8_takeMatters 45 = .ok (.aload_n 0, 1)) rfl rfl rfl, ?_⟩
  refine List.forall_mem_cons.mpr ⟨s_iload_n C (by decide +kernel : decode c_X8_takeMatters 46 = .ok (.iload_n 2, 1)) rfl rfl rfl, ?_⟩
  refine List.forall_mem_cons.mpr ⟨s_callV C hFok hF (ct_X8_at l D dA σ) ⟨rfl, rfl⟩ ew287 em_cl_X8 ew284 ew286 ewp3 ew2 ⟨by decide, by decide, by decide +kernel⟩ ⟨by decide, by decide⟩ (by decide +kernel : decode c_X8_takeMatters 47 = .ok (.invokevirtual 71, 3)) rfl rfl ⟨Nat.zero_le _, Nat.zero_le _⟩, ?_⟩
  refine List.forall_mem_cons.mpr ⟨s_bipush C (by decide +kernel : decode c_X8_takeMatters 50 = .ok (.bipush 97, 2)) rfl rfl (by decide), ?_⟩
  refine List.forall_mem_cons.mpr ⟨s_isub C (by decide +kernel : decode c_X8_takeMatters 52 = .ok (.isub, 1)) rfl rfl, ?_⟩
  refine List.forall_mem_cons.mpr ⟨s_ishl C (by decide +kernel : decode c_X8_takeMatters 53 = .ok (.ishl, 1)) rfl rfl, ?_⟩
  refine List.forall_mem_cons.mpr ⟨s_goto C (by decide +kernel : decode c_X8_takeMatters 54 = .ok (.goto 4, 3)) (by decide) rfl, ?_⟩
  refine List.forall_mem_cons.mpr ⟨s_iconst C (by decide +kernel : decode c_X8_takeMatters 57 = .ok (.iconst 0, 1)) rfl rfl (by decide), ?_⟩
  refine List.forall_mem_cons.mpr ⟨s_istore_n C (by decide +kernel : decode c_X8_takeMatters 58 = .ok (.istore_n 3, 1)) rfl rfl rfl (by decide), ?_⟩
  refine List.forall_mem_cons.mpr ⟨s_iload_n C (by decide +kernel : decode c_X8_takeMatters 59 = .ok (.iload_n 3, 1)) rfl rfl rfl, ?_⟩
  refine List.forall_mem_cons.mpr ⟨s_iload_n C (by decide +kernel : decode c_X8_takeMatters 60 = .ok (.iload_n 1, 1)) rfl rfl rfl, ?_⟩
  refine List.forall_mem_cons.mpr ⟨s_icmpgt C (by decide +kernel : decode c_X8_takeMatters 61 = .ok (.if_icmp .gt 5, 3)) (by decide) rfl rfl rfl, ?_⟩
  refine List.forall_mem_cons.mpr ⟨s_iconst C (by decide +kernel : decode c_X8_takeMatters 64 = .ok (.iconst (-1), 1)) rfl rfl (by decide), ?_⟩
  refine List.forall_mem_cons.mpr ⟨s_iret C (by decide +kernel : decode c_X8_takeMatters 65 = .ok (.ireturn, 1)) hret hlk ⟨Nat.le_refl 0, Nat.le_refl 0⟩, ?_⟩
  refine List.forall_mem_cons.mpr ⟨s_iload_n C (by decide +kernel : decode c_X8_takeMatters 66 = .ok (.iload_n 1, 1)) rfl rfl rfl, ?_⟩
  refine List.forall_mem_cons.mpr ⟨s_iload_n C (by decide +kernel : decode c_X8_takeMatters 67 = .ok (.iload_n 3, 1)) rfl rfl rfl, ?_⟩
  refine List.forall_mem_cons.mpr ⟨s_ior C (by decide +kernel : decode c_X8_takeMatters 68 = .ok (.ior, 1)) rfl rfl, ?_⟩
  refine List.forall_mem_cons.mpr ⟨s_istore_n C (by decide +kernel : decode c_X8_takeMatters 69 = .ok (.istore_n 1, 1)) rfl rfl rfl (by decide), ?_⟩
  refine List.forall_mem_cons.mpr ⟨s_iinc C (by decide +kernel : decode c_X8_takeMatters 70 = .ok (.iinc 2 1, 3)) rfl rfl (by decide) (by decide), ?_⟩
  refine List.forall_mem_cons.mpr ⟨s_goto C (by decide +kernel : decode c_X8_takeMatters 73 = .ok (.goto (-57), 3)) (by decide) rfl, ?_⟩
  refine List.forall_mem_cons.mpr ⟨s_aload_n C (by decide +kernel : decode c_X8_takeMatters 76 = .ok (.aload_n 0, 1)) rfl rfl rfl, ?_⟩
  refine List.forall_mem_cons.mpr ⟨s_callV C hFok hF (ct_X8_step l D dA σ) ⟨rfl, rfl⟩ ew283 em_cl_X8 ew280 ew282 ewp2 ew2 ⟨by decide, by decide, by decide +kernel⟩ ⟨by decide, by decide⟩ (by decide +kernel : decode c_X8_takeMatters 77 = .ok (.invokevirtual 22, 3)) rfl rfl ⟨Nat.zero_le _, Nat.zero_le _⟩, ?_⟩
  refine List.forall_mem_cons.mpr ⟨s_iload_n C (by decide +kernel : decode c_X8_takeMatters 80 = .ok (.iload_n 1, 1)) rfl rfl rfl, ?_⟩
  refine List.forall_mem_cons.mpr ⟨s_iret C (by decide +kernel : decode c_X8_takeMatters 81 = .ok (.ireturn, 1)) hret hlk ⟨Nat.le_refl 0, Nat.le_refl 0⟩, ?_⟩
  exact fun _ h => absurd h List.not_mem_nil
