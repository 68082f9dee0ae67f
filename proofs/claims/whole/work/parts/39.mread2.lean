/-! ===== WedApartModel.read ===== -/
def tlL (B : Nat → Nat) : List (Nat × Nat × Nat) → Nat × (Nat → Nat) × Bool
  | [] => (0, B, true)
  | x :: r => match tlB B x.1 x.2.1 x.2.2 with
    | none => (0, B, false)
    | some B' => ((tlL B' r).1 + 1, (tlL B' r).2)
def emB (B : Nat → Nat) : Nat → Nat := fun j => if j < 146 then em0 j else B j
theorem emI_B (B : Nat → Nat) : emI (nB B) 146 = nB (emB B) := by
  funext j
  unfold emI nB emB
  split <;> rfl
theorem emB_I (B : Nat → Nat) : BI (emB B) := by
  refine ⟨?_, ?_, ?_, ?_, ?_⟩ <;> (unfold emB em0; simp)
theorem nmN_lt {C : Nat → Nat} {s : Nat} (hC : ∀ j, C j < 128) : ∀ k, nmN C s k < 1000 ∧ (k ≤ 1 → nmN C s k < 80)
  | 0 => by rw [nmN]; omega
  | k + 1 => by
    obtain ⟨h1, h2⟩ := nmN_lt (s := s) hC k
    have hc := hC (s + k)
    rw [nmN]
    by_cases z : k < 2
    · rw [if_pos z]
      have h2 := h2 (by omega)
      refine ⟨by omega, fun q => ?_⟩
      have hk : k = 0 := by omega
      subst hk
      rw [nmN]; omega
    · rw [if_neg z]; omega
theorem mtV_lt {C : Nat → Nat} {s e m : Nat} (h : mtV C s e = some m) : m < 1024 := by
  unfold mtV at h
  split at h
  · have := Option.some.inj h; omega
  · split at h
    · have e2 := Option.some.inj h
      have := leR_lt (C := C) (s := s) (e - s)
      omega
    · cases h
theorem prA_lt {C : Nat → Nat} {L p a : Nat} {lt : Bool} (hC : ∀ j, C j < 128) (h : prA C L p lt = some a) : a < 2000 := by
  unfold prA at h
  split at h
  · split at h
    · have := mtV_lt h; omega
    · cases h
  · split at h
    · have e := Option.some.inj h
      have := (nmN_lt (s := tkS C L p) hC (nxp C L p - tkS C L p)).1
      omega
    · cases h
def okI (x : Nat × Nat × Nat) : Prop := x.1 < 4 ∧ x.2.1 < 2000 ∧ x.2.2 < 2000
theorem prE_ok {C : Nat → Nat} {L p v a b : Nat} {x : Nat × Nat × Nat × Nat} (h : prE C L p v a b = .inr x) : x.1 = v ∧ x.2.1 = a ∧ x.2.2.1 = b := by
  unfold prE at h
  split at h
  · have e := Sum.inr.inj h
    subst e
    exact ⟨rfl, rfl, rfl⟩
  · cases h
theorem prI_ok {C : Nat → Nat} {L p : Nat} {x : Nat × Nat × Nat × Nat} (hC : ∀ j, C j < 128) (h : prI C L p = .inr x) : okI (x.1, x.2.1, x.2.2.1) := by
  rw [prI] at h
  cases hV : prV C L p with
  | none => rw [hV] at h; cases h
  | some v =>
    have hv : v < 4 := by
      unfold prV at hV
      split at hV
      · exact vbN_lt hV
      · cases hV
    rw [hV] at h
    cases hA : prA C L (nxp C L p) (decide (v = 1)) with
    | none =>
      have h : (match prA C L (nxp C L p) (decide (v = 1)) with
        | none => Sum.inl (tkS C L (nxp C L p))
        | some a => prB C L (nxp C L (nxp C L p)) v a) = Sum.inr x := h
      rw [hA] at h; cases h
    | some a =>
      have ha := prA_lt hC hA
      have h : (match prA C L (nxp C L p) (decide (v = 1)) with
        | none => Sum.inl (tkS C L (nxp C L p))
        | some a => prB C L (nxp C L (nxp C L p)) v a) = Sum.inr x := h
      rw [hA] at h
      have h : prB C L (nxp C L (nxp C L p)) v a = Sum.inr x := h
      unfold prB at h
      split at h
      · obtain ⟨e1, e2, e3⟩ := prE_ok h
        exact ⟨by show x.1 < 4; omega, by show x.2.1 < 2000; omega, by show x.2.2.1 < 2000; omega⟩
      · cases hB : prA C L (nxp C L (nxp C L p)) (decide (v = 0)) with
        | none => rw [hB] at h; cases h
        | some b =>
          have hb := prA_lt hC hB
          rw [hB] at h
          obtain ⟨e1, e2, e3⟩ := prE_ok h
          exact ⟨by show x.1 < 4; omega, by show x.2.1 < 2000; omega, by show x.2.2.1 < 2000; omega⟩
theorem prs_ok {C : Nat → Nat} {L : Nat} (hC : ∀ j, C j < 128) : ∀ f p x, x ∈ (prs C L f p).1 → okI x
  | 0, p, x, h => by rw [prs] at h; cases h
  | f + 1, p, x, h => by
    rw [prs] at h
    split at h
    · cases h
    · cases hI : prI C L p with
      | inl q => rw [hI] at h; cases h
      | inr y =>
        obtain ⟨v, a, b, p'⟩ := y
        rw [hI] at h
        have h : x ∈ (v, a, b) :: (prs C L f p').1 := h
        rcases List.mem_cons.mp h with q | q
        · rw [q]; exact prI_ok hC hI
        · exact prs_ok hC f p' x q
def asI_ (bk asd : Nat → Int32) (k : Nat) : Nat → Int32 := fun j => if j < k then bk j else asd j
theorem asI_0 (bk asd : Nat → Int32) : asI_ bk asd 0 = asd := by
  funext j; exact if_neg (by omega)
theorem asI_s (bk asd : Nat → Int32) (k : Nat) : upd (asI_ bk asd k) k (bk k) = asI_ bk asd (k + 1) := by
  funext j
  by_cases h : j = k
  · subst h; rw [pk_us]; unfold asI_; rw [if_pos (by omega)]
  · rw [pk_un h]; unfold asI_
    by_cases h2 : j < k
    · rw [if_pos h2, if_pos (by omega)]
    · rw [if_neg h2, if_neg (by omega)]
def sp_X10_read : em_Sp := fun av hp Q => ∃ B im kp asd rf qt ab be tx ty at9 st9 tk vl wd it mn so sb my we be9 rw fr C L, av = [.ref 0] ∧ hp = (wM (nB B) im kp asd rf (0) ab be tx ty at9 st9 tk vl wd it mn so sb my we be9 rw fr) ∧ qt = 0 ∧ TX tx ty C L ∧ (∀ f at' st' tk' vl' wd' it' mn', (prs C L 151 0).2 = some f → Q (some (.int ((-10) - nI f))) (wM (nB B) im kp asd rf (0) ab be tx ty (at') (st') (tk') (vl') (wd') (it') (mn') so sb my we be9 rw fr)) ∧ (∀ at' st' tk' vl' wd' it' mn' asd', (prs C L 151 0).2 = none → ((tlL (emB B) (prs C L 151 0).1).2.2 = true → Q (some (.int (nI (prs C L 151 0).1.length))) (wM (nB (tlL (emB B) (prs C L 151 0).1).2.1) im kp (asd') rf (0) ab be tx ty (at') (st') (tk') (vl') (wd') (it') (mn') so sb my we be9 rw fr)) ∧ ((tlL (emB B) (prs C L 151 0).1).2.2 = false → Q (some (.int ((-1000) - nI (tlL (emB B) (prs C L 151 0).1).1))) (wM (nB B) im kp (asd') rf (0) ab be tx ty (at') (st') (tk') (vl') (wd') (it') (mn') so sb my we be9 rw fr)))
def T_X10_read : List (Nat × em_Op) := [(0, o_aload 0 1), (1, o_call 1 (some 5) (sp_X10_reads) 4), (4, o_ifne 15 7), (7, o_iconst (-10) 9), (9, o_aload 0 10), (10, o_getf 5 11 13), (13, o_isub 14), (14, o_iret), (15, o_iconst 0 16), (16, o_istore 1 17), (17, o_iload 1 18), (18, o_iconst 146 21), (21, o_icmpge 42 24), (24, o_aload 0 25), (25, o_getf 5 3 28), (28, o_iload 1 29), (29, o_aload 0 30), (30, o_getf 5 0 33), (33, o_iload 1 34), (34, o_aldI 0 35), (35, o_iast 36), (36, o_iinc 1 1 39), (39, o_goto 17), (42, o_aload 0 43), (43, o_call 1 (some 5) (sp_X10_empties) 46), (46, o_aload 0 47), (47, o_iconst 1 48), (48, o_putZ 5 5 51), (51, o_iconst 0 52), (52, o_istore 1 53), (53, o_iload 1 54), (54, o_aload 0 55), (55, o_getf 5 16 58), (58, o_icmpge 75 61), (61, o_aload 0 62), (62, o_iload 1 63), (63, o_call 2 (some 5) (sp_X10_tellsItem) 66), (66, o_ifeq 75 69), (69, o_iinc 1 1 72), (72, o_goto 53), (75, o_aload 0 76), (76, o_iconst 0 77), (77, o_putZ 5 5 80), (80, o_iload 1 81), (81, o_aload 0 82), (82, o_getf 5 16 85), (85, o_icmpne 93 88), (88, o_aload 0 89), (89, o_getf 5 16 92), (92, o_iret), (93, o_iconst 0 94), (94, o_istore 2 95), (95, o_iload 2 96), (96, o_iconst 146 99), (99, o_icmpge 120 102), (102, o_aload 0 103), (103, o_getf 5 0 106), (106, o_iload 2 107), (107, o_aload 0 108), (108, o_getf 5 3 111), (111, o_iload 2 112), (112, o_aldI 0 113), (113, o_iast 114), (114, o_iinc 2 1 117), (117, o_goto 95), (120, o_iconst (-1000) 123), (123, o_iload 1 124), (124, o_isub 125), (125, o_iret)]
theorem me_X10_read : em_Me T_X10_read 3 sp_X10_read := by
  intro Q K hK hle av hp hs
  obtain ⟨B, im, kp, asd, rf, qt, ab, be, tx, ty, at9, st9, tk, vl, wd, it, mn, so, sb, my, we, be9, rw, fr, C, L, rfl, rfl, hqt, hTX, hqF, hqT⟩ := hs
  have hok := prs_ok (L := L) hTX.2.2.2 151 0
  obtain ⟨R, hR⟩ : ∃ R, R = prs C L 151 0 := ⟨_, rfl⟩
  rw [← hR] at hqF hqT hok
  refine ⟨Nat.le_of_ble_eq_true rfl, hK 0 10 0 _ _ _ ?_⟩
  refine ⟨_, _, _, _, _, _, _, _, _, _, _, _, _, _, _, _, _, _, _, _, _, _, _, _, C, L, rfl, rfl, hTX, fun f at' tk' vl' wd' it' mn' hf => ?_, fun at' st' tk' vl' wd' it' hf hl hh => ?_⟩
  · rw [← hR] at hf
    exact ⟨fun y => absurd rfl y, fun _ => hqF f _ _ _ _ _ _ _ hf⟩
  · rw [← hR] at hf hl hh
    rw [← hR]
    refine ⟨fun _ => ?_, fun y => absurd y (by decide)⟩
    have hq := fun asd' => hqT at' st' tk' vl' wd' it' (nI R.1.length) asd' hf
    -- the whole fold
    have told : ∀ (r : List (Nat × Nat × Nat)) (n : Nat) (D : Nat → Nat), n + r.length = R.1.length → (∀ i, r[i]? = R.1[n + i]?) → BI D → (∀ j, 146 ≤ j → D j = B j) → (tlL (emB B) R.1 = ((tlL D r).1 + n, (tlL D r).2)) → K 53 [some (.ref 0), some (.int (nI n)), none] [] (wM (nB D) im kp (asI_ (nB B) asd 146) rf (1) ab be tx ty (at') (st') (tk') (vl') (wd') (it') (nI R.1.length) so sb my we be9 rw fr) := by
      intro r
      induction r with
      | nil =>
        intro n D hn hr hBI ht he
        have hn : n = R.1.length := by
          have : ([] : List (Nat × Nat × Nat)).length = 0 := rfl
          omega
        rw [tlL] at he
        have h1 := (hq (asI_ (nB B) asd 146)).1 (by rw [he])
        rw [he] at h1
        subst hn
        have fin : K 75 [some (.ref 0), some (.int (nI R.1.length)), none] [] (wM (nB D) im kp (asI_ (nB B) asd 146) rf (1) ab be tx ty (at') (st') (tk') (vl') (wd') (it') (nI R.1.length) so sb my we be9 rw fr) := by
          refine hK 40 10 75 _ _ _ ?_
          exact ⟨Or.inl rfl, fun y => absurd rfl y, fun _ => h1⟩
        refine hK 30 10 53 _ _ _ ?_
        exact ⟨fun _ => fin, fun y => absurd (nI_le (Nat.le_refl R.1.length) (by omega)) y⟩
      | cons x r ih =>
        intro n D hn hr hBI ht he
        have hn2 : n + (r.length + 1) = R.1.length := hn
        have hx : R.1[n]? = some x := by
          have := hr 0
          rw [Nat.add_zero] at this
          rw [← this]; rfl
        obtain ⟨g0, g1, g2⟩ := hh n x hx
        have hxm : x ∈ R.1 := List.mem_of_getElem? hx
        obtain ⟨o1, o2, o3⟩ := hok x hxm
        refine hK 30 10 53 _ _ _ ?_
        refine ⟨fun y => absurd y (nI_ge (by omega) (by omega)), fun _ => ?_⟩
        refine ⟨_, _, _, _, _, _, _, _, _, _, _, _, _, _, _, _, _, _, _, _, _, _, _, _, n, x.1, x.2.1, x.2.2, rfl, rfl, by omega, hBI, o1, o2, o3, g0, g1, g2, rfl, fun c => ?_, fun D' c => ?_⟩
        · rw [tlL, c] at he
          have h1 := (hq (asI_ (nB B) asd 146)).2 (by rw [he])
          rw [he] at h1
          have h1 : Q (some (.int ((-1000) - nI (0 + n)))) (wM (nB B) im kp (asI_ (nB B) asd 146) rf (0) ab be tx ty (at') (st') (tk') (vl') (wd') (it') (nI R.1.length) so sb my we be9 rw fr) := h1
          rw [Nat.zero_add] at h1
          have back : ∀ (q j : Nat), j + q = 146 → K 95 [some (.ref 0), some (.int (nI n)), some (.int (nI j))] [] (wM (asI_ (nB B) (nB D) j) im kp (asI_ (nB B) asd 146) rf (0) ab be tx ty (at') (st') (tk') (vl') (wd') (it') (nI R.1.length) so sb my we be9 rw fr) := by
            intro q
            induction q with
            | zero =>
              intro j hj
              have hj : j = 146 := by omega
              subst hj
              have e : asI_ (nB B) (nB D) 146 = nB B := by
                funext j
                unfold asI_
                by_cases h : j < 146
                · rw [if_pos h]
                · rw [if_neg h]; unfold nB; rw [ht j (by omega)]
              rw [e]
              refine hK 52 9999 95 _ _ _ ?_
              exact ⟨fun _ => h1, fun y => absurd (nI_le (a := 146) (b := 146) (by omega) (by omega)) y⟩
            | succ q ihq =>
              intro j hj
              have := ihq (j + 1) (by omega)
              have ea : asI_ (nB B) asd 146 j = nB B j := if_pos (by omega)
              rw [← asI_s, ← nI_1 j, ← ea] at this
              refine hK 52 9999 95 _ _ _ ?_
              refine ⟨fun y => absurd y (nI_ge (a := j) (b := 146) (by omega) (by omega)), fun _ => ?_⟩
              exact ⟨j, rfl, by omega, j, rfl, by omega, this⟩
          have b0 := back 146 0 (by omega)
          rw [asI_0] at b0
          have fin : K 75 [some (.ref 0), some (.int (nI n)), none] [] (wM (nB D) im kp (asI_ (nB B) asd 146) rf (1) ab be tx ty (at') (st') (tk') (vl') (wd') (it') (nI R.1.length) so sb my we be9 rw fr) := by
            refine hK 40 12 75 _ _ _ ?_
            exact ⟨Or.inl rfl, fun _ => b0, fun y => absurd ((nI_eq (by omega) (by omega)).mp y) (by omega)⟩
          exact ⟨fun _ => fin, fun y => absurd rfl y⟩
        · rw [tlL, c] at he
          obtain ⟨hI', ht'⟩ := tlB_I hBI c
          have := ih (n + 1) D' (by omega) (fun i => by
            have h9 := hr (i + 1)
            rw [show n + 1 + i = n + (i + 1) by omega, ← h9]
            rfl) hI' (fun j hj => by rw [ht' j hj, ht j hj]) (by rw [he]; show ((tlL D' r).1 + 1 + n, (tlL D' r).2) = _; rw [show (tlL D' r).1 + 1 + n = (tlL D' r).1 + (n + 1) by omega])
          rw [← nI_1 n] at this
          exact ⟨fun y => absurd y (by decide), fun _ => this⟩
    have t0 := told R.1 0 (emB B) (by omega) (fun i => by rw [Nat.zero_add]) (emB_I B) (fun j hj => if_neg (by omega)) (by rw [Nat.add_zero])
    rw [← emI_B] at t0
    have aside : ∀ (q j : Nat), j + q = 146 → K 17 [some (.ref 0), some (.int (nI j)), none] [] (wM (nB B) im kp (asI_ (nB B) asd j) rf (0) ab be tx ty (at') (st') (tk') (vl') (wd') (it') (nI R.1.length) so sb my we be9 rw fr) := by
      intro q
      induction q with
      | zero =>
        intro j hj
        have hj : j = 146 := by omega
        subst hj
        refine hK 10 20 17 _ _ _ ?_
        refine ⟨fun _ => ?_, fun y => absurd (nI_le (a := 146) (b := 146) (by omega) (by omega)) y⟩
        exact ⟨_, _, _, _, _, _, _, _, _, _, _, _, _, _, _, _, _, _, _, _, _, _, _, _, rfl, rfl, Or.inr rfl, t0⟩
      | succ q ihq =>
        intro j hj
        have := ihq (j + 1) (by omega)
        rw [← asI_s, ← nI_1 j] at this
        refine hK 10 20 17 _ _ _ ?_
        refine ⟨fun y => absurd y (nI_ge (a := j) (b := 146) (by omega) (by omega)), fun _ => ?_⟩
        exact ⟨j, rfl, by omega, j, rfl, by omega, this⟩
    have a0 := aside 146 0 (by omega)
    rw [asI_0] at a0
    exact a0
abbrev rm_X10_read : Room := { frames := 5, cells := 0, slots := 0, locals := 115 }
set_option maxRecDepth 100000 in
set_option maxHeartbeats 4000000 in
theorem ct_X10_read (l : Launch) (D : va_G) (dA : Nat → ClassId) (σ : Nat → Nat) : em_CT l D em_cl dA σ (em_F σ) y_X10_read c_X10_read 3 (Option.some ClassFile.FieldType.int) rm_X10_read (sp_X10_read ) := by
  refine em_CT_of (T := T_X10_read ) (em_F_ok σ) (by decide) (fun p e s m args below meth c A ρ Q C hFok hF hret hlk hin => ?_) (me_X10_read )
  unfold T_X10_read
  refine List.forall_mem_cons.mpr ⟨s_aload_n C (by decide +kernel : decode c_X10_read 0 = .ok (.aload_n 0, 1)) rfl rfl rfl, ?_⟩
  refine List.forall_mem_cons.mpr ⟨s_callV C hFok hF (ct_X10_reads l D dA σ) ⟨rfl, rfl⟩ ew841 em_cl_X10 ew838 ew840 ewp19 ew6 ⟨by decide, by decide, by decide +kernel⟩ ⟨by decide, by decide⟩ (by decide +kernel : decode c_X10_read 1 = .ok (.invokevirtual 169, 3)) rfl rfl ⟨Nat.zero_le _, Nat.zero_le _⟩, ?_⟩
  refine List.forall_mem_cons.mpr ⟨s_ifne C (by decide +kernel : decode c_X10_read 4 = .ok (.ifCond .ne 11, 3)) (by decide) rfl rfl rfl, ?_⟩
  refine List.forall_mem_cons.mpr ⟨s_bipush C (by decide +kernel : decode c_X10_read 7 = .ok (.bipush (-10), 2)) rfl rfl (by decide), ?_⟩
  refine List.forall_mem_cons.mpr ⟨s_aload_n C (by decide +kernel : decode c_X10_read 9 = .ok (.aload_n 0, 1)) rfl rfl rfl, ?_⟩
  refine List.forall_mem_cons.mpr ⟨s_getf C (by decide +kernel : decode c_X10_read 10 = .ok (.getfield 112, 3)) rfl rfl em_cl_X10 (by decide) ew702 rfl, ?_⟩
  refine List.forall_mem_cons.mpr ⟨s_isub C (by decide +kernel : decode c_X10_read 13 = .ok (.isub, 1)) rfl rfl, ?_⟩
  refine List.forall_mem_cons.mpr ⟨s_iret C (by decide +kernel : decode c_X10_read 14 = .ok (.ireturn, 1)) hret hlk ⟨Nat.le_refl 0, Nat.le_refl 0⟩, ?_⟩
  refine List.forall_mem_cons.mpr ⟨s_iconst C (by decide +kernel : decode c_X10_read 15 = .ok (.iconst 0, 1)) rfl rfl (by decide), ?_⟩
  refine List.forall_mem_cons.mpr ⟨s_istore_n C (by decide +kernel : decode c_X10_read 16 = .ok (.istore_n 1, 1)) rfl rfl rfl (by decide), ?_⟩
  refine List.forall_mem_cons.mpr ⟨s_iload_n C (by decide +kernel : decode c_X10_read 17 = .ok (.iload_n 1, 1)) rfl rfl rfl, ?_⟩
  refine List.forall_mem_cons.mpr ⟨s_sipush C (by decide +kernel : decode c_X10_read 18 = .ok (.sipush 146, 3)) rfl rfl (by decide), ?_⟩
  refine List.forall_mem_cons.mpr ⟨s_icmpge C (by decide +kernel : decode c_X10_read 21 = .ok (.if_icmp .ge 21, 3)) (by decide) rfl rfl rfl, ?_⟩
  refine List.forall_mem_cons.mpr ⟨s_aload_n C (by decide +kernel : decode c_X10_read 24 = .ok (.aload_n 0, 1)) rfl rfl rfl, ?_⟩
  refine List.forall_mem_cons.mpr ⟨s_getf C (by decide +kernel : decode c_X10_read 25 = .ok (.getfield 20, 3)) rfl rfl em_cl_X10 (by decide) ew694 rfl, ?_⟩
  refine List.forall_mem_cons.mpr ⟨s_iload_n C (by decide +kernel : decode c_X10_read 28 = .ok (.iload_n 1, 1)) rfl rfl rfl, ?_⟩
  refine List.forall_mem_cons.mpr ⟨s_aload_n C (by decide +kernel : decode c_X10_read 29 = .ok (.aload_n 0, 1)) rfl rfl rfl, ?_⟩
  refine List.forall_mem_cons.mpr ⟨s_getf C (by decide +kernel : decode c_X10_read 30 = .ok (.getfield 7, 3)) rfl rfl em_cl_X10 (by decide) ew691 rfl, ?_⟩
  refine List.forall_mem_cons.mpr ⟨s_iload_n C (by decide +kernel : decode c_X10_read 33 = .ok (.iload_n 1, 1)) rfl rfl rfl, ?_⟩
  refine List.forall_mem_cons.mpr ⟨s_iald C (by decide +kernel : decode c_X10_read 34 = .ok (.iaload, 1)) rfl rfl, ?_⟩
  refine List.forall_mem_cons.mpr ⟨s_iast C (by decide +kernel : decode c_X10_read 35 = .ok (.iastore, 1)) rfl rfl, ?_⟩
  refine List.forall_mem_cons.mpr ⟨s_iinc C (by decide +kernel : decode c_X10_read 36 = .ok (.iinc 1 1, 3)) rfl rfl (by decide) (by decide), ?_⟩
  refine List.forall_mem_cons.mpr ⟨s_goto C (by decide +kernel : decode c_X10_read 39 = .ok (.goto (-22), 3)) (by decide) rfl, ?_⟩
  refine List.forall_mem_cons.mpr ⟨s_aload_n C (by decide +kernel : decode c_X10_read 42 = .ok (.aload_n 0, 1)) rfl rfl rfl, ?_⟩
  refine List.forall_mem_cons.mpr ⟨s_callV C hFok hF (ct_X10_empties l D dA σ) ⟨rfl, rfl⟩ ew690 em_cl_X10 ew687 ew689 ewp12 ew6 ⟨by decide, by decide, by decide +kernel⟩ ⟨by decide, by decide⟩ (by decide +kernel : decode c_X10_read 43 = .ok (.invokevirtual 58, 3)) rfl rfl ⟨Nat.zero_le _, Nat.zero_le _⟩, ?_⟩
  refine List.forall_mem_cons.mpr ⟨s_aload_n C (by decide +kernel : decode c_X10_read 46 = .ok (.aload_n 0, 1)) rfl rfl rfl, ?_⟩
  refine List.forall_mem_cons.mpr ⟨s_iconst C (by decide +kernel : decode c_X10_read 47 = .ok (.iconst 1, 1)) rfl rfl (by decide), ?_⟩
  refine List.forall_mem_cons.mpr ⟨s_putZ C (by decide +kernel : decode c_X10_read 48 = .ok (.putfield 61, 3)) rfl rfl em_cl_X10 (by decide) ew696 rfl (by decide) (by decide +kernel), ?_⟩
  refine List.forall_mem_cons.mpr ⟨s_iconst C (by decide +kernel : decode c_X10_read 51 = .ok (.iconst 0, 1)) rfl rfl (by decide), ?_⟩
  refine List.forall_mem_cons.mpr ⟨s_istore_n C (by decide +kernel : decode c_X10_read 52 = .ok (.istore_n 1, 1)) rfl rfl rfl (by decide), ?_⟩
  refine List.forall_mem_cons.mpr ⟨s_iload_n C (by decide +kernel : decode c_X10_read 53 = .ok (.iload_n 1, 1)) rfl rfl rfl, ?_⟩
  refine List.forall_mem_cons.mpr ⟨s_aload_n C (by decide +kernel : decode c_X10_read 54 = .ok (.aload_n 0, 1)) rfl rfl rfl, ?_⟩
  refine List.forall_mem_cons.mpr ⟨s_getf C (by decide +kernel : decode c_X10_read 55 = .ok (.getfield 143, 3)) rfl rfl em_cl_X10 (by decide) ew707 rfl, ?_⟩
  refine List.forall_mem_cons.mpr ⟨s_icmpge C (by decide +kernel : decode c_X10_read 58 = .ok (.if_icmp .ge 17, 3)) (by decide) rfl rfl rfl, ?_⟩
  refine List.forall_mem_cons.mpr ⟨s_aload_n C (by decide +kernel : decode c_X10_read 61 = .ok (.aload_n 0, 1)) rfl rfl rfl, ?_⟩
  refine List.forall_mem_cons.mpr ⟨s_iload_n C (by decide +kernel : decode c_X10_read 62 = .ok (.iload_n 1, 1)) rfl rfl rfl, ?_⟩
  refine List.forall_mem_cons.mpr ⟨s_callV C hFok hF (ct_X10_tellsItem l D dA σ) ⟨rfl, rfl⟩ ew872 em_cl_X10 ew869 ew871 ewp24 ew6 ⟨by decide, by decide, by decide +kernel⟩ ⟨by decide, by decide⟩ (by decide +kernel : decode c_X10_read 63 = .ok (.invokevirtual 173, 3)) rfl rfl ⟨Nat.zero_le _, Nat.zero_le _⟩, ?_⟩
  refine List.forall_mem_cons.mpr ⟨s_ifeq C (by decide +kernel : decode c_X10_read 66 = .ok (.ifCond .eq 9, 3)) (by decide) rfl rfl rfl, ?_⟩
  refine List.forall_mem_cons.mpr ⟨s_iinc C (by decide +kernel : decode c_X10_read 69 = .ok (.iinc 1 1, 3)) rfl rfl (by decide) (by decide), ?_⟩
  refine List.forall_mem_cons.mpr ⟨s_goto C (by decide +kernel : decode c_X10_read 72 = .ok (.goto (-19), 3)) (by decide) rfl, ?_⟩
  refine List.forall_mem_cons.mpr ⟨s_aload_n C (by decide +kernel : decode c_X10_read 75 = .ok (.aload_n 0, 1)) rfl rfl rfl, ?_⟩
  refine List.forall_mem_cons.mpr ⟨s_iconst C (by decide +kernel : decode c_X10_read 76 = .ok (.iconst 0, 1)) rfl rfl (by decide), ?_⟩
  refine List.forall_mem_cons.mpr ⟨s_putZ C (by decide +kernel : decode c_X10_read 77 = .ok (.putfield 61, 3)) rfl rfl em_cl_X10 (by decide) ew696 rfl (by decide) (by decide +kernel), ?_⟩
  refine List.forall_mem_cons.mpr ⟨s_iload_n C (by decide +kernel : decode c_X10_read 80 = .ok (.iload_n 1, 1)) rfl rfl rfl, ?_⟩
  refine List.forall_mem_cons.mpr ⟨s_aload_n C (by decide +kernel : decode c_X10_read 81 = .ok (.aload_n 0, 1)) rfl rfl rfl, ?_⟩
  refine List.forall_mem_cons.mpr ⟨s_getf C (by decide +kernel : decode c_X10_read 82 = .ok (.getfield 143, 3)) rfl rfl em_cl_X10 (by decide) ew707 rfl, ?_⟩
  refine List.forall_mem_cons.mpr ⟨s_icmpne C (by decide +kernel : decode c_X10_read 85 = .ok (.if_icmp .ne 8, 3)) (by decide) rfl rfl rfl, ?_⟩
  refine List.forall_mem_cons.mpr ⟨s_aload_n C (by decide +kernel : decode c_X10_read 88 = .ok (.aload_n 0, 1)) rfl rfl rfl, ?_⟩
  refine List.forall_mem_cons.mpr ⟨s_getf C (by decide +kernel : decode c_X10_read 89 = .ok (.getfield 143, 3)) rfl rfl em_cl_X10 (by decide) ew707 rfl, ?_⟩
  refine List.forall_mem_cons.mpr ⟨s_iret C (by decide +kernel : decode c_X10_read 92 = .ok (.ireturn, 1)) hret hlk ⟨Nat.le_refl 0, Nat.le_refl 0⟩, ?_⟩
  refine List.forall_mem_cons.mpr ⟨s_iconst C (by decide +kernel : decode c_X10_read 93 = .ok (.iconst 0, 1)) rfl rfl (by decide), ?_⟩
  refine List.forall_mem_cons.mpr ⟨s_istore_n C (by decide +kernel : decode c_X10_read 94 = .ok (.istore_n 2, 1)) rfl rfl rfl (by decide), ?_⟩
  refine List.forall_mem_cons.mpr ⟨s_iload_n C (by decide +kernel : decode c_X10_read 95 = .ok (.iload_n 2, 1)) rfl rfl rfl, ?_⟩
  refine List.forall_mem_cons.mpr ⟨s_sipush C (by decide +kernel : decode c_X10_read 96 = .ok (.sipush 146, 3)) rfl rfl (by decide), ?_⟩
  refine List.forall_mem_cons.mpr ⟨s_icmpge C (by decide +kernel : decode c_X10_read 99 = .ok (.if_icmp .ge 21, 3)) (by decide) rfl rfl rfl, ?_⟩
  refine List.forall_mem_cons.mpr ⟨s_aload_n C (by decide +kernel : decode c_X10_read 102 = .ok (.aload_n 0, 1)) rfl rfl rfl, ?_⟩
  refine List.forall_mem_cons.mpr ⟨s_getf C (by decide +kernel : decode c_X10_read 103 = .ok (.getfield 7, 3)) rfl rfl em_cl_X10 (by decide) ew691 rfl, ?_⟩
  refine List.forall_mem_cons.mpr ⟨s_iload_n C (by decide +kernel : decode c_X10_read 106 = .ok (.iload_n 2, 1)) rfl rfl rfl, ?_⟩
  refine List.forall_mem_cons.mpr ⟨s_aload_n C (by decide +kernel : decode c_X10_read 107 = .ok (.aload_n 0, 1)) rfl rfl rfl, ?_⟩
  refine List.forall_mem_cons.mpr ⟨s_getf C (by decide +kernel : decode c_X10_read 108 = .ok (.getfield 20, 3)) rfl rfl em_cl_X10 (by decide) ew694 rfl, ?_⟩
  refine List.forall_mem_cons.mpr ⟨s_iload_n C (by decide +kernel : decode c_X10_read 111 = .ok (.iload_n 2, 1)) rfl rfl rfl, ?_⟩
  refine List.forall_mem_cons.mpr ⟨s_iald C (by decide +kernel : decode c_X10_read 112 = .ok (.iaload, 1)) rfl rfl, ?_⟩
  refine List.forall_mem_cons.mpr ⟨s_iast C (by decide +kernel : decode c_X10_read 113 = .ok (.iastore, 1)) rfl rfl, ?_⟩
  refine List.forall_mem_cons.mpr ⟨s_iinc C (by decide +kernel : decode c_X10_read 114 = .ok (.iinc 2 1, 3)) rfl rfl (by decide) (by decide), ?_⟩
  refine List.forall_mem_cons.mpr ⟨s_goto C (by decide +kernel : decode c_X10_read 117 = .ok (.goto (-22), 3)) (by decide) rfl, ?_⟩
  refine List.forall_mem_cons.mpr ⟨s_sipush C (by decide +kernel : decode c_X10_read 120 = .ok (.sipush (-1000), 3)) rfl rfl (by decide), ?_⟩
  refine List.forall_mem_cons.mpr ⟨s_iload_n C (by decide +kernel : decode c_X10_read 123 = .ok (.iload_n 1, 1)) rfl rfl rfl, ?_⟩
  refine List.forall_mem_cons.mpr ⟨s_isub C (by decide +kernel : decode c_X10_read 124 = .ok (.isub, 1)) rfl rfl, ?_⟩
  refine List.forall_mem_cons.mpr ⟨s_iret C (by decide +kernel : decode c_X10_read 125 = .ok (.ireturn, 1)) hret hlk ⟨Nat.le_refl 0, Nat.le_refl 0⟩, ?_⟩
  exact fun _ h => absurd h List.not_mem_nil
