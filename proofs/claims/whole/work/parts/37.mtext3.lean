/-! ===== items read ===== -/
def nmN (C : Nat → Nat) (s : Nat) : Nat → Nat
  | 0 => 0
  | k + 1 => if k < 2 then 10 * nmN C s k + (C (s + k) - 48) else nmN C s k
theorem nmI_N {C : Nat → Nat} {s : Nat} : ∀ k, (∀ j, j < k → 48 ≤ C (s + j)) → nmI C s k = nI (nmN C s k)
  | 0, _ => rfl
  | k + 1, h => by
    rw [nmI, nmN, nmI_N k (fun j hj => h j (by omega))]
    have hk := h k (by omega)
    by_cases z : k < 2
    · rw [if_pos z, if_pos z]
      have e : (10 : Int32) * nI (nmN C s k) = nI (10 * nmN C s k) := pk_mul 10 _
      rw [e, nI_add]
      have e2 : nI (10 * nmN C s k + C (s + k)) - 48 = nI (10 * nmN C s k + C (s + k) - 48) := pk_sub (b := 48) (by omega)
      rw [e2]
      congr 1
      omega
    · rw [if_neg z, if_neg z]
def vbN (v : Int64) : Option Nat := if v = 542723566 then some 0 else if v = 24873509529 then some 1 else if v = 13190215781 then some 2 else if v = 656779 then some 3 else none
theorem vbI_N (v : Int64) : vbI v = oI (vbN v) := by
  unfold vbI vbN
  by_cases h0 : v = 542723566
  · rw [if_pos h0, if_pos h0]; rfl
  rw [if_neg h0, if_neg h0]
  by_cases h1 : v = 24873509529
  · rw [if_pos h1, if_pos h1]; rfl
  rw [if_neg h1, if_neg h1]
  by_cases h2 : v = 13190215781
  · rw [if_pos h2, if_pos h2]; rfl
  rw [if_neg h2, if_neg h2]
  by_cases h3 : v = 656779
  · rw [if_pos h3, if_pos h3]; rfl
  rw [if_neg h3, if_neg h3]; rfl
theorem vbN_lt {v : Int64} {d : Nat} (h : vbN v = some d) : d < 4 := by
  unfold vbN at h
  split at h
  · cases h; omega
  · split at h
    · cases h; omega
    · split at h
      · cases h; omega
      · split at h
        · cases h; omega
        · cases h
def knd (C : Nat → Nat) (L p : Nat) : Nat := tkK C L (tkS C L p)
def prA (C : Nat → Nat) (L p : Nat) (lt : Bool) : Option Nat :=
  if lt = true then (if knd C L p = 4 then mtV C (tkS C L p) (nxp C L p) else none)
  else (if knd C L p = 2 then some (nmN C (tkS C L p) (nxp C L p - tkS C L p)) else none)
def prV (C : Nat → Nat) (L p : Nat) : Option Nat := if knd C L p = 4 then vbN (wdV C (tkS C L p) (nxp C L p - tkS C L p)) else none
/-- from behind the last number or letters -/
def prE (C : Nat → Nat) (L p : Nat) (v a b : Nat) : Nat ⊕ (Nat × Nat × Nat × Nat) := if knd C L p = 3 then .inr (v, a, b, nxp C L p) else .inl (tkS C L p)
def prB (C : Nat → Nat) (L p : Nat) (v a : Nat) : Nat ⊕ (Nat × Nat × Nat × Nat) := if v = 1 then prE C L p v a 0 else match prA C L p (decide (v = 0)) with
  | none => .inl (tkS C L p)
  | some b => prE C L (nxp C L p) v a b
def prI (C : Nat → Nat) (L p : Nat) : Nat ⊕ (Nat × Nat × Nat × Nat) := match prV C L p with
  | none => .inl (tkS C L p)
  | some v => match prA C L (nxp C L p) (decide (v = 1)) with
    | none => .inl (tkS C L (nxp C L p))
    | some a => prB C L (nxp C L (nxp C L p)) v a
def prs (C : Nat → Nat) (L : Nat) : Nat → Nat → List (Nat × Nat × Nat) × Option Nat
  | 0, _ => ([], none)
  | f + 1, p => if knd C L p = 0 then ([], none) else match prI C L p with
    | .inl q => ([], some q)
    | .inr (v, a, b, p') => ((v, a, b) :: (prs C L f p').1, (prs C L f p').2)
theorem prA_k {C : Nat → Nat} {L p : Nat} {lt : Bool} {a : Nat} (h : prA C L p lt = some a) : knd C L p ≠ 0 := by
  intro q
  cases lt <;> simp [prA, q] at h
theorem num_in {C : Nat → Nat} {L p : Nat} (hp : p ≤ L) (h : knd C L p = 2) : ∀ j, j < nxp C L p - tkS C L p → 48 ≤ C (tkS C L p + j) := by
  intro j hj
  have h2 : tkK C L (tkS C L p) = 2 := h
  unfold tkK at h2
  split at h2
  · omega
  · rename_i z
    split at h2
    · omega
    · rename_i y
      split at h2
      · rename_i x
        have ee : nxp C L p = run C L 48 57 151 (tkS C L p) := by unfold nxp tkE; rw [if_neg z, if_neg y, if_pos x]
        rw [ee] at hj
        exact (isr_lt (run_in (C := C) (L := L) (lo := 48) (hi := 57) 151 (tkS C L p) (tkS C L p + j) (by omega) (by omega))).2.1
      · split at h2 <;> omega
def hld (it : Nat → Int32) (l : List (Nat × Nat × Nat)) : Prop := ∀ i x, l[i]? = some x → it (3 * i) = nI x.1 ∧ it (3 * i + 1) = nI x.2.1 ∧ (x.1 ≠ 1 → it (3 * i + 2) = nI x.2.2)
theorem hld_app {it it' : Nat → Int32} {l : List (Nat × Nat × Nat)} {x : Nat × Nat × Nat} (h : hld it l) (hk : ∀ j, j < 3 * l.length → it' j = it j) (h1 : it' (3 * l.length) = nI x.1) (h2 : it' (3 * l.length + 1) = nI x.2.1) (h3 : x.1 ≠ 1 → it' (3 * l.length + 2) = nI x.2.2) : hld it' (l ++ [x]) := by
  intro i y hy
  rw [List.getElem?_append] at hy
  by_cases hi : i < l.length
  · rw [if_pos hi] at hy
    obtain ⟨a, b, c⟩ := h i y hy
    rw [hk _ (by omega), hk _ (by omega)]
    exact ⟨a, b, fun q => by rw [hk _ (by omega)]; exact c q⟩
  · rw [if_neg hi] at hy
    have hi0 : i - l.length = 0 := by
      rcases Nat.eq_zero_or_pos (i - l.length) with q | q
      · exact q
      · rw [List.getElem?_eq_none (by show [x].length ≤ i - l.length; exact q)] at hy
        cases hy
    rw [hi0] at hy
    have e : x = y := Option.some.inj hy
    have ei : i = l.length := by omega
    subst e
    subst ei
    exact ⟨h1, h2, h3⟩
def sp_X10_reads : em_Sp := fun av hp Q => ∃ bk im kp asd rf qt ab be tx ty at9 st9 tk vl wd it mn so sb my we be9 rw fr C L, av = [.ref 0] ∧ hp = (wM bk im kp asd rf qt ab be tx ty at9 st9 tk vl wd it mn so sb my we be9 rw fr) ∧ TX tx ty C L ∧ (∀ f at' tk' vl' wd' it' mn', (prs C L 151 0).2 = some f → Q (some (.int 0)) (wM bk im kp asd rf qt ab be tx ty (at') (nI f) (tk') (vl') (wd') (it') (mn') so sb my we be9 rw fr)) ∧ (∀ at' st' tk' vl' wd' it', (prs C L 151 0).2 = none → (prs C L 151 0).1.length ≤ 50 → hld it' (prs C L 151 0).1 → Q (some (.int 1)) (wM bk im kp asd rf qt ab be tx ty (at') (st') (tk') (vl') (wd') (it') (nI (prs C L 151 0).1.length) so sb my we be9 rw fr))
def T_X10_reads : List (Nat × em_Op) := [(0, o_aload 0 1), (1, o_iconst 0 2), (2, o_putI 5 10 5), (5, o_aload 0 6), (6, o_iconst 0 7), (7, o_putI 5 16 10), (10, o_aload 0 11), (11, o_call 1 (some 5) (sp_X10_scans) 14), (14, o_aload 0 15), (15, o_getf 5 12 18), (18, o_ifeq 149 21), (21, o_aload 0 22), (22, o_getf 5 12 25), (25, o_iconst 4 26), (26, o_icmpne 39 29), (29, o_aload 0 30), (30, o_getf 5 14 33), (33, o_call 1 none (sp_X10_verbOf) 36), (36, o_goto 40), (39, o_iconst (-1) 40), (40, o_istore 1 41), (41, o_iload 1 42), (42, o_iconst (-1) 43), (43, o_icmpne 48 46), (46, o_iconst 0 47), (47, o_zret), (48, o_iconst 3 49), (49, o_aload 0 50), (50, o_getf 5 16 53), (53, o_imul 54), (54, o_istore 2 55), (55, o_aload 0 56), (56, o_getf 5 15 59), (59, o_iload 2 60), (60, o_iload 1 61), (61, o_iast 62), (62, o_aload 0 63), (63, o_call 1 (some 5) (sp_X10_scans) 66), (66, o_iload 1 67), (67, o_iconst 1 68), (68, o_icmpne 81 71), (71, o_aload 0 72), (72, o_iload 2 73), (73, o_iconst 1 74), (74, o_iadd 75), (75, o_call 2 (some 5) (sp_X10_takesLetters) 78), (78, o_goto 88), (81, o_aload 0 82), (82, o_iload 2 83), (83, o_iconst 1 84), (84, o_iadd 85), (85, o_call 2 (some 5) (sp_X10_takesNumber) 88), (88, o_istore 3 89), (89, o_iload 3 90), (90, o_ifeq 130 93), (93, o_iload 1 94), (94, o_ifne 107 97), (97, o_aload 0 98), (98, o_iload 2 99), (99, o_iconst 2 100), (100, o_iadd 101), (101, o_call 2 (some 5) (sp_X10_takesLetters) 104), (104, o_ifeq 130 107), (107, o_iload 1 108), (108, o_iconst 1 109), (109, o_icmple 122 112), (112, o_aload 0 113), (113, o_iload 2 114), (114, o_iconst 2 115), (115, o_iadd 116), (116, o_call 2 (some 5) (sp_X10_takesNumber) 119), (119, o_ifeq 130 122), (122, o_aload 0 123), (123, o_getf 5 12 126), (126, o_iconst 3 127), (127, o_icmpeq 132 130), (130, o_iconst 0 131), (131, o_zret), (132, o_aload 0 133), (133, o_dup 134), (134, o_getf 5 16 137), (137, o_iconst 1 138), (138, o_iadd 139), (139, o_putI 5 16 142), (142, o_aload 0 143), (143, o_call 1 (some 5) (sp_X10_scans) 146), (146, o_goto 14), (149, o_iconst 1 150), (150, o_zret)]
theorem me_X10_reads : em_Me T_X10_reads 4 sp_X10_reads := by
  intro Q K hK hle av hp hs
  obtain ⟨bk, im, kp, asd, rf, qt, ab, be, tx, ty, at9, st9, tk, vl, wd, it, mn, so, sb, my, we, be9, rw, fr, C, L, rfl, rfl, hTX, hqF, hqT⟩ := hs
  obtain ⟨e1, e2, hL, hC⟩ := hTX
  subst e1
  subst e2
  have tx : TX (nB C) (nI L) C L := ⟨rfl, rfl, hL, hC⟩
  obtain ⟨R, hR⟩ : ∃ R, R = prs C L 151 0 := ⟨_, rfl⟩
  rw [← hR] at hqF hqT
  refine ⟨Nat.le_of_ble_eq_true rfl, ?_⟩
  have flt : ∀ (q : Nat) (a s t v : Int32) (w : Int64) (it' : Nat → Int32) (m : Int32) (x1 x2 x3 : Option Value), R.2 = some q → s = nI q → K 130 [some (.ref 0), x1, x2, x3] [] (wM bk im kp asd rf qt ab be (nB C) (nI L) (a) (s) (t) (v) (w) (it') (m) so sb my we be9 rw fr) := by
    intro q a s t v w it' m x1 x2 x3 hq hsq
    subst hsq
    exact hK 76 2 130 _ _ _ ⟨Or.inl rfl, hqF q _ _ _ _ _ _ hq⟩
  have loop : ∀ (f p : Nat) (l0 : List (Nat × Nat × Nat)) (it' : Nat → Int32) (a s t v : Int32) (w : Int64), p ≤ L → L < p + f → 3 * l0.length ≤ p → ST C L p a s t v w → hld it' l0 → R = (l0 ++ (prs C L f p).1, (prs C L f p).2) → K 14 [some (.ref 0), none, none, none] [] (wM bk im kp asd rf qt ab be (nB C) (nI L) (a) (s) (t) (v) (w) (it') (nI l0.length) so sb my we be9 rw fr) := by
    intro f
    induction f with
    | zero => intro p l0 it' a s t v w h1 h2; omega
    | succ f ih =>
      intro p l0 it' a s t v w hp hf h3 hST hh hRe
      obtain ⟨rfl, rfl, rfl, hv, hw⟩ := hST
      have hk := tkK_lt (C := C) (L := L) (s := tkS C L p)
      obtain ⟨n1, n2, n3⟩ := nxp_le (C := C) hp
      have ek : tkK C L (tkS C L p) = knd C L p := rfl
      rw [ek] at hk hv hw n3
      rw [prs] at hRe
      refine hK 8 3 14 _ _ _ ?_
      refine ⟨fun z => ?_, fun z => ?_⟩
      · have z : knd C L p = 0 := (nI_eq (b := 0) (by omega) (by omega)).mp z
        rw [if_pos z, List.append_nil] at hRe
        have hq := hqT (nI (nxp C L p)) (nI (tkS C L p)) (nI (knd C L p)) v w it' (by rw [hRe]) (by rw [hRe]; show l0.length ≤ 50; omega) (by rw [hRe]; exact hh)
        rw [hRe] at hq
        exact hK 87 9999 149 _ _ _ ⟨Or.inr rfl, hq⟩
      · have z : ¬ knd C L p = 0 := fun q => z (by show nI (knd C L p) = 0; rw [q]; rfl)
        rw [if_neg z] at hRe
        obtain ⟨n4, n5⟩ := n3 z
        have hn : 3 * l0.length + 2 < 150 := by omega
        -- behind the verb
        have verb : ∀ x, x = oI (prV C L p) → K 40 [some (.ref 0), none, none, none] [.int x] (wM bk im kp asd rf qt ab be (nB C) (nI L) (nI (nxp C L p)) (nI (tkS C L p)) (nI (knd C L p)) (v) (w) (it') (nI l0.length) so sb my we be9 rw fr) := by
          intro x hx
          subst hx
          cases hV : prV C L p with
          | none =>
            have hI : prI C L p = .inl (tkS C L p) := by rw [prI, hV]
            rw [hI, List.append_nil] at hRe
            refine hK 20 6 40 _ _ _ ?_
            refine ⟨fun y => absurd rfl y, fun _ => ⟨Or.inl rfl, hqF (tkS C L p) _ _ _ _ _ _ (by rw [hRe])⟩⟩
          | some d =>
            have hd4 : d < 4 := by
              unfold prV at hV
              split at hV
              · exact vbN_lt hV
              · cases hV
            have hI : prI C L p = match prA C L (nxp C L p) (decide (d = 1)) with
              | none => .inl (tkS C L (nxp C L p))
              | some a => prB C L (nxp C L (nxp C L p)) d a := by rw [prI, hV]
            have et : (3 : Int32) * nI l0.length = nI (3 * l0.length) := pk_mul 3 _
            -- behind all of an item but the ;
            have semi : ∀ (p3 : Nat) (a b : Nat) (it3 : Nat → Int32) (x1 x2 x3 : Option Value) (a9 s9 t9 v9 : Int32) (w9 : Int64), prI C L p = prE C L p3 d a b → nxp C L p < p3 → p3 ≤ L → ST C L p3 a9 s9 t9 v9 w9 → (∀ j, j < 3 * l0.length → it3 j = it' j) → it3 (3 * l0.length) = nI d → it3 (3 * l0.length + 1) = nI a → (d ≠ 1 → it3 (3 * l0.length + 2) = nI b) → K 122 [some (.ref 0), x1, x2, x3] [] (wM bk im kp asd rf qt ab be (nB C) (nI L) (a9) (s9) (t9) (v9) (w9) (it3) (nI l0.length) so sb my we be9 rw fr) := by
              intro p3 a b it3 x1 x2 x3 a9 s9 t9 v9 w9 hI2 hp3 hp3L hST3 g0 g1 g2 g3
              obtain ⟨rfl, rfl, rfl, hv3, hw3⟩ := hST3
              have hk3 : knd C L p3 < 5 := tkK_lt
              obtain ⟨m1, m2, m3⟩ := nxp_le (C := C) hp3L
              rw [hI2, prE] at hRe
              refine hK 72 4 122 _ _ _ ?_
              refine ⟨fun y => ?_, fun y => ?_⟩
              · have y : knd C L p3 = 3 := (nI_eq (b := 3) (by omega) (by omega)).mp y
                rw [if_pos y] at hRe
                have ek3 : tkK C L (tkS C L p3) = knd C L p3 := rfl
                rw [ek3] at m3
                obtain ⟨m4, m5⟩ := m3 (by omega)
                refine hK 78 9 132 _ _ _ ?_
                refine ⟨_, _, _, _, _, _, _, _, _, _, _, _, _, _, _, _, _, _, _, _, _, _, _, _, C, L, nxp C L p3, rfl, rfl, tx, rfl, m2, fun vl' wd' c1 c2 => ?_⟩
                have := ih (nxp C L p3) (l0 ++ [(d, a, b)]) it3 _ _ _ vl' wd' m2 (by omega) (by rw [List.length_append]; show 3 * (l0.length + 1) ≤ _; omega) ⟨rfl, rfl, rfl, c1, c2⟩ (hld_app hh g0 g1 g2 g3) (by rw [hRe, List.append_assoc]; rfl)
                rw [List.length_append, show l0.length + [(d, a, b)].length = l0.length + 1 from rfl, ← nI_1] at this
                exact hle _ _ _ _ _ (by repeat (first | exact trivial | refine ⟨rfl, ?_⟩)) this
              · have y : ¬ knd C L p3 = 3 := fun q => y (by show nI (knd C L p3) = 3; rw [q]; rfl)
                rw [if_neg y] at hRe
                exact flt (tkS C L p3) _ _ _ _ _ _ _ _ _ _ (by rw [hRe]) rfl
            have second : ∀ (p2 a : Nat) (it2 : Nat → Int32) (a9 s9 t9 v9 : Int32) (w9 : Int64), prI C L p = prB C L p2 d a → nxp C L p < p2 → p2 ≤ L → ST C L p2 a9 s9 t9 v9 w9 → (∀ j, j < 3 * l0.length → it2 j = it' j) → it2 (3 * l0.length) = nI d → it2 (3 * l0.length + 1) = nI a → K 93 [some (.ref 0), some (.int (nI d)), some (.int (nI (3 * l0.length))), some (.int 1)] [] (wM bk im kp asd rf qt ab be (nB C) (nI L) (a9) (s9) (t9) (v9) (w9) (it2) (nI l0.length) so sb my we be9 rw fr) := by
              intro p2 a it2 a9 s9 t9 v9 w9 hI2 hp2 hp2L hST2 g0 g1 g2
              obtain ⟨m1, m2, m3⟩ := nxp_le (C := C) hp2L
              have hst2 := hST2.2.1
              have noB : prA C L p2 (decide (d = 0)) = none → ¬ d = 1 → ∀ (x1 x2 x3 : Option Value), K 130 [some (.ref 0), x1, x2, x3] [] (wM bk im kp asd rf qt ab be (nB C) (nI L) (a9) (s9) (t9) (v9) (w9) (it2) (nI l0.length) so sb my we be9 rw fr) := by
                intro hn0 h1 x1 x2 x3
                rw [hI2, prB, if_neg h1, hn0] at hRe
                exact flt (tkS C L p2) _ _ _ _ _ _ _ _ _ _ (by rw [hRe]) hst2
              have okB : ∀ b, prA C L p2 (decide (d = 0)) = some b → ¬ d = 1 → ∀ (x1 x2 x3 : Option Value) (b9 c9 e9 f9 : Int32) (h9 : Int64), ST C L (nxp C L p2) b9 c9 e9 f9 h9 → K 122 [some (.ref 0), x1, x2, x3] [] (wM bk im kp asd rf qt ab be (nB C) (nI L) (b9) (c9) (e9) (f9) (h9) (upd it2 (3 * l0.length + 2) (nI b)) (nI l0.length) so sb my we be9 rw fr) := by
                intro b hb h1 x1 x2 x3 b9 c9 e9 f9 h9 hS9
                have m4 := (m3 (prA_k hb)).1
                refine semi (nxp C L p2) a b _ x1 x2 x3 b9 c9 e9 f9 h9 (by rw [hI2, prB, if_neg h1, hb]) (by omega) m2 hS9 (fun j hj => by rw [pk_un (by omega)]; exact g0 j hj) (by rw [pk_un (by omega)]; exact g1) (by rw [pk_un (by omega)]; exact g2) (fun _ => by rw [pk_us])
              have e2 : [Value.ref 0, Value.int (nI (3 * l0.length) + 2)] = [Value.ref 0, Value.int (nI (3 * l0.length + 2))] := by
                rw [show (2 : Int32) = nI 2 from rfl, nI_add]
              by_cases h1 : d = 1
              · subst h1
                have f0 := semi p2 a 0 it2 (some (.int (nI 1))) (some (.int (nI (3 * l0.length)))) (some (.int 1)) a9 s9 t9 v9 w9 (by rw [hI2, prB, if_pos rfl]) hp2 hp2L hST2 g0 g1 g2 (fun q => absurd rfl q)
                refine hK 55 8 93 _ _ _ ?_
                refine ⟨fun _ => ?_, fun y => absurd y (by decide)⟩
                refine hK 63 9 107 _ _ _ ?_
                exact ⟨fun _ => f0, fun y => absurd (by decide) y⟩
              · by_cases h0 : d = 0
                · rw [decide_eq_true h0] at noB okB
                  subst h0
                  refine hK 55 8 93 _ _ _ ?_
                  refine ⟨fun y => absurd rfl y, fun _ => ?_⟩
                  refine ⟨_, _, _, _, _, _, _, _, _, _, _, _, _, _, _, _, _, _, _, _, _, _, _, _, C, L, p2, 3 * l0.length + 2, e2, rfl, tx, hp2L, hST2, hn, fun c0 => ?_, fun c0 c1 => ?_, fun m c0 c1 => ?_⟩
                  · exact ⟨fun _ => noB (by rw [prA, if_pos rfl]; exact if_neg c0) (by omega) _ _ _, fun y => absurd rfl y⟩
                  · exact ⟨fun _ => noB (by rw [prA, if_pos rfl]; exact (if_pos c0).trans c1) (by omega) _ _ _, fun y => absurd rfl y⟩
                  · intro b9 c9 e9 f9 h9 hS9
                    refine ⟨fun y => absurd y (by decide), fun _ => ?_⟩
                    have f0 := okB m (by rw [prA, if_pos rfl]; exact (if_pos c0).trans c1) (by omega) (some (.int (nI 0))) (some (.int (nI (3 * l0.length)))) (some (.int 1)) b9 c9 e9 f9 h9 hS9
                    refine hK 63 9 107 _ _ _ ?_
                    exact ⟨fun _ => f0, fun y => absurd (by decide) y⟩
                · refine hK 55 8 93 _ _ _ ?_
                  refine ⟨fun _ => ?_, fun y => absurd ((nI_eq (a := d) (b := 0) (by omega) (by omega)).mp y) h0⟩
                  have ed : decide (d = 0) = false := decide_eq_false h0
                  rw [ed] at noB okB
                  refine hK 63 9 107 _ _ _ ?_
                  refine ⟨fun y => absurd ((nI_leI (a := d) (b := 1) (by omega) (by omega)).mp y) (by omega), fun _ => ?_⟩
                  refine ⟨_, _, _, _, _, _, _, _, _, _, _, _, _, _, _, _, _, _, _, _, _, _, _, _, C, L, p2, 3 * l0.length + 2, e2, rfl, tx, hp2L, hST2, hn, fun c0 => ?_, fun c0 b9 c9 e9 f9 h9 hS9 => ?_⟩
                  · exact ⟨fun _ => noB (by rw [prA, if_neg Bool.false_ne_true]; exact if_neg c0) h1 _ _ _, fun y => absurd rfl y⟩
                  · refine ⟨fun y => absurd y (by decide), fun _ => ?_⟩
                    rw [nmI_N _ (num_in hp2L c0)]
                    exact okB (nmN C (tkS C L p2) (nxp C L p2 - tkS C L p2)) (by rw [prA, if_neg Bool.false_ne_true]; exact if_pos c0) h1 _ _ _ b9 c9 e9 f9 h9 hS9
            have g1 : upd it' (3 * l0.length) (nI d) (3 * l0.length) = nI d := pk_us
            have g0 : ∀ j, j < 3 * l0.length → upd it' (3 * l0.length) (nI d) j = it' j := fun j hj => pk_un (by omega)
            obtain ⟨m1, m2, m3⟩ := nxp_le (C := C) n2
            have okA : ∀ a, prA C L (nxp C L p) (decide (d = 1)) = some a → ∀ (b9 c9 e9 f9 : Int32) (h9 : Int64), ST C L (nxp C L (nxp C L p)) b9 c9 e9 f9 h9 → K 88 [some (.ref 0), some (.int (nI d)), some (.int (nI (3 * l0.length))), none] [.int 1] (wM bk im kp asd rf qt ab be (nB C) (nI L) (b9) (c9) (e9) (f9) (h9) (upd (upd it' (3 * l0.length) (nI d)) (3 * l0.length + 1) (nI a)) (nI l0.length) so sb my we be9 rw fr) := by
              intro a ha b9 c9 e9 f9 h9 hS9
              have m4 := (m3 (prA_k ha)).1
              refine hK 52 3 88 _ _ _ ?_
              refine ⟨fun y => absurd y (by decide), fun _ => ?_⟩
              exact second (nxp C L (nxp C L p)) a _ b9 c9 e9 f9 h9 (by rw [hI, ha]) m4 m2 hS9 (fun j hj => by rw [pk_un (by omega)]; exact g0 j hj) (by rw [pk_un (by omega)]; exact g1) pk_us
            have noA : prA C L (nxp C L p) (decide (d = 1)) = none → ∀ (b9 c9 e9 f9 : Int32) (h9 : Int64), c9 = nI (tkS C L (nxp C L p)) → K 88 [some (.ref 0), some (.int (nI d)), some (.int (nI (3 * l0.length))), none] [.int 0] (wM bk im kp asd rf qt ab be (nB C) (nI L) (b9) (c9) (e9) (f9) (h9) (upd it' (3 * l0.length) (nI d)) (nI l0.length) so sb my we be9 rw fr) := by
              intro ha b9 c9 e9 f9 h9 hc
              rw [hI, ha] at hRe
              refine hK 52 3 88 _ _ _ ?_
              exact ⟨fun _ => flt (tkS C L (nxp C L p)) _ _ _ _ _ _ _ _ _ _ (by rw [hRe]) hc, fun y => absurd rfl y⟩
            have arg : ∀ (b9 c9 e9 f9 : Int32) (h9 : Int64), ST C L (nxp C L p) b9 c9 e9 f9 h9 → K 66 [some (.ref 0), some (.int (nI d)), some (.int (nI (3 * l0.length))), none] [] (wM bk im kp asd rf qt ab be (nB C) (nI L) (b9) (c9) (e9) (f9) (h9) (upd it' (3 * l0.length) (nI d)) (nI l0.length) so sb my we be9 rw fr) := by
              intro b9 c9 e9 f9 h9 hS9
              have hc9 := hS9.2.1
              have e1 : [Value.ref 0, Value.int (nI (3 * l0.length) + 1)] = [Value.ref 0, Value.int (nI (3 * l0.length + 1))] := by rw [nI_1]
              refine hK 38 14 66 _ _ _ ?_
              refine ⟨fun y => ?_, fun y => ?_⟩
              · have y : ¬ d = 1 := fun q => y (by rw [q]; rfl)
                rw [decide_eq_false y] at okA noA
                refine ⟨_, _, _, _, _, _, _, _, _, _, _, _, _, _, _, _, _, _, _, _, _, _, _, _, C, L, nxp C L p, 3 * l0.length + 1, e1, rfl, tx, n2, hS9, by omega, fun c0 => ?_, fun c0 b8 c8 e8 f8 h8 hS8 => ?_⟩
                · exact noA (by rw [prA, if_neg Bool.false_ne_true]; exact if_neg c0) _ _ _ _ _ hc9
                · rw [nmI_N _ (num_in n2 c0)]
                  exact okA (nmN C (tkS C L (nxp C L p)) (nxp C L (nxp C L p) - tkS C L (nxp C L p))) (by rw [prA, if_neg Bool.false_ne_true]; exact if_pos c0) _ _ _ _ _ hS8
              · have y : d = 1 := (nI_eq (b := 1) (by omega) (by omega)).mp y
                rw [decide_eq_true y] at okA noA
                refine ⟨_, _, _, _, _, _, _, _, _, _, _, _, _, _, _, _, _, _, _, _, _, _, _, _, C, L, nxp C L p, 3 * l0.length + 1, e1, rfl, tx, n2, hS9, by omega, fun c0 => ?_, fun c0 c1 => ?_, fun m c0 c1 b8 c8 e8 f8 h8 hS8 => ?_⟩
                · exact noA (by rw [prA, if_pos rfl]; exact if_neg c0) _ _ _ _ _ hc9
                · exact noA (by rw [prA, if_pos rfl]; exact (if_pos c0).trans c1) _ _ _ _ _ hc9
                · exact okA m (by rw [prA, if_pos rfl]; exact (if_pos c0).trans c1) _ _ _ _ _ hS8
            refine hK 20 6 40 _ _ _ ?_
            refine ⟨fun _ => ?_, fun y => absurd y (nI_m1 (by omega))⟩
            have mid : K 55 [some (.ref 0), some (.int (nI d)), some (.int (nI (3 * l0.length))), none] [] (wM bk im kp asd rf qt ab be (nB C) (nI L) (nI (nxp C L p)) (nI (tkS C L p)) (nI (knd C L p)) (v) (w) (it') (nI l0.length) so sb my we be9 rw fr) := by
              refine hK 31 7 55 _ _ _ ?_
              refine ⟨3 * l0.length, rfl, by omega, _, _, _, _, _, _, _, _, _, _, _, _, _, _, _, _, _, _, _, _, _, _, _, _, C, L, nxp C L p, rfl, rfl, tx, rfl, n2, fun vl' wd' c1 c2 => ?_⟩
              exact arg _ _ _ _ _ ⟨rfl, rfl, rfl, c1, c2⟩
            rw [← et] at mid
            exact hK 26 5 48 _ _ _ (hle _ _ _ _ _ (by repeat (first | exact trivial | refine ⟨rfl, ?_⟩)) mid)
        refine hK 11 9 21 _ _ _ ?_
        refine ⟨fun y => ?_, fun y => ?_⟩
        · have y : ¬ knd C L p = 4 := fun q => y (by show nI (knd C L p) = 4; rw [q]; rfl)
          exact verb _ (by rw [prV, if_neg y]; rfl)
        · have y : knd C L p = 4 := (nI_eq (b := 4) (by omega) (by omega)).mp y
          have hw := hw y
          exact ⟨_, rfl, verb _ (by rw [prV, if_pos y, vbI_N, hw])⟩
  refine hK 0 8 0 _ _ _ ?_
  refine ⟨_, _, _, _, _, _, _, _, _, _, _, _, _, _, _, _, _, _, _, _, _, _, _, _, C, L, 0, rfl, rfl, tx, rfl, Nat.zero_le _, fun vl' wd' c1 c2 => ?_⟩
  exact loop 151 0 [] it _ _ _ vl' wd' (Nat.zero_le _) (by omega) (Nat.le_refl _) ⟨rfl, rfl, rfl, c1, c2⟩ (fun i x h => by cases h) (by rw [hR]; rfl)
abbrev rm_X10_reads : Room := { frames := 4, cells := 0, slots := 0, locals := 92 }
set_option maxRecDepth 100000 in
set_option maxHeartbeats 4000000 in
theorem ct_X10_reads (l : Launch) (D : va_G) (dA : Nat → ClassId) (σ : Nat → Nat) : em_CT l D em_cl dA σ (em_F σ) y_X10_reads c_X10_reads 4 (Option.some ClassFile.FieldType.boolean) rm_X10_reads (sp_X10_reads ) := by
  refine em_CT_of (T := T_X10_reads ) (em_F_ok σ) (by decide) (fun p e s m args below meth c A ρ Q C hFok hF hret hlk hin => ?_) (me_X10_reads )
  unfold T_X10_reads
  refine List.forall_mem_cons.mpr ⟨s_aload_n C (by decide +kernel : decode c_X10_reads 0 = .ok (.aload_n 0, 1)) rfl rfl rfl, ?_⟩
  refine List.forall_mem_cons.mpr ⟨s_iconst C (by decide +kernel : decode c_X10_reads 1 = .ok (.iconst 0, 1)) rfl rfl (by decide), ?_⟩
  refine List.forall_mem_cons.mpr ⟨s_putI C (by decide +kernel : decode c_X10_reads 2 = .ok (.putfield 106, 3)) rfl rfl em_cl_X10 (by decide) ew701 rfl (by decide) (by decide +kernel), ?_⟩
  refine List.forall_mem_cons.mpr ⟨s_aload_n C (by decide +kernel : decode c_X10_reads 5 = .ok (.aload_n 0, 1)) rfl rfl rfl, ?_⟩
  refine List.forall_mem_cons.mpr ⟨s_iconst C (by decide +kernel : decode c_X10_reads 6 = .ok (.iconst 0, 1)) rfl rfl (by decide), ?_⟩
  refine List.forall_mem_cons.mpr ⟨s_putI C (by decide +kernel : decode c_X10_reads 7 = .ok (.putfield 143, 3)) rfl rfl em_cl_X10 (by decide) ew707 rfl (by decide) (by decide +kernel), ?_⟩
  refine List.forall_mem_cons.mpr ⟨s_aload_n C (by decide +kernel : decode c_X10_reads 10 = .ok (.aload_n 0, 1)) rfl rfl rfl, ?_⟩
  refine List.forall_mem_cons.mpr ⟨s_callV C hFok hF (ct_X10_scans l D dA σ) ⟨rfl, rfl⟩ ew845 em_cl_X10 ew842 ew844 ewp20 ew6 ⟨by decide, by decide, by decide +kernel⟩ ⟨by decide, by decide⟩ (by decide +kernel : decode c_X10_reads 11 = .ok (.invokevirtual 140, 3)) rfl rfl ⟨Nat.zero_le _, Nat.zero_le _⟩, ?_⟩
  refine List.forall_mem_cons.mpr ⟨s_aload_n C (by decide +kernel : decode c_X10_reads 14 = .ok (.aload_n 0, 1)) rfl rfl rfl, ?_⟩
  refine List.forall_mem_cons.mpr ⟨s_getf C (by decide +kernel : decode c_X10_reads 15 = .ok (.getfield 115, 3)) rfl rfl em_cl_X10 (by decide) ew703 rfl, ?_⟩
  refine List.forall_mem_cons.mpr ⟨s_ifeq C (by decide +kernel : decode c_X10_reads 18 = .ok (.ifCond .eq 131, 3)) (by decide) rfl rfl rfl, ?_⟩
  refine List.forall_mem_cons.mpr ⟨s_aload_n C (by decide +kernel : decode c_X10_reads 21 = .ok (.aload_n 0, 1)) rfl rfl rfl, ?_⟩
  refine List.forall_mem_cons.mpr ⟨s_getf C (by decide +kernel : decode c_X10_reads 22 = .ok (.getfield 115, 3)) rfl rfl em_cl_X10 (by decide) ew703 rfl, ?_⟩
  refine List.forall_mem_cons.mpr ⟨s_iconst C (by decide +kernel : decode c_X10_reads 25 = .ok (.iconst 4, 1)) rfl rfl (by decide), ?_⟩
  refine List.forall_mem_cons.mpr ⟨s_icmpne C (by decide +kernel : decode c_X10_reads 26 = .ok (.if_icmp .ne 13, 3)) (by decide) rfl rfl rfl, ?_⟩
  refine List.forall_mem_cons.mpr ⟨s_aload_n C (by decide +kernel : decode c_X10_reads 29 = .ok (.aload_n 0, 1)) rfl rfl rfl, ?_⟩
  refine List.forall_mem_cons.mpr ⟨s_getf C (by decide +kernel : decode c_X10_reads 30 = .ok (.getfield 118, 3)) rfl rfl em_cl_X10 (by decide) ew705 rfl, ?_⟩
  refine List.forall_mem_cons.mpr ⟨s_callS C hFok hF (ct_X10_verbOf l D dA σ) ⟨rfl, rfl⟩ ew855 ew853 ew854 ew6 ⟨by decide, by decide, by decide +kernel⟩ ⟨by decide, by decide⟩ (by decide +kernel : decode c_X10_reads 33 = .ok (.invokestatic 146, 3)) rfl rfl ⟨Nat.zero_le _, Nat.zero_le _⟩, ?_⟩
  refine List.forall_mem_cons.mpr ⟨s_goto C (by decide +kernel : decode c_X10_reads 36 = .ok (.goto 4, 3)) (by decide) rfl, ?_⟩
  refine List.forall_mem_cons.mpr ⟨s_iconst C (by decide +kernel : decode c_X10_reads 39 = .ok (.iconst (-1), 1)) rfl rfl (by decide), ?_⟩
  refine List.forall_mem_cons.mpr ⟨s_istore_n C (by decide +kernel : decode c_X10_reads 40 = .ok (.istore_n 1, 1)) rfl rfl rfl (by decide), ?_⟩
  refine List.forall_mem_cons.mpr ⟨s_iload_n C (by decide +kernel : decode c_X10_reads 41 = .ok (.iload_n 1, 1)) rfl rfl rfl, ?_⟩
  refine List.forall_mem_cons.mpr ⟨s_iconst C (by decide +kernel : decode c_X10_reads 42 = .ok (.iconst (-1), 1)) rfl rfl (by decide), ?_⟩
  refine List.forall_mem_cons.mpr ⟨s_icmpne C (by decide +kernel : decode c_X10_reads 43 = .ok (.if_icmp .ne 5, 3)) (by decide) rfl rfl rfl, ?_⟩
  refine List.forall_mem_cons.mpr ⟨s_iconst C (by decide +kernel : decode c_X10_reads 46 = .ok (.iconst 0, 1)) rfl rfl (by decide), ?_⟩
  refine List.forall_mem_cons.mpr ⟨s_zret C (by decide +kernel : decode c_X10_reads 47 = .ok (.ireturn, 1)) hret hlk ⟨Nat.le_refl 0, Nat.le_refl 0⟩, ?_⟩
  refine List.forall_mem_cons.mpr ⟨s_iconst C (by decide +kernel : decode c_X10_reads 48 = .ok (.iconst 3, 1)) rfl rfl (by decide), ?_⟩
  refine List.forall_mem_cons.mpr ⟨s_aload_n C (by decide +kernel : decode c_X10_reads 49 = .ok (.aload_n 0, 1)) rfl rfl rfl, ?_⟩
  refine List.forall_mem_cons.mpr ⟨s_getf C (by decide +kernel : decode c_X10_reads 50 = .ok (.getfield 143, 3)) rfl rfl em_cl_X10 (by decide) ew707 rfl, ?_⟩
  refine List.forall_mem_cons.mpr ⟨s_imul C (by decide +kernel : decode c_X10_reads 53 = .ok (.imul, 1)) rfl rfl, ?_⟩
  refine List.forall_mem_cons.mpr ⟨s_istore_n C (by decide +kernel : decode c_X10_reads 54 = .ok (.istore_n 2, 1)) rfl rfl rfl (by decide), ?_⟩
  refine List.forall_mem_cons.mpr ⟨s_aload_n C (by decide +kernel : decode c_X10_reads 55 = .ok (.aload_n 0, 1)) rfl rfl rfl, ?_⟩
  refine List.forall_mem_cons.mpr ⟨s_getf C (by decide +kernel : decode c_X10_reads 56 = .ok (.getfield 29, 3)) rfl rfl em_cl_X10 (by decide) ew706 rfl, ?_⟩
  refine List.forall_mem_cons.mpr ⟨s_iload_n C (by decide +kernel : decode c_X10_reads 59 = .ok (.iload_n 2, 1)) rfl rfl rfl, ?_⟩
  refine List.forall_mem_cons.mpr ⟨s_iload_n C (by decide +kernel : decode c_X10_reads 60 = .ok (.iload_n 1, 1)) rfl rfl rfl, ?_⟩
  refine List.forall_mem_cons.mpr ⟨s_iast C (by decide +kernel : decode c_X10_reads 61 = .ok (.iastore, 1)) rfl rfl, ?_⟩
  refine List.forall_mem_cons.mpr ⟨s_aload_n C (by decide +kernel : decode c_X10_reads 62 = .ok (.aload_n 0, 1)) rfl rfl rfl, ?_⟩
  refine List.forall_mem_cons.mpr ⟨s_callV C hFok hF (ct_X10_scans l D dA σ) ⟨rfl, rfl⟩ ew845 em_cl_X10 ew842 ew844 ewp20 ew6 ⟨by decide, by decide, by decide +kernel⟩ ⟨by decide, by decide⟩ (by decide +kernel : decode c_X10_reads 63 = .ok (.invokevirtual 140, 3)) rfl rfl ⟨Nat.zero_le _, Nat.zero_le _⟩, ?_⟩
  refine List.forall_mem_cons.mpr ⟨s_iload_n C (by decide +kernel : decode c_X10_reads 66 = .ok (.iload_n 1, 1)) rfl rfl rfl, ?_⟩
  refine List.forall_mem_cons.mpr ⟨s_iconst C (by decide +kernel : decode c_X10_reads 67 = .ok (.iconst 1, 1)) rfl rfl (by decide), ?_⟩
  refine List.forall_mem_cons.mpr ⟨s_icmpne C (by decide +kernel : decode c_X10_reads 68 = .ok (.if_icmp .ne 13, 3)) (by decide) rfl rfl rfl, ?_⟩
  refine List.forall_mem_cons.mpr ⟨s_aload_n C (by decide +kernel : decode c_X10_reads 71 = .ok (.aload_n 0, 1)) rfl rfl rfl, ?_⟩
  refine List.forall_mem_cons.mpr ⟨s_iload_n C (by decide +kernel : decode c_X10_reads 72 = .ok (.iload_n 2, 1)) rfl rfl rfl, ?_⟩
  refine List.forall_mem_cons.mpr ⟨s_iconst C (by decide +kernel : decode c_X10_reads 73 = .ok (.iconst 1, 1)) rfl rfl (by decide), ?_⟩
  refine List.forall_mem_cons.mpr ⟨s_iadd C (by decide +kernel : decode c_X10_reads 74 = .ok (.iadd, 1)) rfl rfl, ?_⟩
  refine List.forall_mem_cons.mpr ⟨s_callV C hFok hF (ct_X10_takesLetters l D dA σ) ⟨rfl, rfl⟩ ew863 em_cl_X10 ew860 ew862 ewp22 ew6 ⟨by decide, by decide, by decide +kernel⟩ ⟨by decide, by decide⟩ (by decide +kernel : decode c_X10_reads 75 = .ok (.invokevirtual 150, 3)) rfl rfl ⟨Nat.zero_le _, Nat.zero_le _⟩, ?_⟩
  refine List.forall_mem_cons.mpr ⟨s_goto C (by decide +kernel : decode c_X10_reads 78 = .ok (.goto 10, 3)) (by decide) rfl, ?_⟩
  refine List.forall_mem_cons.mpr ⟨s_aload_n C (by decide +kernel : decode c_X10_reads 81 = .ok (.aload_n 0, 1)) rfl rfl rfl, ?_⟩
  refine List.forall_mem_cons.mpr ⟨s_iload_n C (by decide +kernel : decode c_X10_reads 82 = .ok (.iload_n 2, 1)) rfl rfl rfl, ?_⟩
  refine List.forall_mem_cons.mpr ⟨s_iconst C (by decide +kernel : decode c_X10_reads 83 = .ok (.iconst 1, 1)) rfl rfl (by decide), ?_⟩
  refine List.forall_mem_cons.mpr ⟨s_iadd C (by decide +kernel : decode c_X10_reads 84 = .ok (.iadd, 1)) rfl rfl, ?_⟩
  refine List.forall_mem_cons.mpr ⟨s_callV C hFok hF (ct_X10_takesNumber l D dA σ) ⟨rfl, rfl⟩ ew868 em_cl_X10 ew865 ew867 ewp23 ew6 ⟨by decide, by decide, by decide +kernel⟩ ⟨by decide, by decide⟩ (by decide +kernel : decode c_X10_reads 85 = .ok (.invokevirtual 153, 3)) rfl rfl ⟨Nat.zero_le _, Nat.zero_le _⟩, ?_⟩
  refine List.forall_mem_cons.mpr ⟨s_istore_n C (by decide +kernel : decode c_X10_reads 88 = .ok (.istore_n 3, 1)) rfl rfl rfl (by decide), ?_⟩
  refine List.forall_mem_cons.mpr ⟨s_iload_n C (by decide +kernel : decode c_X10_reads 89 = .ok (.iload_n 3, 1)) rfl rfl rfl, ?_⟩
  refine List.forall_mem_cons.mpr ⟨s_ifeq C (by decide +kernel : decode c_X10_reads 90 = .ok (.ifCond .eq 40, 3)) (by decide) rfl rfl rfl, ?_⟩
  refine List.forall_mem_cons.mpr ⟨s_iload_n C (by decide +kernel : decode c_X10_reads 93 = .ok (.iload_n 1, 1)) rfl rfl rfl, ?_⟩
  refine List.forall_mem_cons.mpr ⟨s_ifne C (by decide +kernel : decode c_X10_reads 94 = .ok (.ifCond .ne 13, 3)) (by decide) rfl rfl rfl, ?_⟩
  refine List.forall_mem_cons.mpr ⟨s_aload_n C (by decide +kernel : decode c_X10_reads 97 = .ok (.aload_n 0, 1)) rfl rfl rfl, ?_⟩
  refine List.forall_mem_cons.mpr ⟨s_iload_n C (by decide +kernel : decode c_X10_reads 98 = .ok (.iload_n 2, 1)) rfl rfl rfl, ?_⟩
  refine List.forall_mem_cons.mpr ⟨s_iconst C (by decide +kernel : decode c_X10_reads 99 = .ok (.iconst 2, 1)) rfl rfl (by decide), ?_⟩
  refine List.forall_mem_cons.mpr ⟨s_iadd C (by decide +kernel : decode c_X10_reads 100 = .ok (.iadd, 1)) rfl rfl, ?_⟩
  refine List.forall_mem_cons.mpr ⟨s_callV C hFok hF (ct_X10_takesLetters l D dA σ) ⟨rfl, rfl⟩ ew863 em_cl_X10 ew860 ew862 ewp22 ew6 ⟨by decide, by decide, by decide +kernel⟩ ⟨by decide, by decide⟩ (by decide +kernel : decode c_X10_reads 101 = .ok (.invokevirtual 150, 3)) rfl rfl ⟨Nat.zero_le _, Nat.zero_le _⟩, ?_⟩
  refine List.forall_mem_cons.mpr ⟨s_ifeq C (by decide +kernel : decode c_X10_reads 104 = .ok (.ifCond .eq 26, 3)) (by decide) rfl rfl rfl, ?_⟩
  refine List.forall_mem_cons.mpr ⟨s_iload_n C (by decide +kernel : decode c_X10_reads 107 = .ok (.iload_n 1, 1)) rfl rfl rfl, ?_⟩
  refine List.forall_mem_cons.mpr ⟨s_iconst C (by decide +kernel : decode c_X10_reads 108 = .ok (.iconst 1, 1)) rfl rfl (by decide), ?_⟩
  refine List.forall_mem_cons.mpr ⟨s_icmple C (by decide +kernel : decode c_X10_reads 109 = .ok (.if_icmp .le 13, 3)) (by decide) rfl rfl rfl, ?_⟩
  refine List.forall_mem_cons.mpr ⟨s_aload_n C (by decide +kernel : decode c_X10_reads 112 = .ok (.aload_n 0, 1)) rfl rfl rfl, ?_⟩
  refine List.forall_mem_cons.mpr ⟨s_iload_n C (by decide +kernel : decode c_X10_reads 113 = .ok (.iload_n 2, 1)) rfl rfl rfl, ?_⟩
  refine List.forall_mem_cons.mpr ⟨s_iconst C (by decide +kernel : decode c_X10_reads 114 = .ok (.iconst 2, 1)) rfl rfl (by decide), ?_⟩
  refine List.forall_mem_cons.mpr ⟨s_iadd C (by decide +kernel : decode c_X10_reads 115 = .ok (.iadd, 1)) rfl rfl, ?_⟩
  refine List.forall_mem_cons.mpr ⟨s_callV C hFok hF (ct_X10_takesNumber l D dA σ) ⟨rfl, rfl⟩ ew868 em_cl_X10 ew865 ew867 ewp23 ew6 ⟨by decide, by decide, by decide +kernel⟩ ⟨by decide, by decide⟩ (by decide +kernel : decode c_X10_reads 116 = .ok (.invokevirtual 153, 3)) rfl rfl ⟨Nat.zero_le _, Nat.zero_le _⟩, ?_⟩
  refine List.forall_mem_cons.mpr ⟨s_ifeq C (by decide +kernel : decode c_X10_reads 119 = .ok (.ifCond .eq 11, 3)) (by decide) rfl rfl rfl, ?_⟩
  refine List.forall_mem_cons.mpr ⟨s_aload_n C (by decide +kernel : decode c_X10_reads 122 = .ok (.aload_n 0, 1)) rfl rfl rfl, ?_⟩
  refine List.forall_mem_cons.mpr ⟨s_getf C (by decide +kernel : decode c_X10_reads 123 = .ok (.getfield 115, 3)) rfl rfl em_cl_X10 (by decide) ew703 rfl, ?_⟩
  refine List.forall_mem_cons.mpr ⟨s_iconst C (by decide +kernel : decode c_X10_reads 126 = .ok (.iconst 3, 1)) rfl rfl (by decide), ?_⟩
  refine List.forall_mem_cons.mpr ⟨s_icmpeq C (by decide +kernel : decode c_X10_reads 127 = .ok (.if_icmp .eq 5, 3)) (by decide) rfl rfl rfl, ?_⟩
  refine List.forall_mem_cons.mpr ⟨s_iconst C (by decide +kernel : decode c_X10_reads 130 = .ok (.iconst 0, 1)) rfl rfl (by decide), ?_⟩
  refine List.forall_mem_cons.mpr ⟨s_zret C (by decide +kernel : decode c_X10_reads 131 = .ok (.ireturn, 1)) hret hlk ⟨Nat.le_refl 0, Nat.le_refl 0⟩, ?_⟩
  refine List.forall_mem_cons.mpr ⟨s_aload_n C (by decide +kernel : decode c_X10_reads 132 = .ok (.aload_n 0, 1)) rfl rfl rfl, ?_⟩
  refine List.forall_mem_cons.mpr ⟨s_dup C (by decide +kernel : decode c_X10_reads 133 = .ok (.dup, 1)) rfl rfl, ?_⟩
  refine List.forall_mem_cons.mpr ⟨s_getf C (by decide +kernel : decode c_X10_reads 134 = .ok (.getfield 143, 3)) rfl rfl em_cl_X10 (by decide) ew707 rfl, ?_⟩
  refine List.forall_mem_cons.mpr ⟨s_iconst C (by decide +kernel : decode c_X10_reads 137 = .ok (.iconst 1, 1)) rfl rfl (by decide), ?_⟩
  refine List.forall_mem_cons.mpr ⟨s_iadd C (by decide +kernel : decode c_X10_reads 138 = .ok (.iadd, 1)) rfl rfl, ?_⟩
  refine List.forall_mem_cons.mpr ⟨s_putI C (by decide +kernel : decode c_X10_reads 139 = .ok (.putfield 143, 3)) rfl rfl em_cl_X10 (by decide) ew707 rfl (by decide) (by decide +kernel), ?_⟩
  refine List.forall_mem_cons.mpr ⟨s_aload_n C (by decide +kernel : decode c_X10_reads 142 = .ok (.aload_n 0, 1)) rfl rfl rfl, ?_⟩
  refine List.forall_mem_cons.mpr ⟨s_callV C hFok hF (ct_X10_scans l D dA σ) ⟨rfl, rfl⟩ ew845 em_cl_X10 ew842 ew844 ewp20 ew6 ⟨by decide, by decide, by decide +kernel⟩ ⟨by decide, by decide⟩ (by decide +kernel : decode c_X10_reads 143 = .ok (.invokevirtual 140, 3)) rfl rfl ⟨Nat.zero_le _, Nat.zero_le _⟩, ?_⟩
  refine List.forall_mem_cons.mpr ⟨s_goto C (by decide +kernel : decode c_X10_reads 146 = .ok (.goto (-132), 3)) (by decide) rfl, ?_⟩
  refine List.forall_mem_cons.mpr ⟨s_iconst C (by decide +kernel : decode c_X10_reads 149 = .ok (.iconst 1, 1)) rfl rfl (by decide), ?_⟩
  refine List.forall_mem_cons.mpr ⟨s_zret C (by decide +kernel : decode c_X10_reads 150 = .ok (.ireturn, 1)) hret hlk ⟨Nat.le_refl 0, Nat.le_refl 0⟩, ?_⟩
  exact fun _ h => absurd h List.not_mem_nil
