/-! ===== items told ===== -/
theorem rfM_q (rf : Nat → Int32) (s : Nat) : rfM 1 rf s = rf := by
  funext j
  unfold rfM upd
  by_cases h : j = s
  · rw [if_pos h, h, if_neg (by decide)]; exact Int32.add_zero _
  · rw [if_neg h]
theorem isk_nI {a : Nat} (h : a < 2 ^ 31) : isk (nI a) ↔ a ≤ 5 := by
  have e0 : (0 : Int32).toInt = 0 := by decide
  have e5 : (5 : Int32).toInt = 5 := by decide
  rw [isk, i_lt, i_lt, nI_toInt h, e0, e5]; omega
theorem iss_nI {a : Nat} (h : a < 2 ^ 31) : iss (nI a) ↔ a ≤ 1023 := by
  have e0 : (0 : Int32).toInt = 0 := by decide
  have e5 : (1023 : Int32).toInt = 1023 := by decide
  rw [iss, i_lt, i_lt, nI_toInt h, e0, e5]; omega
theorem prm_nI {a b : Nat} (ha : a < 2 ^ 31) (hb : b < 2 ^ 31) : prm (nI a) (nI b) ↔ a ≤ b ∧ b ≤ 20 := by
  rw [← in_prm, inL_i, inL_i, Int32.toInt_toInt64, nI_toInt ha, nI_toInt hb, show (0 : Int64).toInt = 0 by decide, show (20 : Int64).toInt = 20 by decide]; omega
theorem hs_iff {n a : Nat} (hn : n < 2 ^ 31) (ha : a < 2 ^ 31) : hs (nI n) (nI a) ↔ a < n := by
  constructor
  · intro h
    obtain ⟨j, hj, e⟩ := nI_at rfl h
    have := (nI_eq ha (by omega)).mp e
    omega
  · intro h; exact hs_nI h hn
theorem h2_iff {n a b : Nat} (hn : n < 2 ^ 31) (ha : a < 2 ^ 31) (hb : b < 2 ^ 31) : h2 (nI n) (nI a) (nI b) ↔ (a < n ∧ b < n ∧ a ≠ b) := by
  unfold h2
  rw [hs_iff hn ha, hs_iff hn hb, Ne, Ne, nI_eq ha hb]
def tlB (B : Nat → Nat) (v a b : Nat) : Option (Nat → Nat) :=
  if v = 0 then (if a ≤ 5 ∧ b ≤ 1023 ∧ B 0 < 6 then some (un (un (un (un (un B (8 + B 0) a) (14 + B 0) b) (20 + B 0) b) 0 (B 0 + 1)) 3 0) else none)
  else if v = 1 then (if a ≤ 1023 then some (un B 5 a) else none)
  else if v = 2 then (if a ≤ b ∧ b ≤ 20 then some (un (un B 6 a) 7 b) else none)
  else (if a < B 0 ∧ b < B 0 ∧ a ≠ b ∧ B 1 < 8 then some (un (un (un B (26 + 2 * B 1) a) (26 + 2 * B 1 + 1) b) 1 (B 1 + 1)) else none)
def BI (B : Nat → Nat) : Prop := B 0 ≤ 6 ∧ B 1 ≤ 8 ∧ B 5 < 1024 ∧ B 6 ≤ 20 ∧ B 7 ≤ 20
theorem tlB_I {B B' : Nat → Nat} {v a b : Nat} (h : BI B) (e : tlB B v a b = some B') : BI B' ∧ ∀ j, 146 ≤ j → B' j = B j := by
  obtain ⟨h0, h1, h5, h6, h7⟩ := h
  unfold tlB at e
  split at e
  · split at e
    · rename_i hc
      have e := (Option.some.inj e).symm
      subst e
      refine ⟨⟨?_, ?_, ?_, ?_, ?_⟩, fun j hj => ?_⟩
      · rw [un_n (by omega), un_s]; omega
      · repeat rw [un_n (by omega)]
        exact h1
      · repeat rw [un_n (by omega)]
        exact h5
      · repeat rw [un_n (by omega)]
        exact h6
      · repeat rw [un_n (by omega)]
        exact h7
      · repeat rw [un_n (by omega)]
    · cases e
  · split at e
    · split at e
      · rename_i hc
        have e := (Option.some.inj e).symm
        subst e
        refine ⟨⟨?_, ?_, ?_, ?_, ?_⟩, fun j hj => ?_⟩
        · rw [un_n (by omega)]; exact h0
        · rw [un_n (by omega)]; exact h1
        · rw [un_s]; omega
        · rw [un_n (by omega)]; exact h6
        · rw [un_n (by omega)]; exact h7
        · rw [un_n (by omega)]
      · cases e
    · split at e
      · split at e
        · rename_i hc
          have e := (Option.some.inj e).symm
          subst e
          refine ⟨⟨?_, ?_, ?_, ?_, ?_⟩, fun j hj => ?_⟩
          · rw [un_n (by omega), un_n (by omega)]; exact h0
          · rw [un_n (by omega), un_n (by omega)]; exact h1
          · rw [un_n (by omega), un_n (by omega)]; exact h5
          · rw [un_n (by omega), un_s]; omega
          · rw [un_s]; omega
          · rw [un_n (by omega), un_n (by omega)]
        · cases e
      · split at e
        · rename_i hc
          have e := (Option.some.inj e).symm
          subst e
          refine ⟨⟨?_, ?_, ?_, ?_, ?_⟩, fun j hj => ?_⟩
          · rw [un_n (by omega), un_n (by omega), un_n (by omega)]; exact h0
          · rw [un_s]; omega
          · rw [un_n (by omega), un_n (by omega), un_n (by omega)]; exact h5
          · rw [un_n (by omega), un_n (by omega), un_n (by omega)]; exact h6
          · rw [un_n (by omega), un_n (by omega), un_n (by omega)]; exact h7
          · rw [un_n (by omega), un_n (by omega), un_n (by omega)]
        · cases e
def sp_X10_tellsItem : em_Sp := fun av hp Q => ∃ B im kp asd rf qt ab be tx ty at9 st9 tk vl wd it mn so sb my we be9 rw fr i v a b, av = [.ref 0, .int (nI i)] ∧ hp = (wM (nB B) im kp asd rf (1) ab be tx ty at9 st9 tk vl wd it mn so sb my we be9 rw fr) ∧ i < 50 ∧ BI B ∧ v < 4 ∧ a < 2000 ∧ b < 2000 ∧ it (3 * i) = nI v ∧ it (3 * i + 1) = nI a ∧ (v ≠ 1 → it (3 * i + 2) = nI b) ∧ qt = 1 ∧ (tlB B v a b = none → Q (some (.int 0)) hp) ∧ (∀ B', tlB B v a b = some B' → Q (some (.int 1)) (wM (nB B') im kp asd rf (1) ab be tx ty at9 st9 tk vl wd it mn so sb my we be9 rw fr))
def T_X10_tellsItem : List (Nat × em_Op) := [(0, o_aload 0 1), (1, o_getf 5 15 4), (4, o_iconst 3 5), (5, o_iload 1 6), (6, o_imul 7), (7, o_aldI 0 8), (8, o_istore 2 9), (9, o_aload 0 10), (10, o_getf 5 15 13), (13, o_iconst 3 14), (14, o_iload 1 15), (15, o_imul 16), (16, o_iconst 1 17), (17, o_iadd 18), (18, o_aldI 0 19), (19, o_istore 3 20), (20, o_aload 0 21), (21, o_getf 5 15 24), (24, o_iconst 3 25), (25, o_iload 1 26), (26, o_imul 27), (27, o_iconst 2 28), (28, o_iadd 29), (29, o_aldI 0 30), (30, o_istore 4 32), (32, o_iload 2 33), (33, o_ifne 46 36), (36, o_aload 0 37), (37, o_iload 3 38), (38, o_iload 4 40), (40, o_call 3 (some 5) (sp_X10_person) 43), (43, o_goto 81), (46, o_iload 2 47), (47, o_iconst 1 48), (48, o_icmpne 59 51), (51, o_aload 0 52), (52, o_iload 3 53), (53, o_call 2 (some 5) (sp_X10_weighty) 56), (56, o_goto 81), (59, o_iload 2 60), (60, o_iconst 2 61), (61, o_icmpne 74 64), (64, o_aload 0 65), (65, o_iload 3 66), (66, o_iload 4 68), (68, o_call 3 (some 5) (sp_X10_licence) 71), (71, o_goto 81), (74, o_aload 0 75), (75, o_iload 3 76), (76, o_iload 4 78), (78, o_call 3 (some 5) (sp_X10_talk) 81), (81, o_istore 5 83), (83, o_iload 5 85), (85, o_iflt 92 88), (88, o_iconst 1 89), (89, o_goto 93), (92, o_iconst 0 93), (93, o_zret)]
theorem me_X10_tellsItem : em_Me T_X10_tellsItem 6 sp_X10_tellsItem := by
  intro Q K hK hle av hp hs
  obtain ⟨B, im, kp, asd, rf, qt, ab, be, tx, ty, at9, st9, tk, vl, wd, it, mn, so, sb, my, we, be9, rw, fr, i, v, a, b, rfl, rfl, hi, ⟨h0, h1, h5, h6, h7⟩, hv, ha, hb, i0, i1, i2, hqt, hn, hy⟩ := hs
  refine ⟨Nat.le_of_ble_eq_true rfl, ?_⟩
  have e3 : (3 : Int32) * nI i = nI (3 * i) := pk_mul 3 _
  have e31 : (3 : Int32) * nI i + 1 = nI (3 * i + 1) := by rw [e3, nI_1]
  have e32 : (3 : Int32) * nI i + 2 = nI (3 * i + 2) := by rw [e3, show (2 : Int32) = nI 2 from rfl, nI_add]
  obtain ⟨z, hz⟩ : ∃ z, z = it (3 * i + 2) := ⟨_, rfl⟩
  rw [← hz] at i2
  have f0 : ∀ g : Int32, g < 0 → tlB B v a b = none → K 81 [some (.ref 0), some (.int (nI i)), some (.int (nI v)), some (.int (nI a)), some (.int z), none] [.int g] (wM (nB B) im kp asd rf (1) ab be tx ty at9 st9 tk vl wd it mn so sb my we be9 rw fr) := by
    intro g hg he
    refine hK 51 9999 81 _ _ _ ?_
    exact ⟨fun _ => ⟨Or.inl rfl, hn he⟩, fun y => absurd hg y⟩
  have f1 : ∀ (g : Int32) (B' : Nat → Nat), ¬ g < 0 → tlB B v a b = some B' → K 81 [some (.ref 0), some (.int (nI i)), some (.int (nI v)), some (.int (nI a)), some (.int z), none] [.int g] (wM (nB B') im kp asd rf (1) ab be tx ty at9 st9 tk vl wd it mn so sb my we be9 rw fr) := by
    intro g B' hg he
    refine hK 51 9999 81 _ _ _ ?_
    exact ⟨fun y => absurd y hg, fun _ => ⟨Or.inr rfl, hy B' he⟩⟩
  have ent : K 32 [some (.ref 0), some (.int (nI i)), some (.int (nI v)), some (.int (nI a)), some (.int z), none] [] (wM (nB B) im kp asd rf (1) ab be tx ty at9 st9 tk vl wd it mn so sb my we be9 rw fr) := by
    refine hK 25 26 32 _ _ _ ?_
    refine ⟨fun y => ⟨fun x => ⟨fun w => ?_, fun w => ?_⟩, fun x => ?_⟩, fun y => ?_⟩
    · have y : ¬ v = 0 := fun q => y (by rw [q]; rfl)
      have x : ¬ v = 1 := fun q => x (by rw [q]; rfl)
      have w : ¬ v = 2 := fun q => w (by rw [q]; rfl)
      have ez := i2 x
      have hh := h2_iff (n := B 0) (a := a) (b := b) (by omega) (by omega) (by omega)
      rw [ez] at f0 f1 ⊢
      have et : tlB B v a b = if a < B 0 ∧ b < B 0 ∧ a ≠ b ∧ B 1 < 8 then some (un (un (un B (26 + 2 * B 1) a) (26 + 2 * B 1 + 1) b) 1 (B 1 + 1)) else none := by rw [tlB, if_neg y, if_neg x, if_neg w]
      refine ⟨_, _, _, _, _, _, _, _, _, _, _, _, _, _, _, _, _, _, _, _, _, _, _, _, _, _, B 0, B 1, rfl, rfl, rfl, h0, rfl, h1, fun c => ?_, fun c d => ?_, fun c d => ?_⟩
      · rw [rfM_q]
        exact f0 _ (by decide) (by rw [et, if_neg (fun q => c (hh.mpr ⟨q.1, q.2.1, q.2.2.1⟩))])
      · rw [rfM_q]
        exact f0 _ (by decide) (by rw [et, if_neg (fun q => by omega)])
      · have c := hh.mp c
        have := f1 (nI (B 1)) _ (nI_pos (by omega)) (by rw [et, if_pos ⟨c.1, c.2.1, c.2.2, d⟩])
        rw [nB_un, nB_un, nB_un] at this
        exact this
    · have w : v = 2 := (nI_eq (b := 2) (by omega) (by omega)).mp w
      have ez := i2 (by omega)
      have et : tlB B v a b = if a ≤ b ∧ b ≤ 20 then some (un (un B 6 a) 7 b) else none := by rw [tlB, if_neg (by omega), if_neg (by omega), if_pos w]
      have hh := prm_nI (a := a) (b := b) (by omega) (by omega)
      rw [ez] at f0 f1 ⊢
      refine ⟨_, _, _, _, _, _, _, _, _, _, _, _, _, _, _, _, _, _, _, _, _, _, _, _, _, _, rfl, rfl, fun c => ?_, fun c => ?_⟩
      · rw [rfM_q]
        exact f0 _ (by decide) (by rw [et, if_neg (fun q => c (hh.mpr q))])
      · have e9 : (100 : Int32) * nB B 6 + nB B 7 = nI (100 * B 6 + B 7) := by
          unfold nB; rw [show (100 : Int32) = nI 100 from rfl, pk_mul, nI_add]
        have := f1 (nI (100 * B 6 + B 7)) _ (nI_pos (by omega)) (by rw [et, if_pos (hh.mp c)])
        rw [nB_un, nB_un, ← e9] at this
        exact this
    · have x : v = 1 := (nI_eq (b := 1) (by omega) (by omega)).mp x
      have et : tlB B v a b = if a ≤ 1023 then some (un B 5 a) else none := by rw [tlB, if_neg (by omega), if_pos x]
      have hh := iss_nI (a := a) (by omega)
      refine ⟨_, _, _, _, _, _, _, _, _, _, _, _, _, _, _, _, _, _, _, _, _, _, _, _, _, rfl, rfl, fun c => ?_, fun c => ?_⟩
      · rw [rfM_q]
        exact f0 _ (by decide) (by rw [et, if_neg (fun q => c (hh.mpr q))])
      · have := f1 (nI (B 5)) _ (nI_pos (by omega)) (by rw [et, if_pos (hh.mp c)])
        rw [nB_un] at this
        exact this
    · have y : v = 0 := (nI_eq (b := 0) (by omega) (by omega)).mp y
      have ez := i2 (by omega)
      have et : tlB B v a b = if a ≤ 5 ∧ b ≤ 1023 ∧ B 0 < 6 then some (un (un (un (un (un B (8 + B 0) a) (14 + B 0) b) (20 + B 0) b) 0 (B 0 + 1)) 3 0) else none := by rw [tlB, if_pos y]
      have hk := isk_nI (a := a) (by omega)
      have hh := iss_nI (a := b) (by omega)
      rw [ez] at f0 f1 ⊢
      refine ⟨_, _, _, _, _, _, _, _, _, _, _, _, _, _, _, _, _, _, _, _, _, _, _, _, _, _, B 0, rfl, rfl, rfl, h0, fun c => ?_, fun c d e => ?_, fun c d e => ?_⟩
      · rw [rfM_q]
        exact f0 _ (by decide) (by rw [et, if_neg (fun q => c ⟨hk.mpr q.1, hh.mpr q.2.1⟩)])
      · rw [rfM_q]
        exact f0 _ (by decide) (by rw [et, if_neg (fun q => by omega)])
      · have := f1 (nI (B 0)) _ (nI_pos (by omega)) (by rw [et, if_pos ⟨hk.mp c, hh.mp d, e⟩])
        rw [nB_un, nB_un, nB_un, nB_un, nB_un] at this
        exact this
  rw [← i0, ← i1, hz] at ent
  refine hK 0 25 0 _ _ _ ?_
  exact ⟨3 * i, e3, by omega, 3 * i + 1, e31, by omega, 3 * i + 2, e32, by omega, ent⟩
abbrev rm_X10_tellsItem : Room := { frames := 4, cells := 0, slots := 0, locals := 90 }
set_option maxRecDepth 100000 in
set_option maxHeartbeats 4000000 in
theorem ct_X10_tellsItem (l : Launch) (D : va_G) (dA : Nat → ClassId) (σ : Nat → Nat) : em_CT l D em_cl dA σ (em_F σ) y_X10_tellsItem c_X10_tellsItem 6 (Option.some ClassFile.FieldType.boolean) rm_X10_tellsItem (sp_X10_tellsItem ) := by
  refine em_CT_of (T := T_X10_tellsItem ) (em_F_ok σ) (by decide) (fun p e s m args below meth c A ρ Q C hFok hF hret hlk hin => ?_) (me_X10_tellsItem )
  unfold T_X10_tellsItem
  refine List.forall_mem_cons.mpr ⟨s_aload_n C (by decide +kernel : decode c_X10_tellsItem 0 = .ok (.aload_n 0, 1)) rfl rfl rfl, ?_⟩
  refine List.forall_mem_cons.mpr ⟨s_getf C (by decide +kernel : decode c_X10_tellsItem 1 = .ok (.getfield 29, 3)) rfl rfl em_cl_X10 (by decide) ew706 rfl, ?_⟩
  refine List.forall_mem_cons.mpr ⟨s_iconst C (by decide +kernel : decode c_X10_tellsItem 4 = .ok (.iconst 3, 1)) rfl rfl (by decide), ?_⟩
  refine List.forall_mem_cons.mpr ⟨s_iload_n C (by decide +kernel : decode c_X10_tellsItem 5 = .ok (.iload_n 1, 1)) rfl rfl rfl, ?_⟩
  refine List.forall_mem_cons.mpr ⟨s_imul C (by decide +kernel : decode c_X10_tellsItem 6 = .ok (.imul, 1)) rfl rfl, ?_⟩
  refine List.forall_mem_cons.mpr ⟨s_iald C (by decide +kernel : decode c_X10_tellsItem 7 = .ok (.iaload, 1)) rfl rfl, ?_⟩
  refine List.forall_mem_cons.mpr ⟨s_istore_n C (by decide +kernel : decode c_X10_tellsItem 8 = .ok (.istore_n 2, 1)) rfl rfl rfl (by decide), ?_⟩
  refine List.forall_mem_cons.mpr ⟨s_aload_n C (by decide +kernel : decode c_X10_tellsItem 9 = .ok (.aload_n 0, 1)) rfl rfl rfl, ?_⟩
  refine List.forall_mem_cons.mpr ⟨s_getf C (by decide +kernel : decode c_X10_tellsItem 10 = .ok (.getfield 29, 3)) rfl rfl em_cl_X10 (by decide) ew706 rfl, ?_⟩
  refine List.forall_mem_cons.mpr ⟨s_iconst C (by decide +kernel : decode c_X10_tellsItem 13 = .ok (.iconst 3, 1)) rfl rfl (by decide), ?_⟩
  refine List.forall_mem_cons.mpr ⟨s_iload_n C (by decide +kernel : decode c_X10_tellsItem 14 = .ok (.iload_n 1, 1)) rfl rfl rfl, ?_⟩
  refine List.forall_mem_cons.mpr ⟨s_imul C (by decide +kernel : decode c_X10_tellsItem 15 = .ok (.imul, 1)) rfl rfl, ?_⟩
  refine List.forall_mem_cons.mpr ⟨s_iconst C (by decide +kernel : decode c_X10_tellsItem 16 = .ok (.iconst 1, 1)) rfl rfl (by decide), ?_⟩
  refine List.forall_mem_cons.mpr ⟨s_iadd C (by decide +kernel : decode c_X10_tellsItem 17 = .ok (.iadd, 1)) rfl rfl, ?_⟩
  refine List.forall_mem_cons.mpr ⟨s_iald C (by decide +kernel : decode c_X10_tellsItem 18 = .ok (.iaload, 1)) rfl rfl, ?_⟩
  refine List.forall_mem_cons.mpr ⟨s_istore_n C (by decide +kernel : decode c_X10_tellsItem 19 = .ok (.istore_n 3, 1)) rfl rfl rfl (by decide), ?_⟩
  refine List.forall_mem_cons.mpr ⟨s_aload_n C (by decide +kernel : decode c_X10_tellsItem 20 = .ok (.aload_n 0, 1)) rfl rfl rfl, ?_⟩
  refine List.forall_mem_cons.mpr ⟨s_getf C (by decide +kernel : decode c_X10_tellsItem 21 = .ok (.getfield 29, 3)) rfl rfl em_cl_X10 (by decide) ew706 rfl, ?_⟩
  refine List.forall_mem_cons.mpr ⟨s_iconst C (by decide +kernel : decode c_X10_tellsItem 24 = .ok (.iconst 3, 1)) rfl rfl (by decide), ?_⟩
  refine List.forall_mem_cons.mpr ⟨s_iload_n C (by decide +kernel : decode c_X10_tellsItem 25 = .ok (.iload_n 1, 1)) rfl rfl rfl, ?_⟩
  refine List.forall_mem_cons.mpr ⟨s_imul C (by decide +kernel : decode c_X10_tellsItem 26 = .ok (.imul, 1)) rfl rfl, ?_⟩
  refine List.forall_mem_cons.mpr ⟨s_iconst C (by decide +kernel : decode c_X10_tellsItem 27 = .ok (.iconst 2, 1)) rfl rfl (by decide), ?_⟩
  refine List.forall_mem_cons.mpr ⟨s_iadd C (by decide +kernel : decode c_X10_tellsItem 28 = .ok (.iadd, 1)) rfl rfl, ?_⟩
  refine List.forall_mem_cons.mpr ⟨s_iald C (by decide +kernel : decode c_X10_tellsItem 29 = .ok (.iaload, 1)) rfl rfl, ?_⟩
  refine List.forall_mem_cons.mpr ⟨s_istore C (by decide +kernel : decode c_X10_tellsItem 30 = .ok (.istore 4, 2)) rfl rfl (by decide), ?_⟩
  refine List.forall_mem_cons.mpr ⟨s_iload_n C (by decide +kernel : decode c_X10_tellsItem 32 = .ok (.iload_n 2, 1)) rfl rfl rfl, ?_⟩
  refine List.forall_mem_cons.mpr ⟨s_ifne C (by decide +kernel : decode c_X10_tellsItem 33 = .ok (.ifCond .ne 13, 3)) (by decide) rfl rfl rfl, ?_⟩
  refine List.forall_mem_cons.mpr ⟨s_aload_n C (by decide +kernel : decode c_X10_tellsItem 36 = .ok (.aload_n 0, 1)) rfl rfl rfl, ?_⟩
  refine List.forall_mem_cons.mpr ⟨s_iload_n C (by decide +kernel : decode c_X10_tellsItem 37 = .ok (.iload_n 3, 1)) rfl rfl rfl, ?_⟩
  refine List.forall_mem_cons.mpr ⟨s_iload C (by decide +kernel : decode c_X10_tellsItem 38 = .ok (.iload 4, 2)) rfl rfl, ?_⟩
  refine List.forall_mem_cons.mpr ⟨s_callV C hFok hF (ct_X10_person l D dA σ) ⟨rfl, rfl⟩ ew767 em_cl_X10 ew873 ew765 ew766 ew6 ⟨by decide, by decide, by decide +kernel⟩ ⟨by decide, by decide⟩ (by decide +kernel : decode c_X10_tellsItem 40 = .ok (.invokevirtual 156, 3)) rfl rfl ⟨Nat.zero_le _, Nat.zero_le _⟩, ?_⟩
  refine List.forall_mem_cons.mpr ⟨s_goto C (by decide +kernel : decode c_X10_tellsItem 43 = .ok (.goto 38, 3)) (by decide) rfl, ?_⟩
  refine List.forall_mem_cons.mpr ⟨s_iload_n C (by decide +kernel : decode c_X10_tellsItem 46 = .ok (.iload_n 2, 1)) rfl rfl rfl, ?_⟩
  refine List.forall_mem_cons.mpr ⟨s_iconst C (by decide +kernel : decode c_X10_tellsItem 47 = .ok (.iconst 1, 1)) rfl rfl (by decide), ?_⟩
  refine List.forall_mem_cons.mpr ⟨s_icmpne C (by decide +kernel : decode c_X10_tellsItem 48 = .ok (.if_icmp .ne 11, 3)) (by decide) rfl rfl rfl, ?_⟩
  refine List.forall_mem_cons.mpr ⟨s_aload_n C (by decide +kernel : decode c_X10_tellsItem 51 = .ok (.aload_n 0, 1)) rfl rfl rfl, ?_⟩
  refine List.forall_mem_cons.mpr ⟨s_iload_n C (by decide +kernel : decode c_X10_tellsItem 52 = .ok (.iload_n 3, 1)) rfl rfl rfl, ?_⟩
  refine List.forall_mem_cons.mpr ⟨s_callV C hFok hF (ct_X10_weighty l D dA σ) ⟨rfl, rfl⟩ ew807 em_cl_X10 ew874 ew805 ew806 ew6 ⟨by decide, by decide, by decide +kernel⟩ ⟨by decide, by decide⟩ (by decide +kernel : decode c_X10_tellsItem 53 = .ok (.invokevirtual 159, 3)) rfl rfl ⟨Nat.zero_le _, Nat.zero_le _⟩, ?_⟩
  refine List.forall_mem_cons.mpr ⟨s_goto C (by decide +kernel : decode c_X10_tellsItem 56 = .ok (.goto 25, 3)) (by decide) rfl, ?_⟩
  refine List.forall_mem_cons.mpr ⟨s_iload_n C (by decide +kernel : decode c_X10_tellsItem 59 = .ok (.iload_n 2, 1)) rfl rfl rfl, ?_⟩
  refine List.forall_mem_cons.mpr ⟨s_iconst C (by decide +kernel : decode c_X10_tellsItem 60 = .ok (.iconst 2, 1)) rfl rfl (by decide), ?_⟩
  refine List.forall_mem_cons.mpr ⟨s_icmpne C (by decide +kernel : decode c_X10_tellsItem 61 = .ok (.if_icmp .ne 13, 3)) (by decide) rfl rfl rfl, ?_⟩
  refine List.forall_mem_cons.mpr ⟨s_aload_n C (by decide +kernel : decode c_X10_tellsItem 64 = .ok (.aload_n 0, 1)) rfl rfl rfl, ?_⟩
  refine List.forall_mem_cons.mpr ⟨s_iload_n C (by decide +kernel : decode c_X10_tellsItem 65 = .ok (.iload_n 3, 1)) rfl rfl rfl, ?_⟩
  refine List.forall_mem_cons.mpr ⟨s_iload C (by decide +kernel : decode c_X10_tellsItem 66 = .ok (.iload 4, 2)) rfl rfl, ?_⟩
  refine List.forall_mem_cons.mpr ⟨s_callV C hFok hF (ct_X10_licence l D dA σ) ⟨rfl, rfl⟩ ew811 em_cl_X10 ew875 ew809 ew810 ew6 ⟨by decide, by decide, by decide +kernel⟩ ⟨by decide, by decide⟩ (by decide +kernel : decode c_X10_tellsItem 68 = .ok (.invokevirtual 163, 3)) rfl rfl ⟨Nat.zero_le _, Nat.zero_le _⟩, ?_⟩
  refine List.forall_mem_cons.mpr ⟨s_goto C (by decide +kernel : decode c_X10_tellsItem 71 = .ok (.goto 10, 3)) (by decide) rfl, ?_⟩
  refine List.forall_mem_cons.mpr ⟨s_aload_n C (by decide +kernel : decode c_X10_tellsItem 74 = .ok (.aload_n 0, 1)) rfl rfl rfl, ?_⟩
  refine List.forall_mem_cons.mpr ⟨s_iload_n C (by decide +kernel : decode c_X10_tellsItem 75 = .ok (.iload_n 3, 1)) rfl rfl rfl, ?_⟩
  refine List.forall_mem_cons.mpr ⟨s_iload C (by decide +kernel : decode c_X10_tellsItem 76 = .ok (.iload 4, 2)) rfl rfl, ?_⟩
  refine List.forall_mem_cons.mpr ⟨s_callV C hFok hF (ct_X10_talk l D dA σ) ⟨rfl, rfl⟩ ew816 em_cl_X10 ew876 ew814 ew815 ew6 ⟨by decide, by decide, by decide +kernel⟩ ⟨by decide, by decide⟩ (by decide +kernel : decode c_X10_tellsItem 78 = .ok (.invokevirtual 166, 3)) rfl rfl ⟨Nat.zero_le _, Nat.zero_le _⟩, ?_⟩
  refine List.forall_mem_cons.mpr ⟨s_istore C (by decide +kernel : decode c_X10_tellsItem 81 = .ok (.istore 5, 2)) rfl rfl (by decide), ?_⟩
  refine List.forall_mem_cons.mpr ⟨s_iload C (by decide +kernel : decode c_X10_tellsItem 83 = .ok (.iload 5, 2)) rfl rfl, ?_⟩
  refine List.forall_mem_cons.mpr ⟨s_iflt C (by decide +kernel : decode c_X10_tellsItem 85 = .ok (.ifCond .lt 7, 3)) (by decide) rfl rfl rfl, ?_⟩
  refine List.forall_mem_cons.mpr ⟨s_iconst C (by decide +kernel : decode c_X10_tellsItem 88 = .ok (.iconst 1, 1)) rfl rfl (by decide), ?_⟩
  refine List.forall_mem_cons.mpr ⟨s_goto C (by decide +kernel : decode c_X10_tellsItem 89 = .ok (.goto 4, 3)) (by decide) rfl, ?_⟩
  refine List.forall_mem_cons.mpr ⟨s_iconst C (by decide +kernel : decode c_X10_tellsItem 92 = .ok (.iconst 0, 1)) rfl rfl (by decide), ?_⟩
  refine List.forall_mem_cons.mpr ⟨s_zret C (by decide +kernel : decode c_X10_tellsItem 93 = .ok (.ireturn, 1)) hret hlk ⟨Nat.le_refl 0, Nat.le_refl 0⟩, ?_⟩
  exact fun _ h => absurd h List.not_mem_nil
