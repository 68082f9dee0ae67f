/-! ===== couples, law, children ===== -/
def nL (n : Nat) : Int64 := Int64.ofNat n
theorem nL_1 (n : Nat) : nL n + 1 = nL (n + 1) := (Int64.ofNat_add n 1).symm
theorem nL_0 {n : Nat} (h : n < 2 ^ 62) : nL n = 0 ↔ n = 0 := by
  constructor
  · intro q
    have := Int64.toInt_ofNat_of_lt (n := n) (by omega)
    unfold nL at q
    rw [q] at this
    have e : (0 : Int64).toInt = 0 := by decide
    omega
  · intro q; rw [q]; rfl
theorem nL_div {a b : Nat} (ha : a < 2 ^ 62) (hb : b < 2 ^ 62) : nL a / nL b = nL (a / b) := (Int64.ofNat_div (by omega) (by omega)).symm
theorem nL_rem {a b : Nat} (ha : a < 2 ^ 62) (hb : b < 2 ^ 62) : nL a - nL a / nL b * nL b = nL (a % b) := by
  rw [nL_div ha hb]
  unfold nL
  have h := Nat.div_mul_le_self a b
  rw [← Int64.ofNat_mul, ← Int64.ofNat_sub _ _ h]
  congr 1
  have := Nat.div_add_mod a b
  rw [Nat.mul_comm] at this
  omega
theorem i42 (k : Nat) : (42 : Int32) + 2 * nI k = nI (42 + 2 * k) := by
  rw [show (2 : Int32) = nI 2 from rfl, pk_mul]; exact nI_add 42 _
theorem i43 (k : Nat) : (42 : Int32) + 2 * nI k + 1 = nI (43 + 2 * k) := by
  rw [i42, nI_1]; congr 1; omega
def sp_X10_couple : em_Sp := fun av hp Q => ∃ bk im kp asd rf qt ab be tx ty at9 st9 tk vl wd it mn so sb my we be9 rw fr x l nc, av = [.ref 0, .int x, .int l] ∧ hp = (wM bk im kp asd rf qt ab be tx ty at9 st9 tk vl wd it mn so sb my we be9 rw fr) ∧ (l = 0 ∨ l = 1) ∧ bk 4 = nI nc ∧ nc ≤ 10 ∧ (¬ rng20 x → Q (some (.int (-2))) (wM bk im kp asd (rfM qt rf 0) qt ab be tx ty at9 st9 tk vl wd it mn so sb my we be9 rw fr)) ∧ (rng20 x → nc = 10 → Q (some (.int (-4))) (wM bk im kp asd (rfM qt rf 2) qt ab be tx ty at9 st9 tk vl wd it mn so sb my we be9 rw fr)) ∧ (rng20 x → nc < 10 → Q (some (.int (nI (nc + 1)))) (wM (upd (upd (upd bk (42 + 2 * nc) x) (43 + 2 * nc) l) 4 (nI (nc + 1))) im kp asd rf qt ab be tx ty at9 st9 tk vl wd it mn so sb my we be9 rw fr))
def T_X10_couple : List (Nat × em_Op) := [(0, o_iload 1 1), (1, o_i2l 2), (2, o_lconst 0 3), (3, o_lconst 20 6), (6, o_call 3 none (sp_X10_in) 9), (9, o_ifne 17 12), (12, o_aload 0 13), (13, o_call 1 (some 5) (sp_X10_bad) 16), (16, o_iret), (17, o_aload 0 18), (18, o_getf 5 0 21), (21, o_iconst 4 22), (22, o_aldI 0 23), (23, o_iconst 10 25), (25, o_icmpne 33 28), (28, o_aload 0 29), (29, o_call 1 (some 5) (sp_X10_full) 32), (32, o_iret), (33, o_aload 0 34), (34, o_getf 5 0 37), (37, o_iconst 42 39), (39, o_iconst 2 40), (40, o_aload 0 41), (41, o_getf 5 0 44), (44, o_iconst 4 45), (45, o_aldI 0 46), (46, o_imul 47), (47, o_iadd 48), (48, o_iload 1 49), (49, o_iast 50), (50, o_aload 0 51), (51, o_getf 5 0 54), (54, o_iconst 42 56), (56, o_iconst 2 57), (57, o_aload 0 58), (58, o_getf 5 0 61), (61, o_iconst 4 62), (62, o_aldI 0 63), (63, o_imul 64), (64, o_iadd 65), (65, o_iconst 1 66), (66, o_iadd 67), (67, o_iload 2 68), (68, o_ifeq 75 71), (71, o_iconst 1 72), (72, o_goto 76), (75, o_iconst 0 76), (76, o_iast 77), (77, o_aload 0 78), (78, o_getf 5 0 81), (81, o_iconst 4 82), (82, o_dup2 83), (83, o_aldI 0 84), (84, o_iconst 1 85), (85, o_iadd 86), (86, o_iast 87), (87, o_aload 0 88), (88, o_getf 5 0 91), (91, o_iconst 4 92), (92, o_aldI 0 93), (93, o_iret)]
theorem me_X10_couple : em_Me T_X10_couple 3 sp_X10_couple := by
  intro Q K hK hle av hp hs
  obtain ⟨bk, im, kp, asd, rf, qt, ab, be, tx, ty, at9, st9, tk, vl, wd, it, mn, so, sb, my, we, be9, rw, fr, x, l, nc, rfl, rfl, hl, hb, hn, hbad, hf, hq⟩ := hs
  refine ⟨Nat.le_of_ble_eq_true rfl, hK 0 18 0 _ _ _ ?_⟩
  refine ⟨_, _, _, rfl, fun z1 => ?_, fun z1 => ?_⟩
  · refine ⟨fun _ => ?_, fun y => absurd y (by decide)⟩
    have z1 := in_20.mp z1
    refine ⟨4, rfl, by decide, fun z => ?_, fun z => ?_⟩
    · have h8 : nc < 10 := by
        rcases Nat.lt_or_ge nc 10 with q | q
        · exact q
        · exact absurd (by rw [hb, show nc = 10 by omega]; rfl) z
      have hq := hq z1 h8
      have e2 : upd bk (42 + 2 * nc) x 4 = nI nc := by rw [pk_un (by omega), hb]
      have e3 : upd (upd bk (42 + 2 * nc) x) (43 + 2 * nc) l 4 = nI nc := by rw [pk_un (by omega), e2]
      have last : ∀ v, v = l → K 76 [some (.ref 0), some (.int x), some (.int l)] [.int v, .int (42 + 2 * upd bk (42 + 2 * nc) x 4 + 1), .ref 1] (wM (upd bk (42 + 2 * nc) x) im kp asd rf qt ab be tx ty at9 st9 tk vl wd it mn so sb my we be9 rw fr) := by
        intro v hv
        subst hv
        refine hK 47 9999 76 _ _ _ ?_
        refine ⟨43 + 2 * nc, by rw [e2]; exact i43 nc, by omega, 4, rfl, by decide, 4, rfl, by decide, 4, rfl, by decide, ?_⟩
        rw [pk_us, e3, nI_1]
        exact hq
      refine hK 18 29 33 _ _ _ ?_
      refine ⟨4, rfl, by decide, 42 + 2 * nc, by rw [hb]; exact i42 nc, by omega, 4, rfl, by decide, fun y => ?_, fun y => ?_⟩
      · exact last _ y.symm
      · exact last _ (hl.elim (fun q => absurd q y) (fun q => q.symm))
    · have h8 : nc = 10 := by
        rw [hb] at z
        exact (nI_eq (b := 10) (by omega) (by omega)).mp z
      exact ⟨_, _, _, _, _, _, _, _, _, _, _, _, _, _, _, _, _, _, _, _, _, _, _, _, rfl, rfl, hf z1 h8⟩
  · exact ⟨fun y => absurd rfl y, fun _ => ⟨_, _, _, _, _, _, _, _, _, _, _, _, _, _, _, _, _, _, _, _, _, _, _, _, rfl, rfl, hbad (fun q => z1 (in_20.mpr q))⟩⟩
abbrev rm_X10_couple : Room := { frames := 2, cells := 0, slots := 0, locals := 42 }
set_option maxRecDepth 100000 in
set_option maxHeartbeats 4000000 in
theorem ct_X10_couple (l : Launch) (D : va_G) (dA : Nat → ClassId) (σ : Nat → Nat) : em_CT l D em_cl dA σ (em_F σ) y_X10_couple c_X10_couple 3 (Option.some ClassFile.FieldType.int) rm_X10_couple (sp_X10_couple ) := by
  refine em_CT_of (T := T_X10_couple ) (em_F_ok σ) (by decide) (fun p e s m args below meth c A ρ Q C hFok hF hret hlk hin => ?_) (me_X10_couple )
  unfold T_X10_couple
  refine List.forall_mem_cons.mpr ⟨s_iload_n C (by decide +kernel : decode c_X10_couple 0 = .ok (.iload_n 1, 1)) rfl rfl rfl, ?_⟩
  refine List.forall_mem_cons.mpr ⟨s_i2l C (by decide +kernel : decode c_X10_couple 1 = .ok (.i2l, 1)) rfl rfl, ?_⟩
  refine List.forall_mem_cons.mpr ⟨s_lconst C (by decide +kernel : decode c_X10_couple 2 = .ok (.lconst 0, 1)) rfl rfl (by decide), ?_⟩
  refine List.forall_mem_cons.mpr ⟨s_ldc2 C (by decide +kernel : decode c_X10_couple 3 = .ok (.ldc2_w 94, 3)) rfl rfl ew812, ?_⟩
  refine List.forall_mem_cons.mpr ⟨s_callS C hFok hF (ct_X10_in l D dA σ) ⟨rfl, rfl⟩ ew771 ew769 ew770 ew6 ⟨by decide, by decide, by decide +kernel⟩ ⟨by decide, by decide⟩ (by decide +kernel : decode c_X10_couple 6 = .ok (.invokestatic 69, 3)) rfl rfl ⟨Nat.zero_le _, Nat.zero_le _⟩, ?_⟩
  refine List.forall_mem_cons.mpr ⟨s_ifne C (by decide +kernel : decode c_X10_couple 9 = .ok (.ifCond .ne 8, 3)) (by decide) rfl rfl rfl, ?_⟩
  refine List.forall_mem_cons.mpr ⟨s_aload_n C (by decide +kernel : decode c_X10_couple 12 = .ok (.aload_n 0, 1)) rfl rfl rfl, ?_⟩
  refine List.forall_mem_cons.mpr ⟨s_callV C hFok hF (ct_X10_bad l D dA σ) ⟨rfl, rfl⟩ ew779 em_cl_X10 ew776 ew778 ewp13 ew6 ⟨by decide, by decide, by decide +kernel⟩ ⟨by decide, by decide⟩ (by decide +kernel : decode c_X10_couple 13 = .ok (.invokevirtual 84, 3)) rfl rfl ⟨Nat.zero_le _, Nat.zero_le _⟩, ?_⟩
  refine List.forall_mem_cons.mpr ⟨s_iret C (by decide +kernel : decode c_X10_couple 16 = .ok (.ireturn, 1)) hret hlk ⟨Nat.le_refl 0, Nat.le_refl 0⟩, ?_⟩
  refine List.forall_mem_cons.mpr ⟨s_aload_n C (by decide +kernel : decode c_X10_couple 17 = .ok (.aload_n 0, 1)) rfl rfl rfl, ?_⟩
  refine List.forall_mem_cons.mpr ⟨s_getf C (by decide +kernel : decode c_X10_couple 18 = .ok (.getfield 7, 3)) rfl rfl em_cl_X10 (by decide) ew691 rfl, ?_⟩
  refine List.forall_mem_cons.mpr ⟨s_iconst C (by decide +kernel : decode c_X10_couple 21 = .ok (.iconst 4, 1)) rfl rfl (by decide), ?_⟩
  refine List.forall_mem_cons.mpr ⟨s_iald C (by decide +kernel : decode c_X10_couple 22 = .ok (.iaload, 1)) rfl rfl, ?_⟩
  refine List.forall_mem_cons.mpr ⟨s_bipush C (by decide +kernel : decode c_X10_couple 23 = .ok (.bipush 10, 2)) rfl rfl (by decide), ?_⟩
  refine List.forall_mem_cons.mpr ⟨s_icmpne C (by decide +kernel : decode c_X10_couple 25 = .ok (.if_icmp .ne 8, 3)) (by decide) rfl rfl rfl, ?_⟩
  refine List.forall_mem_cons.mpr ⟨s_aload_n C (by decide +kernel : decode c_X10_couple 28 = .ok (.aload_n 0, 1)) rfl rfl rfl, ?_⟩
  refine List.forall_mem_cons.mpr ⟨s_callV C hFok hF (ct_X10_full l D dA σ) ⟨rfl, rfl⟩ ew787 em_cl_X10 ew784 ew786 ewp15 ew6 ⟨by decide, by decide, by decide +kernel⟩ ⟨by decide, by decide⟩ (by decide +kernel : decode c_X10_couple 29 = .ok (.invokevirtual 88, 3)) rfl rfl ⟨Nat.zero_le _, Nat.zero_le _⟩, ?_⟩
  refine List.forall_mem_cons.mpr ⟨s_iret C (by decide +kernel : decode c_X10_couple 32 = .ok (.ireturn, 1)) hret hlk ⟨Nat.le_refl 0, Nat.le_refl 0⟩, ?_⟩
  refine List.forall_mem_cons.mpr ⟨s_aload_n C (by decide +kernel : decode c_X10_couple 33 = .ok (.aload_n 0, 1)) rfl rfl rfl, ?_⟩
  refine List.forall_mem_cons.mpr ⟨s_getf C (by decide +kernel : decode c_X10_couple 34 = .ok (.getfield 7, 3)) rfl rfl em_cl_X10 (by decide) ew691 rfl, ?_⟩
  refine List.forall_mem_cons.mpr ⟨s_bipush C (by decide +kernel : decode c_X10_couple 37 = .ok (.bipush 42, 2)) rfl rfl (by decide), ?_⟩
  refine List.forall_mem_cons.mpr ⟨s_iconst C (by decide +kernel : decode c_X10_couple 39 = .ok (.iconst 2, 1)) rfl rfl (by decide), ?_⟩
  refine List.forall_mem_cons.mpr ⟨s_aload_n C (by decide +kernel : decode c_X10_couple 40 = .ok (.aload_n 0, 1)) rfl rfl rfl, ?_⟩
  refine List.forall_mem_cons.mpr ⟨s_getf C (by decide +kernel : decode c_X10_couple 41 = .ok (.getfield 7, 3)) rfl rfl em_cl_X10 (by decide) ew691 rfl, ?_⟩
  refine List.forall_mem_cons.mpr ⟨s_iconst C (by decide +kernel : decode c_X10_couple 44 = .ok (.iconst 4, 1)) rfl rfl (by decide), ?_⟩
  refine List.forall_mem_cons.mpr ⟨s_iald C (by decide +kernel : decode c_X10_couple 45 = .ok (.iaload, 1)) rfl rfl, ?_⟩
  refine List.forall_mem_cons.mpr ⟨s_imul C (by decide +kernel : decode c_X10_couple 46 = .ok (.imul, 1)) rfl rfl, ?_⟩
  refine List.forall_mem_cons.mpr ⟨s_iadd C (by decide +kernel : decode c_X10_couple 47 = .ok (.iadd, 1)) rfl rfl, ?_⟩
  refine List.forall_mem_cons.mpr ⟨s_iload_n C (by decide +kernel : decode c_X10_couple 48 = .ok (.iload_n 1, 1)) rfl rfl rfl, ?_⟩
  refine List.forall_mem_cons.mpr ⟨s_iast C (by decide +kernel : decode c_X10_couple 49 = .ok (.iastore, 1)) rfl rfl, ?_⟩
  refine List.forall_mem_cons.mpr ⟨s_aload_n C (by decide +kernel : decode c_X10_couple 50 = .ok (.aload_n 0, 1)) rfl rfl rfl, ?_⟩
  refine List.forall_mem_cons.mpr ⟨s_getf C (by decide +kernel : decode c_X10_couple 51 = .ok (.getfield 7, 3)) rfl rfl em_cl_X10 (by decide) ew691 rfl, ?_⟩
  refine List.forall_mem_cons.mpr ⟨s_bipush C (by decide +kernel : decode c_X10_couple 54 = .ok (.bipush 42, 2)) rfl rfl (by decide), ?_⟩
  refine List.forall_mem_cons.mpr ⟨s_iconst C (by decide +kernel : decode c_X10_couple 56 = .ok (.iconst 2, 1)) rfl rfl (by decide), ?_⟩
  refine List.forall_mem_cons.mpr ⟨s_aload_n C (by decide +kernel : decode c_X10_couple 57 = .ok (.aload_n 0, 1)) rfl rfl rfl, ?_⟩
  refine List.forall_mem_cons.mpr ⟨s_getf C (by decide +kernel : decode c_X10_couple 58 = .ok (.getfield 7, 3)) rfl rfl em_cl_X10 (by decide) ew691 rfl, ?_⟩
  refine List.forall_mem_cons.mpr ⟨s_iconst C (by decide +kernel : decode c_X10_couple 61 = .ok (.iconst 4, 1)) rfl rfl (by decide), ?_⟩
  refine List.forall_mem_cons.mpr ⟨s_iald C (by decide +kernel : decode c_X10_couple 62 = .ok (.iaload, 1)) rfl rfl, ?_⟩
  refine List.forall_mem_cons.mpr ⟨s_imul C (by decide +kernel : decode c_X10_couple 63 = .ok (.imul, 1)) rfl rfl, ?_⟩
  refine List.forall_mem_cons.mpr ⟨s_iadd C (by decide +kernel : decode c_X10_couple 64 = .ok (.iadd, 1)) rfl rfl, ?_⟩
  refine List.forall_mem_cons.mpr ⟨s_iconst C (by decide +kernel : decode c_X10_couple 65 = .ok (.iconst 1, 1)) rfl rfl (by decide), ?_⟩
  refine List.forall_mem_cons.mpr ⟨s_iadd C (by decide +kernel : decode c_X10_couple 66 = .ok (.iadd, 1)) rfl rfl, ?_⟩
  refine List.forall_mem_cons.mpr ⟨s_iload_n C (by decide +kernel : decode c_X10_couple 67 = .ok (.iload_n 2, 1)) rfl rfl rfl, ?_⟩
  refine List.forall_mem_cons.mpr ⟨s_ifeq C (by decide +kernel : decode c_X10_couple 68 = .ok (.ifCond .eq 7, 3)) (by decide) rfl rfl rfl, ?_⟩
  refine List.forall_mem_cons.mpr ⟨s_iconst C (by decide +kernel : decode c_X10_couple 71 = .ok (.iconst 1, 1)) rfl rfl (by decide), ?_⟩
  refine List.forall_mem_cons.mpr ⟨s_goto C (by decide +kernel : decode c_X10_couple 72 = .ok (.goto 4, 3)) (by decide) rfl, ?_⟩
  refine List.forall_mem_cons.mpr ⟨s_iconst C (by decide +kernel : decode c_X10_couple 75 = .ok (.iconst 0, 1)) rfl rfl (by decide), ?_⟩
  refine List.forall_mem_cons.mpr ⟨s_iast C (by decide +kernel : decode c_X10_couple 76 = .ok (.iastore, 1)) rfl rfl, ?_⟩
  refine List.forall_mem_cons.mpr ⟨s_aload_n C (by decide +kernel : decode c_X10_couple 77 = .ok (.aload_n 0, 1)) rfl rfl rfl, ?_⟩
  refine List.forall_mem_cons.mpr ⟨s_getf C (by decide +kernel : decode c_X10_couple 78 = .ok (.getfield 7, 3)) rfl rfl em_cl_X10 (by decide) ew691 rfl, ?_⟩
  refine List.forall_mem_cons.mpr ⟨s_iconst C (by decide +kernel : decode c_X10_couple 81 = .ok (.iconst 4, 1)) rfl rfl (by decide), ?_⟩
  refine List.forall_mem_cons.mpr ⟨s_dup2 C (by decide +kernel : decode c_X10_couple 82 = .ok (.dup2, 1)) rfl rfl, ?_⟩
  refine List.forall_mem_cons.mpr ⟨s_iald C (by decide +kernel : decode c_X10_couple 83 = .ok (.iaload, 1)) rfl rfl, ?_⟩
  refine List.forall_mem_cons.mpr ⟨s_iconst C (by decide +kernel : decode c_X10_couple 84 = .ok (.iconst 1, 1)) rfl rfl (by decide), ?_⟩
  refine List.forall_mem_cons.mpr ⟨s_iadd C (by decide +kernel : decode c_X10_couple 85 = .ok (.iadd, 1)) rfl rfl, ?_⟩
  refine List.forall_mem_cons.mpr ⟨s_iast C (by decide +kernel : decode c_X10_couple 86 = .ok (.iastore, 1)) rfl rfl, ?_⟩
  refine List.forall_mem_cons.mpr ⟨s_aload_n C (by decide +kernel : decode c_X10_couple 87 = .ok (.aload_n 0, 1)) rfl rfl rfl, ?_⟩
  refine List.forall_mem_cons.mpr ⟨s_getf C (by decide +kernel : decode c_X10_couple 88 = .ok (.getfield 7, 3)) rfl rfl em_cl_X10 (by decide) ew691 rfl, ?_⟩
  refine List.forall_mem_cons.mpr ⟨s_iconst C (by decide +kernel : decode c_X10_couple 91 = .ok (.iconst 4, 1)) rfl rfl (by decide), ?_⟩
  refine List.forall_mem_cons.mpr ⟨s_iald C (by decide +kernel : decode c_X10_couple 92 = .ok (.iaload, 1)) rfl rfl, ?_⟩
  refine List.forall_mem_cons.mpr ⟨s_iret C (by decide +kernel : decode c_X10_couple 93 = .ok (.ireturn, 1)) hret hlk ⟨Nat.le_refl 0, Nat.le_refl 0⟩, ?_⟩
  exact fun _ h => absurd h List.not_mem_nil
def cfM (B : Nat → Nat) (a b : Nat) : Nat → Bool
  | 0 => true
  | k + 1 => cfM B a b k && (decide (a ≤ B (42 + 2 * k) ∧ B (42 + 2 * k) ≤ b) == decide (B (43 + 2 * k) = 1))
def laM (P : Nat → Nat → Bool) : Nat → Nat × Option Nat × Nat
  | 0 => (0, none, 100)
  | a + 1 => laI P a (laM P a) (21 - a)
theorem laI_b {P : Nat → Nat → Bool} {a : Nat} {s : Nat × Option Nat × Nat} {c : Nat} (hs : s.1 ≤ c) (h : s.2.2 ≤ 100) : ∀ k, (laI P a s k).1 ≤ c + k ∧ (laI P a s k).2.2 ≤ 100 ∨ 100 < k
  | 0 => Or.inl ⟨hs, h⟩
  | k + 1 => by
    rcases laI_b (P := P) (a := a) hs h k with ⟨h1, h2⟩ | h1
    · by_cases hk : 100 < k + 1
      · exact Or.inr hk
      · refine Or.inl ?_
        rw [laI]
        split
        · split
          · exact ⟨Nat.succ_le_succ h1, by show k ≤ 100; omega⟩
          · exact ⟨Nat.succ_le_succ h1, h2⟩
        · exact ⟨by omega, h2⟩
    · exact Or.inr (by omega)
theorem laM_b {P : Nat → Nat → Bool} : ∀ a, (laM P a).1 ≤ 21 * a ∧ (laM P a).2.2 ≤ 100
  | 0 => ⟨Nat.le_refl _, Nat.le_refl _⟩
  | a + 1 => by
    obtain ⟨h1, h2⟩ := laM_b (P := P) a
    rcases laI_b (P := P) (a := a) h1 h2 (21 - a) with ⟨g1, g2⟩ | g
    · exact ⟨by rw [laM]; omega, g2⟩
    · omega
def sp_X10_law : em_Sp := fun av hp Q => ∃ B im kp asd rf qt ab be tx ty at9 st9 tk vl wd it mn so sb my we be9 rw fr k, av = [.ref 0, .int k] ∧ hp = (wM (nB B) im kp asd rf qt ab be tx ty at9 st9 tk vl wd it mn so sb my we be9 rw fr) ∧ B 4 ≤ 10 ∧ (∀ j, j < B 4 → B (42 + 2 * j) ≤ 20 ∧ B (43 + 2 * j) ≤ 1) ∧ (¬ k = 0 → ¬ k = 1 → Q (some (.int (-10))) (wM (nB B) im kp asd (rfM qt rf 0) qt ab be tx ty at9 st9 tk vl wd it mn so sb my we be9 rw fr)) ∧ (k = 0 → Q (some (.int (nI (laM (fun a b => cfM B a b (B 4)) 21).1))) hp) ∧ (k = 1 → Q (some (.int (oI (laM (fun a b => cfM B a b (B 4)) 21).2.1))) hp)
def T_X10_law : List (Nat × em_Op) := [(0, o_iload 1 1), (1, o_i2l 2), (2, o_lconst 0 3), (3, o_lconst 1 4), (4, o_call 3 none (sp_X10_in) 7), (7, o_ifne 18 10), (10, o_aload 0 11), (11, o_iconst 0 12), (12, o_iconst (-10) 14), (14, o_call 3 (some 5) (sp_X10_refuses) 17), (17, o_iret), (18, o_iconst 0 19), (19, o_istore 2 20), (20, o_iconst (-1) 21), (21, o_istore 3 22), (22, o_iconst 100 24), (24, o_istore 4 26), (26, o_iconst 0 27), (27, o_istore 5 29), (29, o_iload 5 31), (31, o_iconst 21 33), (33, o_icmpge 214 36), (36, o_iload 5 38), (38, o_istore 6 40), (40, o_iload 6 42), (42, o_iconst 21 44), (44, o_icmpge 208 47), (47, o_iconst 1 48), (48, o_istore 7 50), (50, o_iconst 0 51), (51, o_istore 8 53), (53, o_iload 8 55), (55, o_aload 0 56), (56, o_getf 5 0 59), (59, o_iconst 4 60), (60, o_aldI 0 61), (61, o_icmpge 134 64), (64, o_aload 0 65), (65, o_getf 5 0 68), (68, o_iconst 42 70), (70, o_iconst 2 71), (71, o_iload 8 73), (73, o_imul 74), (74, o_iadd 75), (75, o_iconst 1 76), (76, o_iadd 77), (77, o_aldI 0 78), (78, o_iconst 1 79), (79, o_icmpne 86 82), (82, o_iconst 1 83), (83, o_goto 87), (86, o_iconst 0 87), (87, o_istore 9 89), (89, o_iload 7 91), (91, o_ifeq 125 94), (94, o_aload 0 95), (95, o_getf 5 0 98), (98, o_iconst 42 100), (100, o_iconst 2 101), (101, o_iload 8 103), (103, o_imul 104), (104, o_iadd 105), (105, o_aldI 0 106), (106, o_i2l 107), (107, o_iload 5 109), (109, o_i2l 110), (110, o_iload 6 112), (112, o_i2l 113), (113, o_call 3 none (sp_X10_in) 116), (116, o_iload 9 118), (118, o_icmpne 125 121), (121, o_iconst 1 122), (122, o_goto 126), (125, o_iconst 0 126), (126, o_istore 7 128), (128, o_iinc 8 1 131), (131, o_goto 53), (134, o_iload 2 135), (135, o_iload 7 137), (137, o_ifeq 144 140), (140, o_iconst 1 141), (141, o_goto 145), (144, o_iconst 0 145), (145, o_iadd 146), (146, o_istore 2 147), (147, o_iload 7 149), (149, o_ifeq 173 152), (152, o_iload 6 154), (154, o_iload 5 156), (156, o_isub 157), (157, o_iload 4 159), (159, o_icmpge 173 162), (162, o_iconst 100 164), (164, o_iload 5 166), (166, o_imul 167), (167, o_iload 6 169), (169, o_iadd 170), (170, o_goto 174), (173, o_iload 3 174), (174, o_istore 3 175), (175, o_iload 7 177), (177, o_ifeq 198 180), (180, o_iload 6 182), (182, o_iload 5 184), (184, o_isub 185), (185, o_iload 4 187), (187, o_icmpge 198 190), (190, o_iload 6 192), (192, o_iload 5 194), (194, o_isub 195), (195, o_goto 200), (198, o_iload 4 200), (200, o_istore 4 202), (202, o_iinc 6 1 205), (205, o_goto 40), (208, o_iinc 5 1 211), (211, o_goto 29), (214, o_iload 1 215), (215, o_ifne 222 218), (218, o_iload 2 219), (219, o_goto 223), (222, o_iload 3 223), (223, o_iret)]
theorem me_X10_law : em_Me T_X10_law 10 sp_X10_law := by
  intro Q K hK hle av hp hs
  obtain ⟨B, im, kp, asd, rf, qt, ab, be, tx, ty, at9, st9, tk, vl, wd, it, mn, so, sb, my, we, be9, rw, fr, k, rfl, rfl, h4, hC, hbad, hq0, hq1⟩ := hs
  refine ⟨Nat.le_of_ble_eq_true rfl, hK 0 19 0 _ _ _ ?_⟩
  refine ⟨_, _, _, rfl, fun z1 => ?_, fun z1 => ?_⟩
  · refine ⟨fun _ => ?_, fun y => absurd y (by decide)⟩
    have hk := in_01.mp z1
    obtain ⟨P, hP⟩ : ∃ P, P = fun a b => cfM B a b (B 4) := ⟨_, rfl⟩
    rw [← hP] at hq0 hq1
    have outer : ∀ (r a : Nat), a + r = 21 → K 29 [some (.ref 0), some (.int k), some (.int (nI (laM P a).1)), some (.int (oI (laM P a).2.1)), some (.int (nI (laM P a).2.2)), some (.int (nI a)), none, none, none, none] [] (wM (nB B) im kp asd rf qt ab be tx ty at9 st9 tk vl wd it mn so sb my we be9 rw fr) := by
      intro r
      induction r with
      | zero =>
        intro a ha
        have ha : a = 21 := by omega
        subst ha
        refine hK 19 9999 29 _ _ _ ?_
        refine ⟨fun _ => ⟨fun z => ?_, fun z => hq0 z⟩, fun z => absurd (nI_le (a := 21) (b := 21) (by omega) (by omega)) z⟩
        rcases hk with q | q
        · exact absurd q z
        · exact hq1 q
      | succ r ih =>
        intro a ha
        have hnx := ih (a + 1) (by omega)
        obtain ⟨b1', b2'⟩ := laM_b (P := P) a
        rw [laM, ← nI_1 a] at hnx
        generalize hs0 : laM P a = s at hnx b1' b2'
        have inner : ∀ (w j : Nat), a + j + w = 21 → K 40 [some (.ref 0), some (.int k), some (.int (nI (laI P a s j).1)), some (.int (oI (laI P a s j).2.1)), some (.int (nI (laI P a s j).2.2)), some (.int (nI a)), some (.int (nI (a + j))), none, none, none] [] (wM (nB B) im kp asd rf qt ab be tx ty at9 st9 tk vl wd it mn so sb my we be9 rw fr) := by
          intro w
          induction w with
          | zero =>
            intro j hj
            have hj : j = 21 - a := by omega
            subst hj
            refine hK 24 93 40 _ _ _ ?_
            exact ⟨fun _ => hle _ _ _ _ _ (by repeat (first | exact trivial | refine ⟨rfl, ?_⟩)) hnx, fun y => absurd (nI_le (a := 21) (b := a + (21 - a)) (by omega) (by omega)) y⟩
          | succ w ihw =>
            intro j hj
            have hlb := laI_b (P := P) (a := a) b1' b2' j
            have hw9 : (laI P a s j).2.2 ≤ 100 := hlb.elim (fun q => q.2) (fun q => by omega)
            have hc9 : (laI P a s j).1 ≤ 1000 := hlb.elim (fun q => by omega) (fun q => by omega)
            have nx := ihw (j + 1) (by omega)
            rw [show a + (j + 1) = (a + j) + 1 by omega, ← nI_1 (a + j)] at nx
            have ej : nI (a + j) - nI a = nI j := by rw [pk_sub (by omega)]; congr 1; omega
            have eval : ∀ v, v = P a (a + j) → ∀ (x8 x9 : Option Value), K 134 [some (.ref 0), some (.int k), some (.int (nI (laI P a s j).1)), some (.int (oI (laI P a s j).2.1)), some (.int (nI (laI P a s j).2.2)), some (.int (nI a)), some (.int (nI (a + j))), some (.int (b1 v)), x8, x9] [] (wM (nB B) im kp asd rf qt ab be tx ty at9 st9 tk vl wd it mn so sb my we be9 rw fr) := by
              intro v hv x8 x9
              have last : ∀ w c f, w = nI (laI P a s (j + 1)).2.2 → c = nI (laI P a s (j + 1)).1 → f = oI (laI P a s (j + 1)).2.1 → K 200 [some (.ref 0), some (.int k), some (.int c), some (.int f), some (.int (nI (laI P a s j).2.2)), some (.int (nI a)), some (.int (nI (a + j))), some (.int (b1 v)), x8, x9] [.int w] (wM (nB B) im kp asd rf qt ab be tx ty at9 st9 tk vl wd it mn so sb my we be9 rw fr) := by
                intro w c f h1 h2 h3
                rw [h1, h2, h3]
                exact hK 112 3 200 _ _ _ (hle _ _ _ _ _ (by repeat (first | exact trivial | refine ⟨rfl, ?_⟩)) nx)
              cases v with
              | false =>
                have e : laI P a s (j + 1) = laI P a s j := by rw [laI, ← hv]; exact if_neg Bool.false_ne_true
                rw [e] at last
                have l3 : ∀ c f, c = nI (laI P a s j).1 → f = oI (laI P a s j).2.1 → K 174 [some (.ref 0), some (.int k), some (.int c), some (.int (oI (laI P a s j).2.1)), some (.int (nI (laI P a s j).2.2)), some (.int (nI a)), some (.int (nI (a + j))), some (.int (b1 false)), x8, x9] [.int f] (wM (nB B) im kp asd rf qt ab be tx ty at9 st9 tk vl wd it mn so sb my we be9 rw fr) := by
                  intro c f h2 h3
                  refine hK 99 13 174 _ _ _ ?_
                  exact ⟨fun _ => last _ _ _ rfl h2 h3, fun z => absurd rfl z⟩
                have l2 : ∀ c, nI (laI P a s j).1 + c = nI (laI P a s j).1 → K 145 [some (.ref 0), some (.int k), some (.int (nI (laI P a s j).1)), some (.int (oI (laI P a s j).2.1)), some (.int (nI (laI P a s j).2.2)), some (.int (nI a)), some (.int (nI (a + j))), some (.int (b1 false)), x8, x9] [.int c, .int (nI (laI P a s j).1)] (wM (nB B) im kp asd rf qt ab be tx ty at9 st9 tk vl wd it mn so sb my we be9 rw fr) := by
                  intro c hc
                  refine hK 83 16 145 _ _ _ ?_
                  exact ⟨fun _ => l3 _ _ hc rfl, fun z => absurd rfl z⟩
                refine hK 77 6 134 _ _ _ ?_
                exact ⟨fun _ => l2 _ (Int32.add_zero _), fun z => absurd rfl z⟩
              | true =>
                have l2 : ∀ c, c = (1 : Int32) → K 145 [some (.ref 0), some (.int k), some (.int (nI (laI P a s j).1)), some (.int (oI (laI P a s j).2.1)), some (.int (nI (laI P a s j).2.2)), some (.int (nI a)), some (.int (nI (a + j))), some (.int (b1 true)), x8, x9] [.int c, .int (nI (laI P a s j).1)] (wM (nB B) im kp asd rf qt ab be tx ty at9 st9 tk vl wd it mn so sb my we be9 rw fr) := by
                  intro c hc
                  subst hc
                  by_cases hn : j < (laI P a s j).2.2
                  · have e : laI P a s (j + 1) = ((laI P a s j).1 + 1, some (100 * a + (a + j)), j) := by rw [laI, if_pos hv.symm, if_pos hn]
                    rw [e] at last
                    have e100 : (100 : Int32) * nI a + nI (a + j) = nI (100 * a + (a + j)) := by
                      rw [show (100 : Int32) = nI 100 from rfl, pk_mul, nI_add]
                    refine hK 83 16 145 _ _ _ ?_
                    refine ⟨fun z => absurd z (by decide), fun _ => ⟨fun z => absurd (by rw [ej] at z; exact z) (nI_ge (by omega) (by omega)), fun _ => ?_⟩⟩
                    refine hK 99 13 174 _ _ _ ?_
                    refine ⟨fun z => absurd z (by decide), fun _ => ⟨fun z => absurd (by rw [ej] at z; exact z) (nI_ge (by omega) (by omega)), fun _ => ?_⟩⟩
                    exact last _ _ _ ej (nI_1 _) e100
                  · have e : laI P a s (j + 1) = ((laI P a s j).1 + 1, (laI P a s j).2) := by rw [laI, if_pos hv.symm, if_neg hn]
                    rw [e] at last
                    refine hK 83 16 145 _ _ _ ?_
                    refine ⟨fun z => absurd z (by decide), fun _ => ⟨fun _ => ?_, fun z => absurd (by rw [ej]; exact nI_le (by omega) (by omega)) z⟩⟩
                    refine hK 99 13 174 _ _ _ ?_
                    refine ⟨fun z => absurd z (by decide), fun _ => ⟨fun _ => ?_, fun z => absurd (by rw [ej]; exact nI_le (by omega) (by omega)) z⟩⟩
                    exact last _ _ _ rfl (nI_1 _) rfl
                refine hK 77 6 134 _ _ _ ?_
                exact ⟨fun z => absurd z (by decide), fun _ => l2 _ rfl⟩
            have eP : P a (a + j) = cfM B a (a + j) (B 4) := by rw [hP]
            have fit : ∀ (u q : Nat) (x9 : Option Value), q + u = B 4 → K 53 [some (.ref 0), some (.int k), some (.int (nI (laI P a s j).1)), some (.int (oI (laI P a s j).2.1)), some (.int (nI (laI P a s j).2.2)), some (.int (nI a)), some (.int (nI (a + j))), some (.int (b1 (cfM B a (a + j) q))), some (.int (nI q)), x9] [] (wM (nB B) im kp asd rf qt ab be tx ty at9 st9 tk vl wd it mn so sb my we be9 rw fr) := by
              intro u
              induction u with
              | zero =>
                intro q x9 hq
                have hq : q = B 4 := by omega
                subst hq
                refine hK 31 46 53 _ _ _ ?_
                exact ⟨4, rfl, by decide, fun _ => eval _ eP.symm _ _, fun y => absurd (nI_le (Nat.le_refl (B 4)) (by omega)) y⟩
              | succ u ihu =>
                intro q x9 hq
                obtain ⟨c1, c2⟩ := hC q (by omega)
                have last : ∀ v (x9 : Option Value), v = b1 (cfM B a (a + j) (q + 1)) → K 126 [some (.ref 0), some (.int k), some (.int (nI (laI P a s j).1)), some (.int (oI (laI P a s j).2.1)), some (.int (nI (laI P a s j).2.2)), some (.int (nI a)), some (.int (nI (a + j))), some (.int (b1 (cfM B a (a + j) q))), some (.int (nI q)), x9] [.int v] (wM (nB B) im kp asd rf qt ab be tx ty at9 st9 tk vl wd it mn so sb my we be9 rw fr) := by
                  intro v x9 hv
                  subst hv
                  have := ihu (q + 1) x9 (by omega)
                  rw [← nI_1 q] at this
                  exact hK 74 3 126 _ _ _ this
                have el : inL (nI (B (42 + 2 * q))).toInt64 (nI a).toInt64 (nI (a + j)).toInt64 ↔ (a ≤ B (42 + 2 * q) ∧ B (42 + 2 * q) ≤ a + j) := by
                  rw [inL_i, Int32.toInt_toInt64, Int32.toInt_toInt64, nI_toInt (by omega), nI_toInt (by omega), nI_toInt (by omega)]
                  omega
                have mid : ∀ l, l = b1 (decide (B (43 + 2 * q) = 1)) → K 87 [some (.ref 0), some (.int k), some (.int (nI (laI P a s j).1)), some (.int (oI (laI P a s j).2.1)), some (.int (nI (laI P a s j).2.2)), some (.int (nI a)), some (.int (nI (a + j))), some (.int (b1 (cfM B a (a + j) q))), some (.int (nI q)), x9] [.int l] (wM (nB B) im kp asd rf qt ab be tx ty at9 st9 tk vl wd it mn so sb my we be9 rw fr) := by
                  intro l hl
                  subst hl
                  refine hK 52 22 87 _ _ _ ?_
                  refine ⟨fun z => ?_, fun z => ?_⟩
                  · have z := b1_0.mp z
                    exact last _ _ (by rw [cfM, z]; rfl)
                  · have zt : cfM B a (a + j) q = true := by
                      cases hc : cfM B a (a + j) q with
                      | true => rfl
                      | false => exact absurd (b1_0.mpr hc) z
                    refine ⟨42 + 2 * q, i42 q, by omega, _, _, _, rfl, fun y => ?_, fun y => ?_⟩
                    · have y := el.mp y
                      by_cases hd : B (43 + 2 * q) = 1
                      · refine ⟨fun t => absurd (by rw [decide_eq_true hd]; rfl) t, fun _ => ?_⟩
                        exact last _ _ (by rw [cfM, zt, decide_eq_true y, decide_eq_true hd]; rfl)
                      · refine ⟨fun _ => ?_, fun t => absurd t (by rw [decide_eq_false hd]; decide)⟩
                        exact last _ _ (by rw [cfM, zt, decide_eq_true y, decide_eq_false hd]; rfl)
                    · have y : ¬ (a ≤ B (42 + 2 * q) ∧ B (42 + 2 * q) ≤ a + j) := fun t => y (el.mpr t)
                      by_cases hd : B (43 + 2 * q) = 1
                      · refine ⟨fun _ => ?_, fun t => absurd t (by rw [decide_eq_true hd]; decide)⟩
                        exact last _ _ (by rw [cfM, zt, decide_eq_false y, decide_eq_true hd]; rfl)
                      · refine ⟨fun t => absurd (by rw [decide_eq_false hd]; rfl) t, fun _ => ?_⟩
                        exact last _ _ (by rw [cfM, zt, decide_eq_false y, decide_eq_false hd]; rfl)
                refine hK 31 21 53 _ _ _ ?_
                refine ⟨4, rfl, by decide, fun z => absurd z (by show ¬ nI (B 4) ≤ nI q; exact nI_ge (by omega) (by omega)), fun _ => ?_⟩
                refine ⟨43 + 2 * q, i43 q, by omega, fun y => ?_, fun y => ?_⟩
                · have y : ¬ B (43 + 2 * q) = 1 := fun t => y (by show nI (B (43 + 2 * q)) = 1; rw [t]; rfl)
                  exact mid _ (by rw [decide_eq_false y]; rfl)
                · have y : B (43 + 2 * q) = 1 := (nI_eq (b := 1) (by omega) (by omega)).mp y
                  exact mid _ (by rw [decide_eq_true y]; rfl)
            have f0 := fit (B 4) 0 none (by omega)
            refine hK 24 7 40 _ _ _ ?_
            exact ⟨fun z => absurd z (nI_ge (a := a + j) (b := 21) (by omega) (by omega)), fun _ => f0⟩
        have i0 := inner (21 - a) 0 (by omega)
        rw [Nat.add_zero] at i0
        refine hK 19 5 29 _ _ _ ?_
        exact ⟨fun z => absurd z (nI_ge (a := a) (b := 21) (by omega) (by omega)), fun _ => i0⟩
    exact hle _ _ _ _ _ (by repeat (first | exact trivial | refine ⟨rfl, ?_⟩)) (outer 21 0 (by omega))
  · exact ⟨fun y => absurd rfl y, fun _ => ⟨_, _, _, _, _, _, _, _, _, _, _, _, _, _, _, _, _, _, _, _, _, _, _, _, 0, _, rfl, rfl, by decide, hbad (fun q => z1 (in_01.mpr (Or.inl q))) (fun q => z1 (in_01.mpr (Or.inr q)))⟩⟩
abbrev rm_X10_law : Room := { frames := 1, cells := 0, slots := 0, locals := 25 }
set_option maxRecDepth 100000 in
set_option maxHeartbeats 4000000 in
theorem ct_X10_law (l : Launch) (D : va_G) (dA : Nat → ClassId) (σ : Nat → Nat) : em_CT l D em_cl dA σ (em_F σ) y_X10_law c_X10_law 10 (Option.some ClassFile.FieldType.int) rm_X10_law (sp_X10_law ) := by
  refine em_CT_of (T := T_X10_law ) (em_F_ok σ) (by decide) (fun p e s m args below meth c A ρ Q C hFok hF hret hlk hin => ?_) (me_X10_law )
  unfold T_X10_law
  refine List.forall_mem_cons.mpr ⟨s_iload_n C (by decide +kernel : decode c_X10_law 0 = .ok (.iload_n 1, 1)) rfl rfl rfl, ?_⟩
  refine List.forall_mem_cons.mpr ⟨s_i2l C (by decide +kernel : decode c_X10_law 1 = .ok (.i2l, 1)) rfl rfl, ?_⟩
  refine List.forall_mem_cons.mpr ⟨s_lconst C (by decide +kernel : decode c_X10_law 2 = .ok (.lconst 0, 1)) rfl rfl (by decide), ?_⟩
  refine List.forall_mem_cons.mpr ⟨s_lconst C (by decide +kernel : decode c_X10_law 3 = .ok (.lconst 1, 1)) rfl rfl (by decide), ?_⟩
  refine List.forall_mem_cons.mpr ⟨s_callS C hFok hF (ct_X10_in l D dA σ) ⟨rfl, rfl⟩ ew771 ew769 ew770 ew6 ⟨by decide, by decide, by decide +kernel⟩ ⟨by decide, by decide⟩ (by decide +kernel : decode c_X10_law 4 = .ok (.invokestatic 69, 3)) rfl rfl ⟨Nat.zero_le _, Nat.zero_le _⟩, ?_⟩
  refine List.forall_mem_cons.mpr ⟨s_ifne C (by decide +kernel : decode c_X10_law 7 = .ok (.ifCond .ne 11, 3)) (by decide) rfl rfl rfl, ?_⟩
  refine List.forall_mem_cons.mpr ⟨s_aload_n C (by decide +kernel : decode c_X10_law 10 = .ok (.aload_n 0, 1)) rfl rfl rfl, ?_⟩
  refine List.forall_mem_cons.mpr ⟨s_iconst C (by decide +kernel : decode c_X10_law 11 = .ok (.iconst 0, 1)) rfl rfl (by decide), ?_⟩
  refine List.forall_mem_cons.mpr ⟨s_bipush C (by decide +kernel : decode c_X10_law 12 = .ok (.bipush (-10), 2)) rfl rfl (by decide), ?_⟩
  refine List.forall_mem_cons.mpr ⟨s_callV C hFok hF (ct_X10_refuses l D dA σ) ⟨rfl, rfl⟩ ew783 em_cl_X10 ew780 ew782 ewp14 ew6 ⟨by decide, by decide, by decide +kernel⟩ ⟨by decide, by decide⟩ (by decide +kernel : decode c_X10_law 14 = .ok (.invokevirtual 65, 3)) rfl rfl ⟨Nat.zero_le _, Nat.zero_le _⟩, ?_⟩
  refine List.forall_mem_cons.mpr ⟨s_iret C (by decide +kernel : decode c_X10_law 17 = .ok (.ireturn, 1)) hret hlk ⟨Nat.le_refl 0, Nat.le_refl 0⟩, ?_⟩
  refine List.forall_mem_cons.mpr ⟨s_iconst C (by decide +kernel : decode c_X10_law 18 = .ok (.iconst 0, 1)) rfl rfl (by decide), ?_⟩
  refine List.forall_mem_cons.mpr ⟨s_istore_n C (by decide +kernel : decode c_X10_law 19 = .ok (.istore_n 2, 1)) rfl rfl rfl (by decide), ?_⟩
  refine List.forall_mem_cons.mpr ⟨s_iconst C (by decide +kernel : decode c_X10_law 20 = .ok (.iconst (-1), 1)) rfl rfl (by decide), ?_⟩
  refine List.forall_mem_cons.mpr ⟨s_istore_n C (by decide +kernel : decode c_X10_law 21 = .ok (.istore_n 3, 1)) rfl rfl rfl (by decide), ?_⟩
  refine List.forall_mem_cons.mpr ⟨s_bipush C (by decide +kernel : decode c_X10_law 22 = .ok (.bipush 100, 2)) rfl rfl (by decide), ?_⟩
  refine List.forall_mem_cons.mpr ⟨s_istore C (by decide +kernel : decode c_X10_law 24 = .ok (.istore 4, 2)) rfl rfl (by decide), ?_⟩
  refine List.forall_mem_cons.mpr ⟨s_iconst C (by decide +kernel : decode c_X10_law 26 = .ok (.iconst 0, 1)) rfl rfl (by decide), ?_⟩
  refine List.forall_mem_cons.mpr ⟨s_istore C (by decide +kernel : decode c_X10_law 27 = .ok (.istore 5, 2)) rfl rfl (by decide), ?_⟩
  refine List.forall_mem_cons.mpr ⟨s_iload C (by decide +kernel : decode c_X10_law 29 = .ok (.iload 5, 2)) rfl rfl, ?_⟩
  refine List.forall_mem_cons.mpr ⟨s_bipush C (by decide +kernel : decode c_X10_law 31 = .ok (.bipush 21, 2)) rfl rfl (by decide), ?_⟩
  refine List.forall_mem_cons.mpr ⟨s_icmpge C (by decide +kernel : decode c_X10_law 33 = .ok (.if_icmp .ge 181, 3)) (by decide) rfl rfl rfl, ?_⟩
  refine List.forall_mem_cons.mpr ⟨s_iload C (by decide +kernel : decode c_X10_law 36 = .ok (.iload 5, 2)) rfl rfl, ?_⟩
  refine List.forall_mem_cons.mpr ⟨s_istore C (by decide +kernel : decode c_X10_law 38 = .ok (.istore 6, 2)) rfl rfl (by decide), ?_⟩
  refine List.forall_mem_cons.mpr ⟨s_iload C (by decide +kernel : decode c_X10_law 40 = .ok (.iload 6, 2)) rfl rfl, ?_⟩
  refine List.forall_mem_cons.mpr ⟨s_bipush C (by decide +kernel : decode c_X10_law 42 = .ok (.bipush 21, 2)) rfl rfl (by decide), ?_⟩
  refine List.forall_mem_cons.mpr ⟨s_icmpge C (by decide +kernel : decode c_X10_law 44 = .ok (.if_icmp .ge 164, 3)) (by decide) rfl rfl rfl, ?_⟩
  refine List.forall_mem_cons.mpr ⟨s_iconst C (by decide +kernel : decode c_X10_law 47 = .ok (.iconst 1, 1)) rfl rfl (by decide), ?_⟩
  refine List.forall_mem_cons.mpr ⟨s_istore C (by decide +kernel : decode c_X10_law 48 = .ok (.istore 7, 2)) rfl rfl (by decide), ?_⟩
  refine List.forall_mem_cons.mpr ⟨s_iconst C (by decide +kernel : decode c_X10_law 50 = .ok (.iconst 0, 1)) rfl rfl (by decide), ?_⟩
  refine List.forall_mem_cons.mpr ⟨s_istore C (by decide +kernel : decode c_X10_law 51 = .ok (.istore 8, 2)) rfl rfl (by decide), ?_⟩
  refine List.forall_mem_cons.mpr ⟨s_iload C (by decide +kernel : decode c_X10_law 53 = .ok (.iload 8, 2)) rfl rfl, ?_⟩
  refine List.forall_mem_cons.mpr ⟨s_aload_n C (by decide +kernel : decode c_X10_law 55 = .ok (.aload_n 0, 1)) rfl rfl rfl, ?_⟩
  refine List.forall_mem_cons.mpr ⟨s_getf C (by decide +kernel : decode c_X10_law 56 = .ok (.getfield 7, 3)) rfl rfl em_cl_X10 (by decide) ew691 rfl, ?_⟩
  refine List.forall_mem_cons.mpr ⟨s_iconst C (by decide +kernel : decode c_X10_law 59 = .ok (.iconst 4, 1)) rfl rfl (by decide), ?_⟩
  refine List.forall_mem_cons.mpr ⟨s_iald C (by decide +kernel : decode c_X10_law 60 = .ok (.iaload, 1)) rfl rfl, ?_⟩
  refine List.forall_mem_cons.mpr ⟨s_icmpge C (by decide +kernel : decode c_X10_law 61 = .ok (.if_icmp .ge 73, 3)) (by decide) rfl rfl rfl, ?_⟩
  refine List.forall_mem_cons.mpr ⟨s_aload_n C (by decide +kernel : decode c_X10_law 64 = .ok (.aload_n 0, 1)) rfl rfl rfl, ?_⟩
  refine List.forall_mem_cons.mpr ⟨s_getf C (by decide +kernel : decode c_X10_law 65 = .ok (.getfield 7, 3)) rfl rfl em_cl_X10 (by decide) ew691 rfl, ?_⟩
  refine List.forall_mem_cons.mpr ⟨s_bipush C (by decide +kernel : decode c_X10_law 68 = .ok (.bipush 42, 2)) rfl rfl (by decide), ?_⟩
  refine List.forall_mem_cons.mpr ⟨s_iconst C (by decide +kernel : decode c_X10_law 70 = .ok (.iconst 2, 1)) rfl rfl (by decide), ?_⟩
  refine List.forall_mem_cons.mpr ⟨s_iload C (by decide +kernel : decode c_X10_law 71 = .ok (.iload 8, 2)) rfl rfl, ?_⟩
  refine List.forall_mem_cons.mpr ⟨s_imul C (by decide +kernel : decode c_X10_law 73 = .ok (.imul, 1)) rfl rfl, ?_⟩
  refine List.forall_mem_cons.mpr ⟨s_iadd C (by decide +kernel : decode c_X10_law 74 = .ok (.iadd, 1)) rfl rfl, ?_⟩
  refine List.forall_mem_cons.mpr ⟨s_iconst C (by decide +kernel : decode c_X10_law 75 = .ok (.iconst 1, 1)) rfl rfl (by decide), ?_⟩
  refine List.forall_mem_cons.mpr ⟨s_iadd C (by decide +kernel : decode c_X10_law 76 = .ok (.iadd, 1)) rfl rfl, ?_⟩
  refine List.forall_mem_cons.mpr ⟨s_iald C (by decide +kernel : decode c_X10_law 77 = .ok (.iaload, 1)) rfl rfl, ?_⟩
  refine List.forall_mem_cons.mpr ⟨s_iconst C (by decide +kernel : decode c_X10_law 78 = .ok (.iconst 1, 1)) rfl rfl (by decide), ?_⟩
  refine List.forall_mem_cons.mpr ⟨s_icmpne C (by decide +kernel : decode c_X10_law 79 = .ok (.if_icmp .ne 7, 3)) (by decide) rfl rfl rfl, ?_⟩
  refine List.forall_mem_cons.mpr ⟨s_iconst C (by decide +kernel : decode c_X10_law 82 = .ok (.iconst 1, 1)) rfl rfl (by decide), ?_⟩
  refine List.forall_mem_cons.mpr ⟨s_goto C (by decide +kernel : decode c_X10_law 83 = .ok (.goto 4, 3)) (by decide) rfl, ?_⟩
  refine List.forall_mem_cons.mpr ⟨s_iconst C (by decide +kernel : decode c_X10_law 86 = .ok (.iconst 0, 1)) rfl rfl (by decide), ?_⟩
  refine List.forall_mem_cons.mpr ⟨s_istore C (by decide +kernel : decode c_X10_law 87 = .ok (.istore 9, 2)) rfl rfl (by decide), ?_⟩
  refine List.forall_mem_cons.mpr ⟨s_iload C (by decide +kernel : decode c_X10_law 89 = .ok (.iload 7, 2)) rfl rfl, ?_⟩
  refine List.forall_mem_cons.mpr ⟨s_ifeq C (by decide +kernel : decode c_X10_law 91 = .ok (.ifCond .eq 34, 3)) (by decide) rfl rfl rfl, ?_⟩
  refine List.forall_mem_cons.mpr ⟨s_aload_n C (by decide +kernel : decode c_X10_law 94 = .ok (.aload_n 0, 1)) rfl rfl rfl, ?_⟩
  refine List.forall_mem_cons.mpr ⟨s_getf C (by decide +kernel : decode c_X10_law 95 = .ok (.getfield 7, 3)) rfl rfl em_cl_X10 (by decide) ew691 rfl, ?_⟩
  refine List.forall_mem_cons.mpr ⟨s_bipush C (by decide +kernel : decode c_X10_law 98 = .ok (.bipush 42, 2)) rfl rfl (by decide), ?_⟩
  refine List.forall_mem_cons.mpr ⟨s_iconst C (by decide +kernel : decode c_X10_law 100 = .ok (.iconst 2, 1)) rfl rfl (by decide), ?_⟩
  refine List.forall_mem_cons.mpr ⟨s_iload C (by decide +kernel : decode c_X10_law 101 = .ok (.iload 8, 2)) rfl rfl, ?_⟩
  refine List.forall_mem_cons.mpr ⟨s_imul C (by decide +kernel : decode c_X10_law 103 = .ok (.imul, 1)) rfl rfl, ?_⟩
  refine List.forall_mem_cons.mpr ⟨s_iadd C (by decide +kernel : decode c_X10_law 104 = .ok (.iadd, 1)) rfl rfl, ?_⟩
  refine List.forall_mem_cons.mpr ⟨s_iald C (by decide +kernel : decode c_X10_law 105 = .ok (.iaload, 1)) rfl rfl, ?_⟩
  refine List.forall_mem_cons.mpr ⟨s_i2l C (by decide +kernel : decode c_X10_law 106 = .ok (.i2l, 1)) rfl rfl, ?_⟩
  refine List.forall_mem_cons.mpr ⟨s_iload C (by decide +kernel : decode c_X10_law 107 = .ok (.iload 5, 2)) rfl rfl, ?_⟩
  refine List.forall_mem_cons.mpr ⟨s_i2l C (by decide +kernel : decode c_X10_law 109 = .ok (.i2l, 1)) rfl rfl, ?_⟩
  refine List.forall_mem_cons.mpr ⟨s_iload C (by decide +kernel : decode c_X10_law 110 = .ok (.iload 6, 2)) rfl rfl, ?_⟩
  refine List.forall_mem_cons.mpr ⟨s_i2l C (by decide +kernel : decode c_X10_law 112 = .ok (.i2l, 1)) rfl rfl, ?_⟩
  refine List.forall_mem_cons.mpr ⟨s_callS C hFok hF (ct_X10_in l D dA σ) ⟨rfl, rfl⟩ ew771 ew769 ew770 ew6 ⟨by decide, by decide, by decide +kernel⟩ ⟨by decide, by decide⟩ (by decide +kernel : decode c_X10_law 113 = .ok (.invokestatic 69, 3)) rfl rfl ⟨Nat.zero_le _, Nat.zero_le _⟩, ?_⟩
  refine List.forall_mem_cons.mpr ⟨s_iload C (by decide +kernel : decode c_X10_law 116 = .ok (.iload 9, 2)) rfl rfl, ?_⟩
  refine List.forall_mem_cons.mpr ⟨s_icmpne C (by decide +kernel : decode c_X10_law 118 = .ok (.if_icmp .ne 7, 3)) (by decide) rfl rfl rfl, ?_⟩
  refine List.forall_mem_cons.mpr ⟨s_iconst C (by decide +kernel : decode c_X10_law 121 = .ok (.iconst 1, 1)) rfl rfl (by decide), ?_⟩
  refine List.forall_mem_cons.mpr ⟨s_goto C (by decide +kernel : decode c_X10_law 122 = .ok (.goto 4, 3)) (by decide) rfl, ?_⟩
  refine List.forall_mem_cons.mpr ⟨s_iconst C (by decide +kernel : decode c_X10_law 125 = .ok (.iconst 0, 1)) rfl rfl (by decide), ?_⟩
  refine List.forall_mem_cons.mpr ⟨s_istore C (by decide +kernel : decode c_X10_law 126 = .ok (.istore 7, 2)) rfl rfl (by decide), ?_⟩
  refine List.forall_mem_cons.mpr ⟨s_iinc C (by decide +kernel : decode c_X10_law 128 = .ok (.iinc 8 1, 3)) rfl rfl (by decide) (by decide), ?_⟩
  refine List.forall_mem_cons.mpr ⟨s_goto C (by decide +kernel : decode c_X10_law 131 = .ok (.goto (-78), 3)) (by decide) rfl, ?_⟩
  refine List.forall_mem_cons.mpr ⟨s_iload_n C (by decide +kernel : decode c_X10_law 134 = .ok (.iload_n 2, 1)) rfl rfl rfl, ?_⟩
  refine List.forall_mem_cons.mpr ⟨s_iload C (by decide +kernel : decode c_X10_law 135 = .ok (.iload 7, 2)) rfl rfl, ?_⟩
  refine List.forall_mem_cons.mpr ⟨s_ifeq C (by decide +kernel : decode c_X10_law 137 = .ok (.ifCond .eq 7, 3)) (by decide) rfl rfl rfl, ?_⟩
  refine List.forall_mem_cons.mpr ⟨s_iconst C (by decide +kernel : decode c_X10_law 140 = .ok (.iconst 1, 1)) rfl rfl (by decide), ?_⟩
  refine List.forall_mem_cons.mpr ⟨s_goto C (by decide +kernel : decode c_X10_law 141 = .ok (.goto 4, 3)) (by decide) rfl, ?_⟩
  refine List.forall_mem_cons.mpr ⟨s_iconst C (by decide +kernel : decode c_X10_law 144 = .ok (.iconst 0, 1)) rfl rfl (by decide), ?_⟩
  refine List.forall_mem_cons.mpr ⟨s_iadd C (by decide +kernel : decode c_X10_law 145 = .ok (.iadd, 1)) rfl rfl, ?_⟩
  refine List.forall_mem_cons.mpr ⟨s_istore_n C (by decide +kernel : decode c_X10_law 146 = .ok (.istore_n 2, 1)) rfl rfl rfl (by decide), ?_⟩
  refine List.forall_mem_cons.mpr ⟨s_iload C (by decide +kernel : decode c_X10_law 147 = .ok (.iload 7, 2)) rfl rfl, ?_⟩
  refine List.forall_mem_cons.mpr ⟨s_ifeq C (by decide +kernel : decode c_X10_law 149 = .ok (.ifCond .eq 24, 3)) (by decide) rfl rfl rfl, ?_⟩
  refine List.forall_mem_cons.mpr ⟨s_iload C (by decide +kernel : decode c_X10_law 152 = .ok (.iload 6, 2)) rfl rfl, ?_⟩
  refine List.forall_mem_cons.mpr ⟨s_iload C (by decide +kernel : decode c_X10_law 154 = .ok (.iload 5, 2)) rfl rfl, ?_⟩
  refine List.forall_mem_cons.mpr ⟨s_isub C (by decide +kernel : decode c_X10_law 156 = .ok (.isub, 1)) rfl rfl, ?_⟩
  refine List.forall_mem_cons.mpr ⟨s_iload C (by decide +kernel : decode c_X10_law 157 = .ok (.iload 4, 2)) rfl rfl, ?_⟩
  refine List.forall_mem_cons.mpr ⟨s_icmpge C (by decide +kernel : decode c_X10_law 159 = .ok (.if_icmp .ge 14, 3)) (by decide) rfl rfl rfl, ?_⟩
  refine List.forall_mem_cons.mpr ⟨s_bipush C (by decide +kernel : decode c_X10_law 162 = .ok (.bipush 100, 2)) rfl rfl (by decide), ?_⟩
  refine List.forall_mem_cons.mpr ⟨s_iload C (by decide +kernel : decode c_X10_law 164 = .ok (.iload 5, 2)) rfl rfl, ?_⟩
  refine List.forall_mem_cons.mpr ⟨s_imul C (by decide +kernel : decode c_X10_law 166 = .ok (.imul, 1)) rfl rfl, ?_⟩
  refine List.forall_mem_cons.mpr ⟨s_iload C (by decide +kernel : decode c_X10_law 167 = .ok (.iload 6, 2)) rfl rfl, ?_⟩
  refine List.forall_mem_cons.mpr ⟨s_iadd C (by decide +kernel : decode c_X10_law 169 = .ok (.iadd, 1)) rfl rfl, ?_⟩
  refine List.forall_mem_cons.mpr ⟨s_goto C (by decide +kernel : decode c_X10_law 170 = .ok (.goto 4, 3)) (by decide) rfl, ?_⟩
  refine List.forall_mem_cons.mpr ⟨s_iload_n C (by decide +kernel : decode c_X10_law 173 = .ok (.iload_n 3, 1)) rfl rfl rfl, ?_⟩
  refine List.forall_mem_cons.mpr ⟨s_istore_n C (by decide +kernel : decode c_X10_law 174 = .ok (.istore_n 3, 1)) rfl rfl rfl (by decide), ?_⟩
  refine List.forall_mem_cons.mpr ⟨s_iload C (by decide +kernel : decode c_X10_law 175 = .ok (.iload 7, 2)) rfl rfl, ?_⟩
  refine List.forall_mem_cons.mpr ⟨s_ifeq C (by decide +kernel : decode c_X10_law 177 = .ok (.ifCond .eq 21, 3)) (by decide) rfl rfl rfl, ?_⟩
  refine List.forall_mem_cons.mpr ⟨s_iload C (by decide +kernel : decode c_X10_law 180 = .ok (.iload 6, 2)) rfl rfl, ?_⟩
  refine List.forall_mem_cons.mpr ⟨s_iload C (by decide +kernel : decode c_X10_law 182 = .ok (.iload 5, 2)) rfl rfl, ?_⟩
  refine List.forall_mem_cons.mpr ⟨s_isub C (by decide +kernel : decode c_X10_law 184 = .ok (.isub, 1)) rfl rfl, ?_⟩
  refine List.forall_mem_cons.mpr ⟨s_iload C (by decide +kernel : decode c_X10_law 185 = .ok (.iload 4, 2)) rfl rfl, ?_⟩
  refine List.forall_mem_cons.mpr ⟨s_icmpge C (by decide +kernel : decode c_X10_law 187 = .ok (.if_icmp .ge 11, 3)) (by decide) rfl rfl rfl, ?_⟩
  refine List.forall_mem_cons.mpr ⟨s_iload C (by decide +kernel : decode c_X10_law 190 = .ok (.iload 6, 2)) rfl rfl, ?_⟩
  refine List.forall_mem_cons.mpr ⟨s_iload C (by decide +kernel : decode c_X10_law 192 = .ok (.iload 5, 2)) rfl rfl, ?_⟩
  refine List.forall_mem_cons.mpr ⟨s_isub C (by decide +kernel : decode c_X10_law 194 = .ok (.isub, 1)) rfl rfl, ?_⟩
  refine List.forall_mem_cons.mpr ⟨s_goto C (by decide +kernel : decode c_X10_law 195 = .ok (.goto 5, 3)) (by decide) rfl, ?_⟩
  refine List.forall_mem_cons.mpr ⟨s_iload C (by decide +kernel : decode c_X10_law 198 = .ok (.iload 4, 2)) rfl rfl, ?_⟩
  refine List.forall_mem_cons.mpr ⟨s_istore C (by decide +kernel : decode c_X10_law 200 = .ok (.istore 4, 2)) rfl rfl (by decide), ?_⟩
  refine List.forall_mem_cons.mpr ⟨s_iinc C (by decide +kernel : decode c_X10_law 202 = .ok (.iinc 6 1, 3)) rfl rfl (by decide) (by decide), ?_⟩
  refine List.forall_mem_cons.mpr ⟨s_goto C (by decide +kernel : decode c_X10_law 205 = .ok (.goto (-165), 3)) (by decide) rfl, ?_⟩
  refine List.forall_mem_cons.mpr ⟨s_iinc C (by decide +kernel : decode c_X10_law 208 = .ok (.iinc 5 1, 3)) rfl rfl (by decide) (by decide), ?_⟩
  refine List.forall_mem_cons.mpr ⟨s_goto C (by decide +kernel : decode c_X10_law 211 = .ok (.goto (-182), 3)) (by decide) rfl, ?_⟩
  refine List.forall_mem_cons.mpr ⟨s_iload_n C (by decide +kernel : decode c_X10_law 214 = .ok (.iload_n 1, 1)) rfl rfl rfl, ?_⟩
  refine List.forall_mem_cons.mpr ⟨s_ifne C (by decide +kernel : decode c_X10_law 215 = .ok (.ifCond .ne 7, 3)) (by decide) rfl rfl rfl, ?_⟩
  refine List.forall_mem_cons.mpr ⟨s_iload_n C (by decide +kernel : decode c_X10_law 218 = .ok (.iload_n 2, 1)) rfl rfl rfl, ?_⟩
  refine List.forall_mem_cons.mpr ⟨s_goto C (by decide +kernel : decode c_X10_law 219 = .ok (.goto 4, 3)) (by decide) rfl, ?_⟩
  refine List.forall_mem_cons.mpr ⟨s_iload_n C (by decide +kernel : decode c_X10_law 222 = .ok (.iload_n 3, 1)) rfl rfl rfl, ?_⟩
  refine List.forall_mem_cons.mpr ⟨s_iret C (by decide +kernel : decode c_X10_law 223 = .ok (.ireturn, 1)) hret hlk ⟨Nat.le_refl 0, Nat.le_refl 0⟩, ?_⟩
  exact fun _ h => absurd h List.not_mem_nil
