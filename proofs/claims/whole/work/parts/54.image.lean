/-! ===== WedApart.image, WedApart.from ===== -/
/-- a town at the numbers from b on -/
def twn (b : Nat) (pe : Int32) (ki : Nat → Int32) (mi se : Int64) (we lea mst pa : Int32) (fi sd : Nat → Int32) (ev un : Int32) (ma : Nat → Int64) (ea : Nat → Int32) (co : Int32) (ca clt : Nat → Int32) (Y : em_H) : em_H := .inr (2, [.int pe, .ref (b + 1), .long mi, .long se, .int we, .int lea, .int mst, .int pa, .ref (b + 2), .ref (b + 3), .int ev, .int un, .ref (b + 4), .ref (b + 5), .int co, .ref (b + 6), .ref (b + 7)]) :: .inl (0, 6, .inl ki) :: .inl (0, 8, .inl fi) :: .inl (0, 8, .inl sd) :: .inl (1, 12, .inr (.inl ma)) :: .inl (0, 12, .inl ea) :: .inl (0, 10, .inl ca) :: .inl (3, 10, .inl clt) :: Y
theorem em_oks_le {n m : Nat} (h : n ≤ m) : ∀ {l : List Value}, em_oks n l = true → em_oks m l = true
  | [], _ => rfl
  | v :: r, hl => by
    have hl := Bool.and_eq_true_iff.mp hl
    refine Bool.and_eq_true_iff.mpr ⟨?_, em_oks_le h hl.2⟩
    cases v with
    | ref a => exact Nat.ble_eq_true_of_le (Nat.le_trans (Nat.le_of_ble_eq_true hl.1) h)
    | _ => rfl
theorem em_okE_le {n m : Nat} (h : n ≤ m) {x : va_E} (hx : em_okE n x) : em_okE m x := by
  match x, hx with
  | .inr (c, fs), hx => exact em_oks_le h hx
  | .inl (t, k, .inl f), _ => exact trivial
  | .inl (t, k, .inr (.inl f)), _ => exact trivial
  | .inl (t, k, .inr (.inr (.inl f))), _ => exact trivial
  | .inl (t, k, .inr (.inr (.inr (.inl f)))), _ => exact trivial
  | .inl (t, k, .inr (.inr (.inr (.inr f)))), hx => exact fun i q hq => Nat.lt_of_lt_of_le (hx i q hq) h
theorem em_okH_le {n m : Nat} (h : n ≤ m) : ∀ {hp : em_H}, em_okH n hp → em_okH m hp
  | [], _ => trivial
  | x :: r, hx => ⟨em_okE_le h hx.1, em_okH_le h hx.2⟩
def sp_X9_image : em_Sp := fun av hp Q => ∃ by9 tln tst ten mm fa9 fb9 rf im pe ki mi se we lea mst pa fi sd ev un ma ea co ca clt s0 s1 s2 s3 s4 s5 s6 s7 m0 m1 m2 m3 m4 m5 m6 m7 m8 m9 m10 m11 m12 m13 m14 G k, av = [.ref 0, .int k] ∧ hp = (wX by9 tln tst ten mm fa9 fb9 (rf) (im) pe ki mi se we lea mst pa fi sd ev un ma ea co ca clt (s0 :: s1 :: s2 :: s3 :: s4 :: s5 :: s6 :: s7 :: m0 :: m1 :: m2 :: m3 :: m4 :: m5 :: m6 :: m7 :: m8 :: m9 :: m10 :: m11 :: m12 :: m13 :: m14 :: G)) ∧ (∀ j, j < 10 → clt j = 0 ∨ clt j = 1) ∧ ((¬ k = 0 ∧ ¬ k = 1 ∧ Q (some (.int (-2))) (wX by9 tln tst ten mm fa9 fb9 (rfu rf (-2)) (im) pe ki mi se we lea mst pa fi sd ev un ma ea co ca clt (s0 :: s1 :: s2 :: s3 :: s4 :: s5 :: s6 :: s7 :: m0 :: m1 :: m2 :: m3 :: m4 :: m5 :: m6 :: m7 :: m8 :: m9 :: m10 :: m11 :: m12 :: m13 :: m14 :: G))) ∨ (∃ i, k = nI i ∧ i < 2 ∧ im i = none ∧ G = [] ∧ em_okH 39 (s0 :: s1 :: s2 :: s3 :: s4 :: s5 :: s6 :: s7 :: m0 :: m1 :: m2 :: m3 :: m4 :: m5 :: m6 :: m7 :: m8 :: m9 :: m10 :: m11 :: m12 :: m13 :: m14 :: []) ∧ (∀ j q, im j = some q → q < 39) ∧ Q (some (.int 1)) (wX by9 tln tst ten mm fa9 fb9 (rf) (va_up im i (some 39)) pe ki mi se we lea mst pa fi sd ev un ma ea co ca clt (s0 :: s1 :: s2 :: s3 :: s4 :: s5 :: s6 :: s7 :: m0 :: m1 :: m2 :: m3 :: m4 :: m5 :: m6 :: m7 :: m8 :: m9 :: m10 :: m11 :: m12 :: m13 :: m14 :: twn 39 pe (va_cpy ki z0 0 0 6) mi se we lea mst pa (va_cpy fi z0 0 0 8) (va_cpy sd z0 0 0 8) ev un (va_cpy ma zL 0 0 12) (va_cpy ea z0 0 0 12) co (va_cpy ca z0 0 0 10) (va_cpy clt z0 0 0 10) []))) ∨ (∃ i c0 c1 c2 c3 c4 c5 c6 c7, k = nI i ∧ i < 2 ∧ im i = none ∧ G = c0 :: c1 :: c2 :: c3 :: c4 :: c5 :: c6 :: c7 :: [] ∧ em_okH 47 (s0 :: s1 :: s2 :: s3 :: s4 :: s5 :: s6 :: s7 :: m0 :: m1 :: m2 :: m3 :: m4 :: m5 :: m6 :: m7 :: m8 :: m9 :: m10 :: m11 :: m12 :: m13 :: m14 :: c0 :: c1 :: c2 :: c3 :: c4 :: c5 :: c6 :: c7 :: []) ∧ (∀ j q, im j = some q → q < 47) ∧ Q (some (.int 1)) (wX by9 tln tst ten mm fa9 fb9 (rf) (va_up im i (some 47)) pe ki mi se we lea mst pa fi sd ev un ma ea co ca clt (s0 :: s1 :: s2 :: s3 :: s4 :: s5 :: s6 :: s7 :: m0 :: m1 :: m2 :: m3 :: m4 :: m5 :: m6 :: m7 :: m8 :: m9 :: m10 :: m11 :: m12 :: m13 :: m14 :: c0 :: c1 :: c2 :: c3 :: c4 :: c5 :: c6 :: c7 :: twn 47 pe (va_cpy ki z0 0 0 6) mi se we lea mst pa (va_cpy fi z0 0 0 8) (va_cpy sd z0 0 0 8) ev un (va_cpy ma zL 0 0 12) (va_cpy ea z0 0 0 12) co (va_cpy ca z0 0 0 10) (va_cpy clt z0 0 0 10) []))) ∨ (∃ i pe0 ki0 mi0 se0 we0 lea0 mst0 pa0 fi0 sd0 ev0 un0 ma0 ea0 co0 ca0 clt0 R, k = nI i ∧ i < 2 ∧ im i = some 39 ∧ G = twn 39 pe0 ki0 mi0 se0 we0 lea0 mst0 pa0 fi0 sd0 ev0 un0 ma0 ea0 co0 ca0 clt0 R ∧ Q (some (.int 1)) (wX by9 tln tst ten mm fa9 fb9 (rf) (im) pe ki mi se we lea mst pa fi sd ev un ma ea co ca clt (s0 :: s1 :: s2 :: s3 :: s4 :: s5 :: s6 :: s7 :: m0 :: m1 :: m2 :: m3 :: m4 :: m5 :: m6 :: m7 :: m8 :: m9 :: m10 :: m11 :: m12 :: m13 :: m14 :: twn 39 pe (va_cpy ki ki0 0 0 6) mi se we lea mst pa (va_cpy fi fi0 0 0 8) (va_cpy sd sd0 0 0 8) ev un (va_cpy ma ma0 0 0 12) (va_cpy ea ea0 0 0 12) co (va_cpy ca ca0 0 0 10) (va_cpy clt clt0 0 0 10) R))) ∨ (∃ i c0 c1 c2 c3 c4 c5 c6 c7 pe0 ki0 mi0 se0 we0 lea0 mst0 pa0 fi0 sd0 ev0 un0 ma0 ea0 co0 ca0 clt0 R, k = nI i ∧ i < 2 ∧ im i = some 47 ∧ G = c0 :: c1 :: c2 :: c3 :: c4 :: c5 :: c6 :: c7 :: twn 47 pe0 ki0 mi0 se0 we0 lea0 mst0 pa0 fi0 sd0 ev0 un0 ma0 ea0 co0 ca0 clt0 R ∧ Q (some (.int 1)) (wX by9 tln tst ten mm fa9 fb9 (rf) (im) pe ki mi se we lea mst pa fi sd ev un ma ea co ca clt (s0 :: s1 :: s2 :: s3 :: s4 :: s5 :: s6 :: s7 :: m0 :: m1 :: m2 :: m3 :: m4 :: m5 :: m6 :: m7 :: m8 :: m9 :: m10 :: m11 :: m12 :: m13 :: m14 :: c0 :: c1 :: c2 :: c3 :: c4 :: c5 :: c6 :: c7 :: twn 47 pe (va_cpy ki ki0 0 0 6) mi se we lea mst pa (va_cpy fi fi0 0 0 8) (va_cpy sd sd0 0 0 8) ev un (va_cpy ma ma0 0 0 12) (va_cpy ea ea0 0 0 12) co (va_cpy ca ca0 0 0 10) (va_cpy clt clt0 0 0 10) R))))
def T_X9_image : List (Nat × em_Op) := [(0, o_iload 1 1), (1, o_iflt 9 4), (4, o_iload 1 5), (5, o_iconst 2 6), (6, o_icmplt 16 9), (9, o_aload 0 10), (10, o_iconst (-2) 12), (12, o_call 2 (some 4) (sp_X9_refuse) 15), (15, o_iret), (16, o_aload 0 17), (17, o_getf 4 4 20), (20, o_iload 1 21), (21, o_aaload 22), (22, o_astoreN 2 23), (23, o_aloadX 2 24), (24, o_ifnonnull 42 27), (27, o_new 39 2 [.int 0, .null, .long 0, .long 0, .int 0, .int 0, .int 0, .int 0, .null, .null, .int 0, .int 0, .null, .null, .int 0, .null, .null] 30), (30, o_dup 31), (31, o_callI 39 sp_X7_init 34), (34, o_astore 2 35), (35, o_aload 0 36), (36, o_getf 4 4 39), (39, o_iload 1 40), (40, o_aload 2 41), (41, o_aastore 2 42), (42, o_aload 2 43), (43, o_aload 0 44), (44, o_getf 4 5 47), (47, o_callPD 2 (some 2) (sp_X7_becomeLike) 50), (50, o_iconst 1 51), (51, o_iret)]
set_option maxRecDepth 100000 in
theorem me_X9_image : em_Me T_X9_image 3 sp_X9_image := by
  intro Q K hK hle av hp hs
  obtain ⟨by9, tln, tst, ten, mm, fa9, fb9, rf, im, pe, ki, mi, se, we, lea, mst, pa, fi, sd, ev, un, ma, ea, co, ca, clt, s0, s1, s2, s3, s4, s5, s6, s7, m0, m1, m2, m3, m4, m5, m6, m7, m8, m9, m10, m11, m12, m13, m14, G, k, rfl, rfl, hz, hc⟩ := hs
  refine ⟨Nat.le_of_ble_eq_true rfl, ?_⟩
  rcases hc with ⟨k0, k1, hq⟩ | ⟨i, rfl, hi, him, rfl, hok, him9, hq⟩ | ⟨i, c0, c1, c2, c3, c4, c5, c6, c7, rfl, hi, him, rfl, hok, him9, hq⟩ | ⟨i, pe0, ki0, mi0, se0, we0, lea0, mst0, pa0, fi0, sd0, ev0, un0, ma0, ea0, co0, ca0, clt0, R, rfl, hi, him, rfl, hq⟩ | ⟨i, c0, c1, c2, c3, c4, c5, c6, c7, pe0, ki0, mi0, se0, we0, lea0, mst0, pa0, fi0, sd0, ev0, un0, ma0, ea0, co0, ca0, clt0, R, rfl, hi, him, rfl, hq⟩
  · have bad : K 9 [some (.ref 0), some (.int k), none] [] (wX by9 tln tst ten mm fa9 fb9 (rf) (im) pe ki mi se we lea mst pa fi sd ev un ma ea co ca clt (s0 :: s1 :: s2 :: s3 :: s4 :: s5 :: s6 :: s7 :: m0 :: m1 :: m2 :: m3 :: m4 :: m5 :: m6 :: m7 :: m8 :: m9 :: m10 :: m11 :: m12 :: m13 :: m14 :: G)) := hK 5 4 9 _ _ _ ⟨_, _, _, _, _, _, _, _, _, _, _, _, _, _, _, _, _, _, _, _, _, _, _, _, _, _, _, _, rfl, rfl, hq⟩
    refine hK 0 5 0 _ _ _ ⟨fun _ => bad, fun z => ⟨fun y => ?_, fun _ => bad⟩⟩
    exfalso
    obtain ⟨j, hj, e⟩ := nI_of z
    subst e
    have y := (nI_ltI (a := j) (b := 2) (by omega) (by omega)).mp y
    have : j = 0 ∨ j = 1 := by omega
    rcases this with rfl | rfl
    · exact k0 rfl
    · exact k1 rfl
  · have hok1 := em_okH_le (Nat.le_succ _) hok
    have him1 : ∀ j q, im j = some q → q < 40 := fun j q h => Nat.lt_succ_of_lt (him9 j q h)
    have m42 : K 42 [some (.ref 0), some (.int (nI i)), some (.ref 39)] [] (wX by9 tln tst ten mm fa9 fb9 (rf) (va_up im i (some 39)) pe ki mi se we lea mst pa fi sd ev un ma ea co ca clt (s0 :: s1 :: s2 :: s3 :: s4 :: s5 :: s6 :: s7 :: m0 :: m1 :: m2 :: m3 :: m4 :: m5 :: m6 :: m7 :: m8 :: m9 :: m10 :: m11 :: m12 :: m13 :: m14 :: twn 39 0 z0 0 0 0 2 4 0 z0 z0 0 0 zL z0 0 z0 z0 [])) := hK 25 9999 42 _ _ _ ⟨by decide, _, _, _, _, _, _, _, _, _, _, _, _, _, _, _, _, _, _, _, _, _, _, _, _, _, _, _, _, _, _, _, _, _, _, rfl, rfl, hz, hq⟩
    have m27 : K 27 [some (.ref 0), some (.int (nI i)), some .null] [] (wX by9 tln tst ten mm fa9 fb9 (rf) (im) pe ki mi se we lea mst pa fi sd ev un ma ea co ca clt (s0 :: s1 :: s2 :: s3 :: s4 :: s5 :: s6 :: s7 :: m0 :: m1 :: m2 :: m3 :: m4 :: m5 :: m6 :: m7 :: m8 :: m9 :: m10 :: m11 :: m12 :: m13 :: m14 :: [])) := by
      refine hK 16 9 27 _ _ _ ?_
      refine ⟨39, rfl, by decide, rfl, (by repeat (first | exact hok | refine ⟨rfl, ?_⟩ | refine ⟨trivial, ?_⟩ | refine ⟨him9, ?_⟩)), ?_⟩
      refine ⟨rfl, by decide, rfl, (by repeat (first | exact hok1 | refine ⟨rfl, ?_⟩ | refine ⟨trivial, ?_⟩ | refine ⟨him1, ?_⟩)), rfl, rfl, rfl, rfl, ?_⟩
      exact ⟨i, rfl, hi, m42⟩
    refine hK 0 5 0 _ _ _ ⟨fun z => absurd z (nI_pos (by omega)), fun _ => ⟨fun _ => ?_, fun z => absurd (nI_lt (a := i) (b := 2) hi (by omega)) z⟩⟩
    exact hK 9 7 16 _ _ _ ⟨i, rfl, hi, fun _ => m27, fun q hq9 => by rw [him] at hq9; cases hq9⟩
  · have hok1 := em_okH_le (Nat.le_succ _) hok
    have him1 : ∀ j q, im j = some q → q < 48 := fun j q h => Nat.lt_succ_of_lt (him9 j q h)
    have m42 : K 42 [some (.ref 0), some (.int (nI i)), some (.ref 47)] [] (wX by9 tln tst ten mm fa9 fb9 (rf) (va_up im i (some 47)) pe ki mi se we lea mst pa fi sd ev un ma ea co ca clt (s0 :: s1 :: s2 :: s3 :: s4 :: s5 :: s6 :: s7 :: m0 :: m1 :: m2 :: m3 :: m4 :: m5 :: m6 :: m7 :: m8 :: m9 :: m10 :: m11 :: m12 :: m13 :: m14 :: c0 :: c1 :: c2 :: c3 :: c4 :: c5 :: c6 :: c7 :: twn 47 0 z0 0 0 0 2 4 0 z0 z0 0 0 zL z0 0 z0 z0 [])) := hK 25 9999 42 _ _ _ ⟨by decide, _, _, _, _, _, _, _, _, _, _, _, _, _, _, _, _, _, _, _, _, _, _, _, _, _, _, _, _, _, _, _, _, _, _, rfl, rfl, hz, hq⟩
    have m27 : K 27 [some (.ref 0), some (.int (nI i)), some .null] [] (wX by9 tln tst ten mm fa9 fb9 (rf) (im) pe ki mi se we lea mst pa fi sd ev un ma ea co ca clt (s0 :: s1 :: s2 :: s3 :: s4 :: s5 :: s6 :: s7 :: m0 :: m1 :: m2 :: m3 :: m4 :: m5 :: m6 :: m7 :: m8 :: m9 :: m10 :: m11 :: m12 :: m13 :: m14 :: c0 :: c1 :: c2 :: c3 :: c4 :: c5 :: c6 :: c7 :: [])) := by
      refine hK 16 9 27 _ _ _ ?_
      refine ⟨47, rfl, by decide, rfl, (by repeat (first | exact hok | refine ⟨rfl, ?_⟩ | refine ⟨trivial, ?_⟩ | refine ⟨him9, ?_⟩)), ?_⟩
      refine ⟨rfl, by decide, rfl, (by repeat (first | exact hok1 | refine ⟨rfl, ?_⟩ | refine ⟨trivial, ?_⟩ | refine ⟨him1, ?_⟩)), rfl, rfl, rfl, rfl, ?_⟩
      exact ⟨i, rfl, hi, m42⟩
    refine hK 0 5 0 _ _ _ ⟨fun z => absurd z (nI_pos (by omega)), fun _ => ⟨fun _ => ?_, fun z => absurd (nI_lt (a := i) (b := 2) hi (by omega)) z⟩⟩
    exact hK 9 7 16 _ _ _ ⟨i, rfl, hi, fun _ => m27, fun q hq9 => by rw [him] at hq9; cases hq9⟩
  · have m42 : K 42 [some (.ref 0), some (.int (nI i)), some (.ref 39)] [] (wX by9 tln tst ten mm fa9 fb9 (rf) (im) pe ki mi se we lea mst pa fi sd ev un ma ea co ca clt (s0 :: s1 :: s2 :: s3 :: s4 :: s5 :: s6 :: s7 :: m0 :: m1 :: m2 :: m3 :: m4 :: m5 :: m6 :: m7 :: m8 :: m9 :: m10 :: m11 :: m12 :: m13 :: m14 :: twn 39 pe0 ki0 mi0 se0 we0 lea0 mst0 pa0 fi0 sd0 ev0 un0 ma0 ea0 co0 ca0 clt0 R)) := hK 25 9999 42 _ _ _ ⟨by decide, _, _, _, _, _, _, _, _, _, _, _, _, _, _, _, _, _, _, _, _, _, _, _, _, _, _, _, _, _, _, _, _, _, _, rfl, rfl, hz, hq⟩
    refine hK 0 5 0 _ _ _ ⟨fun z => absurd z (nI_pos (by omega)), fun _ => ⟨fun _ => ?_, fun z => absurd (nI_lt (a := i) (b := 2) hi (by omega)) z⟩⟩
    refine hK 9 7 16 _ _ _ ⟨i, rfl, hi, fun q => absurd (him.symm.trans q) (fun z => nomatch z), fun q hq9 => ?_⟩
    rw [him] at hq9
    have hq9 := Option.some.inj hq9
    subst hq9
    exact m42
  · have m42 : K 42 [some (.ref 0), some (.int (nI i)), some (.ref 47)] [] (wX by9 tln tst ten mm fa9 fb9 (rf) (im) pe ki mi se we lea mst pa fi sd ev un ma ea co ca clt (s0 :: s1 :: s2 :: s3 :: s4 :: s5 :: s6 :: s7 :: m0 :: m1 :: m2 :: m3 :: m4 :: m5 :: m6 :: m7 :: m8 :: m9 :: m10 :: m11 :: m12 :: m13 :: m14 :: c0 :: c1 :: c2 :: c3 :: c4 :: c5 :: c6 :: c7 :: twn 47 pe0 ki0 mi0 se0 we0 lea0 mst0 pa0 fi0 sd0 ev0 un0 ma0 ea0 co0 ca0 clt0 R)) := hK 25 9999 42 _ _ _ ⟨by decide, _, _, _, _, _, _, _, _, _, _, _, _, _, _, _, _, _, _, _, _, _, _, _, _, _, _, _, _, _, _, _, _, _, _, rfl, rfl, hz, hq⟩
    refine hK 0 5 0 _ _ _ ⟨fun z => absurd z (nI_pos (by omega)), fun _ => ⟨fun _ => ?_, fun z => absurd (nI_lt (a := i) (b := 2) hi (by omega)) z⟩⟩
    refine hK 9 7 16 _ _ _ ⟨i, rfl, hi, fun q => absurd (him.symm.trans q) (fun z => nomatch z), fun q hq9 => ?_⟩
    rw [him] at hq9
    have hq9 := Option.some.inj hq9
    subst hq9
    exact m42
abbrev rm_X9_image : Room := { frames := 2, cells := 8, slots := 83, locals := 81 }
set_option maxRecDepth 100000 in
set_option maxHeartbeats 4000000 in
theorem ct_X9_image (l : Launch) (D : va_G) (dA : Nat → ClassId) (σ : Nat → Nat) : em_CA l D em_cl dA σ (em_F σ) 39 y_X9_image c_X9_image 3 (Option.some ClassFile.FieldType.int) rm_X9_image sp_X9_image 8 83 := by
  refine em_CA_of (T := T_X9_image) (cnt := em_cn [(30, 1, 17), (34, 8, 83)] (0, 0)) rfl (em_F_ok σ) (by decide) (fun p e s m args below meth c A ρ Q C hFok hF hret hlk hin => ?_) me_X9_image
  have hPr : ∀ ρ1 ρ2 : Nat → Nat, (∀ k, k < 39 → ρ1 k = ρ k) → (∀ k, k < 39 → ρ2 k = ρ1 k) → ∀ k, k < 39 → ρ2 k = ρ k := fun ρ1 ρ2 h1 h2 k hk => (h2 k hk).trans (h1 k hk)
  unfold T_X9_image
  refine List.forall_mem_cons.mpr ⟨s_iload_n C (by decide +kernel : decode c_X9_image 0 = .ok (.iload_n 1, 1)) rfl rfl rfl, ?_⟩
  refine List.forall_mem_cons.mpr ⟨s_iflt C (by decide +kernel : decode c_X9_image 1 = .ok (.ifCond .lt 8, 3)) (by decide) rfl rfl rfl, ?_⟩
  refine List.forall_mem_cons.mpr ⟨s_iload_n C (by decide +kernel : decode c_X9_image 4 = .ok (.iload_n 1, 1)) rfl rfl rfl, ?_⟩
  refine List.forall_mem_cons.mpr ⟨s_iconst C (by decide +kernel : decode c_X9_image 5 = .ok (.iconst 2, 1)) rfl rfl (by decide), ?_⟩
  refine List.forall_mem_cons.mpr ⟨s_icmplt C (by decide +kernel : decode c_X9_image 6 = .ok (.if_icmp .lt 10, 3)) (by decide) rfl rfl rfl, ?_⟩
  refine List.forall_mem_cons.mpr ⟨s_aload_n C (by decide +kernel : decode c_X9_image 9 = .ok (.aload_n 0, 1)) rfl rfl rfl, ?_⟩
  refine List.forall_mem_cons.mpr ⟨s_bipush C (by decide +kernel : decode c_X9_image 10 = .ok (.bipush (-2), 2)) rfl rfl (by decide), ?_⟩
  refine List.forall_mem_cons.mpr ⟨s_callV C hFok hF (ct_X9_refuse l D dA σ) ⟨rfl, rfl⟩ ew200 em_cl_X9 ew197 ew199 ewp1 ew1 ⟨by decide, by decide, by decide +kernel⟩ ⟨by decide, by decide⟩ (by decide +kernel : decode c_X9_image 12 = .ok (.invokevirtual 63, 3)) rfl rfl ⟨by decide, by decide⟩, ?_⟩
  refine List.forall_mem_cons.mpr ⟨s_iret C (by decide +kernel : decode c_X9_image 15 = .ok (.ireturn, 1)) hret hlk ⟨by decide, by decide⟩, ?_⟩
  refine List.forall_mem_cons.mpr ⟨s_aload_n C (by decide +kernel : decode c_X9_image 16 = .ok (.aload_n 0, 1)) rfl rfl rfl, ?_⟩
  refine List.forall_mem_cons.mpr ⟨s_getf C (by decide +kernel : decode c_X9_image 17 = .ok (.getfield 36, 3)) rfl rfl em_cl_X9 (by decide) ew156 rfl, ?_⟩
  refine List.forall_mem_cons.mpr ⟨s_iload_n C (by decide +kernel : decode c_X9_image 20 = .ok (.iload_n 1, 1)) rfl rfl rfl, ?_⟩
  refine List.forall_mem_cons.mpr ⟨s_aaload C (by decide +kernel : decode c_X9_image 21 = .ok (.aaload, 1)) rfl rfl, ?_⟩
  refine List.forall_mem_cons.mpr ⟨s_astoreN_n C (by decide +kernel : decode c_X9_image 22 = .ok (.astore_n 2, 1)) rfl rfl rfl (by decide), ?_⟩
  refine List.forall_mem_cons.mpr ⟨s_aloadX_n C (by decide +kernel : decode c_X9_image 23 = .ok (.aload_n 2, 1)) rfl rfl rfl, ?_⟩
  refine List.forall_mem_cons.mpr ⟨s_ifnonnullW C (by decide +kernel : decode c_X9_image 24 = .ok (.ifnonnull 18, 3)) (by decide) rfl rfl ⟨by decide, by decide⟩, ?_⟩
  refine List.forall_mem_cons.mpr ⟨s_new C hPr em_cl_X7 ew74 ew76 ew5 (by decide +kernel) rfl (by decide +kernel : decode c_X9_image 27 = .ok (.new 34, 3)) rfl rfl ⟨by decide, by decide⟩, ?_⟩
  refine List.forall_mem_cons.mpr ⟨s_dup C (by decide +kernel : decode c_X9_image 30 = .ok (.dup, 1)) rfl rfl, ?_⟩
  refine List.forall_mem_cons.mpr ⟨s_callI C hPr hFok hF (ct_X7_init l D dA σ) ⟨rfl, rfl⟩ ew79 ew77 ew78 ew5 rfl ⟨by decide, by decide, by decide +kernel⟩ ⟨by decide, by decide⟩ (by decide +kernel : decode c_X9_image 31 = .ok (.invokespecial 40, 3)) rfl rfl ⟨by decide, by decide⟩, ?_⟩
  refine List.forall_mem_cons.mpr ⟨s_astore_n C (by decide +kernel : decode c_X9_image 34 = .ok (.astore_n 2, 1)) rfl rfl rfl (by decide), ?_⟩
  refine List.forall_mem_cons.mpr ⟨s_aload_n C (by decide +kernel : decode c_X9_image 35 = .ok (.aload_n 0, 1)) rfl rfl rfl, ?_⟩
  refine List.forall_mem_cons.mpr ⟨s_getf C (by decide +kernel : decode c_X9_image 36 = .ok (.getfield 36, 3)) rfl rfl em_cl_X9 (by decide) ew156 rfl, ?_⟩
  refine List.forall_mem_cons.mpr ⟨s_iload_n C (by decide +kernel : decode c_X9_image 39 = .ok (.iload_n 1, 1)) rfl rfl rfl, ?_⟩
  refine List.forall_mem_cons.mpr ⟨s_aload_n C (by decide +kernel : decode c_X9_image 40 = .ok (.aload_n 2, 1)) rfl rfl rfl, ?_⟩
  refine List.forall_mem_cons.mpr ⟨s_aastore C (by decide +kernel : decode c_X9_image 41 = .ok (.aastore, 1)) rfl rfl em_cl_X7, ?_⟩
  refine List.forall_mem_cons.mpr ⟨s_aload_n C (by decide +kernel : decode c_X9_image 42 = .ok (.aload_n 2, 1)) rfl rfl rfl, ?_⟩
  refine List.forall_mem_cons.mpr ⟨s_aload_n C (by decide +kernel : decode c_X9_image 43 = .ok (.aload_n 0, 1)) rfl rfl rfl, ?_⟩
  refine List.forall_mem_cons.mpr ⟨s_getf C (by decide +kernel : decode c_X9_image 44 = .ok (.getfield 41, 3)) rfl rfl em_cl_X9 (by decide) ew157 rfl, ?_⟩
  refine List.forall_mem_cons.mpr ⟨s_callPVD C hFok hF (ct_X7_becomeLike l D dA σ) ⟨rfl, rfl⟩ ew653 em_cl_X7 ew650 ew651 ew652 ew5 ⟨by decide, by decide, by decide +kernel⟩ ⟨by decide, by decide⟩ (by decide +kernel : decode c_X9_image 47 = .ok (.invokevirtual 255, 3)) rfl rfl ⟨by decide, by decide⟩, ?_⟩
  refine List.forall_mem_cons.mpr ⟨s_iconst C (by decide +kernel : decode c_X9_image 50 = .ok (.iconst 1, 1)) rfl rfl (by decide), ?_⟩
  refine List.forall_mem_cons.mpr ⟨s_iret C (by decide +kernel : decode c_X9_image 51 = .ok (.ireturn, 1)) hret hlk ⟨by decide, by decide⟩, ?_⟩
  exact fun _ h => absurd h List.not_mem_nil
def sp_X9_from : em_Sp := fun av hp Q => ∃ by9 tln tst ten mm fa9 fb9 rf im pe ki mi se we lea mst pa fi sd ev un ma ea co ca clt s0 s1 s2 s3 s4 s5 s6 s7 m0 m1 m2 m3 m4 m5 m6 m7 m8 m9 m10 m11 m12 m13 m14 G k, av = [.ref 0, .int k] ∧ hp = (wX by9 tln tst ten mm fa9 fb9 (rf) (im) pe ki mi se we lea mst pa fi sd ev un ma ea co ca clt (s0 :: s1 :: s2 :: s3 :: s4 :: s5 :: s6 :: s7 :: m0 :: m1 :: m2 :: m3 :: m4 :: m5 :: m6 :: m7 :: m8 :: m9 :: m10 :: m11 :: m12 :: m13 :: m14 :: G)) ∧ (∀ j, j < 10 → clt j = 0 ∨ clt j = 1) ∧ ((¬ k = 0 ∧ ¬ k = 1 ∧ Q (some (.int (-2))) (wX by9 tln tst ten mm fa9 fb9 (rfu rf (-2)) (im) pe ki mi se we lea mst pa fi sd ev un ma ea co ca clt (s0 :: s1 :: s2 :: s3 :: s4 :: s5 :: s6 :: s7 :: m0 :: m1 :: m2 :: m3 :: m4 :: m5 :: m6 :: m7 :: m8 :: m9 :: m10 :: m11 :: m12 :: m13 :: m14 :: G))) ∨ (∃ i, k = nI i ∧ i < 2 ∧ im i = none ∧ Q (some (.int (-3))) (wX by9 tln tst ten mm fa9 fb9 (rfu rf (-3)) (im) pe ki mi se we lea mst pa fi sd ev un ma ea co ca clt (s0 :: s1 :: s2 :: s3 :: s4 :: s5 :: s6 :: s7 :: m0 :: m1 :: m2 :: m3 :: m4 :: m5 :: m6 :: m7 :: m8 :: m9 :: m10 :: m11 :: m12 :: m13 :: m14 :: G))) ∨ (∃ i pe0 ki0 mi0 se0 we0 lea0 mst0 pa0 fi0 sd0 ev0 un0 ma0 ea0 co0 ca0 clt0 R, k = nI i ∧ i < 2 ∧ im i = some 39 ∧ G = twn 39 pe0 ki0 mi0 se0 we0 lea0 mst0 pa0 fi0 sd0 ev0 un0 ma0 ea0 co0 ca0 clt0 R ∧ (∀ j, j < 10 → clt0 j = 0 ∨ clt0 j = 1) ∧ Q (some (.int 1)) (wX by9 tln tst ten mm fa9 fb9 rf im (pe0) ((va_cpy ki0 ki 0 0 6)) (mi0) (se0) (we0) (lea0) (mst0) (pa0) ((va_cpy fi0 fi 0 0 8)) ((va_cpy sd0 sd 0 0 8)) (ev0) (un0) ((va_cpy ma0 ma 0 0 12)) ((va_cpy ea0 ea 0 0 12)) (co0) ((va_cpy ca0 ca 0 0 10)) ((va_cpy clt0 clt 0 0 10)) (s0 :: s1 :: s2 :: s3 :: s4 :: s5 :: s6 :: s7 :: m0 :: m1 :: m2 :: m3 :: m4 :: m5 :: m6 :: m7 :: m8 :: m9 :: m10 :: m11 :: m12 :: m13 :: m14 :: twn 39 pe0 ki0 mi0 se0 we0 lea0 mst0 pa0 fi0 sd0 ev0 un0 ma0 ea0 co0 ca0 clt0 R))) ∨ (∃ i c0 c1 c2 c3 c4 c5 c6 c7 pe0 ki0 mi0 se0 we0 lea0 mst0 pa0 fi0 sd0 ev0 un0 ma0 ea0 co0 ca0 clt0 R, k = nI i ∧ i < 2 ∧ im i = some 47 ∧ G = c0 :: c1 :: c2 :: c3 :: c4 :: c5 :: c6 :: c7 :: twn 47 pe0 ki0 mi0 se0 we0 lea0 mst0 pa0 fi0 sd0 ev0 un0 ma0 ea0 co0 ca0 clt0 R ∧ (∀ j, j < 10 → clt0 j = 0 ∨ clt0 j = 1) ∧ Q (some (.int 1)) (wX by9 tln tst ten mm fa9 fb9 rf im (pe0) ((va_cpy ki0 ki 0 0 6)) (mi0) (se0) (we0) (lea0) (mst0) (pa0) ((va_cpy fi0 fi 0 0 8)) ((va_cpy sd0 sd 0 0 8)) (ev0) (un0) ((va_cpy ma0 ma 0 0 12)) ((va_cpy ea0 ea 0 0 12)) (co0) ((va_cpy ca0 ca 0 0 10)) ((va_cpy clt0 clt 0 0 10)) (s0 :: s1 :: s2 :: s3 :: s4 :: s5 :: s6 :: s7 :: m0 :: m1 :: m2 :: m3 :: m4 :: m5 :: m6 :: m7 :: m8 :: m9 :: m10 :: m11 :: m12 :: m13 :: m14 :: c0 :: c1 :: c2 :: c3 :: c4 :: c5 :: c6 :: c7 :: twn 47 pe0 ki0 mi0 se0 we0 lea0 mst0 pa0 fi0 sd0 ev0 un0 ma0 ea0 co0 ca0 clt0 R))))
def T_X9_from : List (Nat × em_Op) := [(0, o_iload 1 1), (1, o_iflt 9 4), (4, o_iload 1 5), (5, o_iconst 2 6), (6, o_icmplt 16 9), (9, o_aload 0 10), (10, o_iconst (-2) 12), (12, o_call 2 (some 4) (sp_X9_refuse) 15), (15, o_iret), (16, o_aload 0 17), (17, o_getf 4 4 20), (20, o_iload 1 21), (21, o_aaload 22), (22, o_astoreN 2 23), (23, o_aloadX 2 24), (24, o_ifnonnull 34 27), (27, o_aload 0 28), (28, o_iconst (-3) 30), (30, o_call 2 (some 4) (sp_X9_refuse) 33), (33, o_iret), (34, o_aload 0 35), (35, o_getf 4 5 38), (38, o_aload 2 39), (39, o_callPD 2 (some 2) (sp_X7_becomeLike) 42), (42, o_iconst 1 43), (43, o_iret)]
set_option maxRecDepth 100000 in
theorem me_X9_from : em_Me T_X9_from 3 sp_X9_from := by
  intro Q K hK hle av hp hs
  obtain ⟨by9, tln, tst, ten, mm, fa9, fb9, rf, im, pe, ki, mi, se, we, lea, mst, pa, fi, sd, ev, un, ma, ea, co, ca, clt, s0, s1, s2, s3, s4, s5, s6, s7, m0, m1, m2, m3, m4, m5, m6, m7, m8, m9, m10, m11, m12, m13, m14, G, k, rfl, rfl, hz, hc⟩ := hs
  refine ⟨Nat.le_of_ble_eq_true rfl, ?_⟩
  rcases hc with ⟨k0, k1, hq⟩ | ⟨i, rfl, hi, him, hq⟩ | ⟨i, pe0, ki0, mi0, se0, we0, lea0, mst0, pa0, fi0, sd0, ev0, un0, ma0, ea0, co0, ca0, clt0, R, rfl, hi, him, rfl, hz0, hq⟩ | ⟨i, c0, c1, c2, c3, c4, c5, c6, c7, pe0, ki0, mi0, se0, we0, lea0, mst0, pa0, fi0, sd0, ev0, un0, ma0, ea0, co0, ca0, clt0, R, rfl, hi, him, rfl, hz0, hq⟩
  · have bad : K 9 [some (.ref 0), some (.int k), none] [] (wX by9 tln tst ten mm fa9 fb9 (rf) (im) pe ki mi se we lea mst pa fi sd ev un ma ea co ca clt (s0 :: s1 :: s2 :: s3 :: s4 :: s5 :: s6 :: s7 :: m0 :: m1 :: m2 :: m3 :: m4 :: m5 :: m6 :: m7 :: m8 :: m9 :: m10 :: m11 :: m12 :: m13 :: m14 :: G)) := hK 5 4 9 _ _ _ ⟨_, _, _, _, _, _, _, _, _, _, _, _, _, _, _, _, _, _, _, _, _, _, _, _, _, _, _, _, rfl, rfl, hq⟩
    refine hK 0 5 0 _ _ _ ⟨fun _ => bad, fun z => ⟨fun y => ?_, fun _ => bad⟩⟩
    exfalso
    obtain ⟨j, hj, e⟩ := nI_of z
    subst e
    have y := (nI_ltI (a := j) (b := 2) (by omega) (by omega)).mp y
    have : j = 0 ∨ j = 1 := by omega
    rcases this with rfl | rfl
    · exact k0 rfl
    · exact k1 rfl
  · refine hK 0 5 0 _ _ _ ⟨fun z => absurd z (nI_pos (by omega)), fun _ => ⟨fun _ => ?_, fun z => absurd (nI_lt (a := i) (b := 2) hi (by omega)) z⟩⟩
    refine hK 9 11 16 _ _ _ ⟨i, rfl, hi, fun _ => ?_, fun q hq9 => by rw [him] at hq9; cases hq9⟩
    exact ⟨_, _, _, _, _, _, _, _, _, _, _, _, _, _, _, _, _, _, _, _, _, _, _, _, _, _, _, _, rfl, rfl, hq⟩
  · refine hK 0 5 0 _ _ _ ⟨fun z => absurd z (nI_pos (by omega)), fun _ => ⟨fun _ => ?_, fun z => absurd (nI_lt (a := i) (b := 2) hi (by omega)) z⟩⟩
    have m34 : K 34 [some (.ref 0), some (.int (nI i)), some (.ref 39)] [] (wX by9 tln tst ten mm fa9 fb9 (rf) (im) pe ki mi se we lea mst pa fi sd ev un ma ea co ca clt (s0 :: s1 :: s2 :: s3 :: s4 :: s5 :: s6 :: s7 :: m0 :: m1 :: m2 :: m3 :: m4 :: m5 :: m6 :: m7 :: m8 :: m9 :: m10 :: m11 :: m12 :: m13 :: m14 :: twn 39 pe0 ki0 mi0 se0 we0 lea0 mst0 pa0 fi0 sd0 ev0 un0 ma0 ea0 co0 ca0 clt0 R)) := hK 20 9999 34 _ _ _ ⟨by decide, _, _, _, _, _, _, _, _, _, _, _, _, _, _, _, _, _, _, _, _, _, _, _, _, _, _, _, _, _, _, _, _, _, _, rfl, rfl, hz0, hq⟩
    refine hK 9 11 16 _ _ _ ⟨i, rfl, hi, fun q => absurd (him.symm.trans q) (fun z => nomatch z), fun q hq9 => ?_⟩
    rw [him] at hq9
    have hq9 := Option.some.inj hq9
    subst hq9
    exact m34
  · refine hK 0 5 0 _ _ _ ⟨fun z => absurd z (nI_pos (by omega)), fun _ => ⟨fun _ => ?_, fun z => absurd (nI_lt (a := i) (b := 2) hi (by omega)) z⟩⟩
    have m34 : K 34 [some (.ref 0), some (.int (nI i)), some (.ref 47)] [] (wX by9 tln tst ten mm fa9 fb9 (rf) (im) pe ki mi se we lea mst pa fi sd ev un ma ea co ca clt (s0 :: s1 :: s2 :: s3 :: s4 :: s5 :: s6 :: s7 :: m0 :: m1 :: m2 :: m3 :: m4 :: m5 :: m6 :: m7 :: m8 :: m9 :: m10 :: m11 :: m12 :: m13 :: m14 :: c0 :: c1 :: c2 :: c3 :: c4 :: c5 :: c6 :: c7 :: twn 47 pe0 ki0 mi0 se0 we0 lea0 mst0 pa0 fi0 sd0 ev0 un0 ma0 ea0 co0 ca0 clt0 R)) := hK 20 9999 34 _ _ _ ⟨by decide, _, _, _, _, _, _, _, _, _, _, _, _, _, _, _, _, _, _, _, _, _, _, _, _, _, _, _, _, _, _, _, _, _, _, rfl, rfl, hz0, hq⟩
    refine hK 9 11 16 _ _ _ ⟨i, rfl, hi, fun q => absurd (him.symm.trans q) (fun z => nomatch z), fun q hq9 => ?_⟩
    rw [him] at hq9
    have hq9 := Option.some.inj hq9
    subst hq9
    exact m34
abbrev rm_X9_from : Room := { frames := 2, cells := 0, slots := 0, locals := 81 }
set_option maxRecDepth 100000 in
set_option maxHeartbeats 4000000 in
theorem ct_X9_from (l : Launch) (D : va_G) (dA : Nat → ClassId) (σ : Nat → Nat) : em_CT l D em_cl dA σ (em_F σ) y_X9_from c_X9_from 3 (Option.some ClassFile.FieldType.int) rm_X9_from (sp_X9_from ) := by
  refine em_CT_of (T := T_X9_from ) (em_F_ok σ) (by decide) (fun p e s m args below meth c A ρ Q C hFok hF hret hlk hin => ?_) (me_X9_from )
  unfold T_X9_from
  refine List.forall_mem_cons.mpr ⟨s_iload_n C (by decide +kernel : decode c_X9_from 0 = .ok (.iload_n 1, 1)) rfl rfl rfl, ?_⟩
  refine List.forall_mem_cons.mpr ⟨s_iflt C (by decide +kernel : decode c_X9_from 1 = .ok (.ifCond .lt 8, 3)) (by decide) rfl rfl rfl, ?_⟩
  refine List.forall_mem_cons.mpr ⟨s_iload_n C (by decide +kernel : decode c_X9_from 4 = .ok (.iload_n 1, 1)) rfl rfl rfl, ?_⟩
  refine List.forall_mem_cons.mpr ⟨s_iconst C (by decide +kernel : decode c_X9_from 5 = .ok (.iconst 2, 1)) rfl rfl (by decide), ?_⟩
  refine List.forall_mem_cons.mpr ⟨s_icmplt C (by decide +kernel : decode c_X9_from 6 = .ok (.if_icmp .lt 10, 3)) (by decide) rfl rfl rfl, ?_⟩
  refine List.forall_mem_cons.mpr ⟨s_aload_n C (by decide +kernel : decode c_X9_from 9 = .ok (.aload_n 0, 1)) rfl rfl rfl, ?_⟩
  refine List.forall_mem_cons.mpr ⟨s_bipush C (by decide +kernel : decode c_X9_from 10 = .ok (.bipush (-2), 2)) rfl rfl (by decide), ?_⟩
  refine List.forall_mem_cons.mpr ⟨s_callV C hFok hF (ct_X9_refuse l D dA σ) ⟨rfl, rfl⟩ ew200 em_cl_X9 ew197 ew199 ewp1 ew1 ⟨by decide, by decide, by decide +kernel⟩ ⟨by decide, by decide⟩ (by decide +kernel : decode c_X9_from 12 = .ok (.invokevirtual 63, 3)) rfl rfl ⟨Nat.zero_le _, Nat.zero_le _⟩, ?_⟩
  refine List.forall_mem_cons.mpr ⟨s_iret C (by decide +kernel : decode c_X9_from 15 = .ok (.ireturn, 1)) hret hlk ⟨Nat.le_refl 0, Nat.le_refl 0⟩, ?_⟩
  refine List.forall_mem_cons.mpr ⟨s_aload_n C (by decide +kernel : decode c_X9_from 16 = .ok (.aload_n 0, 1)) rfl rfl rfl, ?_⟩
  refine List.forall_mem_cons.mpr ⟨s_getf C (by decide +kernel : decode c_X9_from 17 = .ok (.getfield 36, 3)) rfl rfl em_cl_X9 (by decide) ew156 rfl, ?_⟩
  refine List.forall_mem_cons.mpr ⟨s_iload_n C (by decide +kernel : decode c_X9_from 20 = .ok (.iload_n 1, 1)) rfl rfl rfl, ?_⟩
  refine List.forall_mem_cons.mpr ⟨s_aaload C (by decide +kernel : decode c_X9_from 21 = .ok (.aaload, 1)) rfl rfl, ?_⟩
  refine List.forall_mem_cons.mpr ⟨s_astoreN_n C (by decide +kernel : decode c_X9_from 22 = .ok (.astore_n 2, 1)) rfl rfl rfl (by decide), ?_⟩
  refine List.forall_mem_cons.mpr ⟨s_aloadX_n C (by decide +kernel : decode c_X9_from 23 = .ok (.aload_n 2, 1)) rfl rfl rfl, ?_⟩
  refine List.forall_mem_cons.mpr ⟨s_ifnonnull C (by decide +kernel : decode c_X9_from 24 = .ok (.ifnonnull 10, 3)) (by decide) rfl rfl rfl, ?_⟩
  refine List.forall_mem_cons.mpr ⟨s_aload_n C (by decide +kernel : decode c_X9_from 27 = .ok (.aload_n 0, 1)) rfl rfl rfl, ?_⟩
  refine List.forall_mem_cons.mpr ⟨s_bipush C (by decide +kernel : decode c_X9_from 28 = .ok (.bipush (-3), 2)) rfl rfl (by decide), ?_⟩
  refine List.forall_mem_cons.mpr ⟨s_callV C hFok hF (ct_X9_refuse l D dA σ) ⟨rfl, rfl⟩ ew200 em_cl_X9 ew197 ew199 ewp1 ew1 ⟨by decide, by decide, by decide +kernel⟩ ⟨by decide, by decide⟩ (by decide +kernel : decode c_X9_from 30 = .ok (.invokevirtual 63, 3)) rfl rfl ⟨Nat.zero_le _, Nat.zero_le _⟩, ?_⟩
  refine List.forall_mem_cons.mpr ⟨s_iret C (by decide +kernel : decode c_X9_from 33 = .ok (.ireturn, 1)) hret hlk ⟨Nat.le_refl 0, Nat.le_refl 0⟩, ?_⟩
  refine List.forall_mem_cons.mpr ⟨s_aload_n C (by decide +kernel : decode c_X9_from 34 = .ok (.aload_n 0, 1)) rfl rfl rfl, ?_⟩
  refine List.forall_mem_cons.mpr ⟨s_getf C (by decide +kernel : decode c_X9_from 35 = .ok (.getfield 41, 3)) rfl rfl em_cl_X9 (by decide) ew157 rfl, ?_⟩
  refine List.forall_mem_cons.mpr ⟨s_aload_n C (by decide +kernel : decode c_X9_from 38 = .ok (.aload_n 2, 1)) rfl rfl rfl, ?_⟩
  refine List.forall_mem_cons.mpr ⟨s_callPVD C hFok hF (ct_X7_becomeLike l D dA σ) ⟨rfl, rfl⟩ ew653 em_cl_X7 ew650 ew651 ew652 ew5 ⟨by decide, by decide, by decide +kernel⟩ ⟨by decide, by decide⟩ (by decide +kernel : decode c_X9_from 39 = .ok (.invokevirtual 255, 3)) rfl rfl ⟨Nat.zero_le _, Nat.zero_le _⟩, ?_⟩
  refine List.forall_mem_cons.mpr ⟨s_iconst C (by decide +kernel : decode c_X9_from 42 = .ok (.iconst 1, 1)) rfl rfl (by decide), ?_⟩
  refine List.forall_mem_cons.mpr ⟨s_iret C (by decide +kernel : decode c_X9_from 43 = .ok (.ireturn, 1)) hret hlk ⟨Nat.le_refl 0, Nat.le_refl 0⟩, ?_⟩
  exact fun _ h => absurd h List.not_mem_nil
