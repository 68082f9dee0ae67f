/-! ===== the law ===== -/
set_option maxRecDepth 100000 in
theorem lw_pro {Q : em_Q} {K : em_K} {L : Nat} {xs : Nat → Int32} (hK : ∀ a b pc ls st hp, em_wp Q K (((T_LP L xs).drop a).take b) pc ls st hp → K pc ls st hp) (k18 : ∀ hp, INV 0 hp → K 18 (LwS 0) [] hp) : K 0 [some (.retAddr 11), none, none, none] [] [] := by
  have hz : ∀ j, j < 10 → z0 j = 0 ∨ z0 j = 1 := fun j _ => Or.inl rfl
  have hR : RT 0 (emB (fun _ => 0)) 0 z0 0 0 0 2 4 0 z0 z0 0 0 zL z0 0 z0 z0 := RT_begin (pe := 0) (mi := 0) (se := 0) (we := 0) (lea := 0) (mst := 0) (pa := 0) (ev := 0) (un9 := 0) (co := 0) hz
  have hb : emI z0 146 = nB (emB (fun _ => 0)) := emI_B (fun _ => 0)
  have hI := INV_i (S := fun _ => 0) (IM := fun _ => 0) (C := fun _ => 0) (L9 := 0) (by9 := z0) (tln := 0) (tst := 0) (ten := 0) (mm := zL) (fa9 := 0) (fb9 := 1) (rf := z0) (im := fun _ => none) (kp := z0) (asd := z0) (rfm := z0) (qt := 0) (ab := 0) (be := 1) (tx := z0) (ty := 0) (at9 := 0) (st9 := 0) (tk := 0) (vl := 0) (wd := 0) (it := z0) (mn := 0) (so := z0) (sb := zL) (my := z0) (wem := z0) (be9 := z0) (rw := z0) (fr := z0) (G := []) (imm := z0) (pe0 := 0) (ki0 := z0) (mi0 := 0) (se0 := 0) (we0 := 0) (lea0 := 2) (mst0 := 4) (pa0 := 0) (fi0 := z0) (sd0 := z0) (ev0 := 0) (un0 := 0) (ma0 := zL) (ea0 := z0) (co0 := 0) (ca0 := z0) (clt0 := z0) hR hz ⟨fun j hj => absurd hj (Nat.not_lt_zero j), rfl, by omega, fun _ => (by decide : 0 < 128)⟩ ⟨rfl, rfl, by omega, fun _ => (by decide : 0 < 128)⟩ hb rfl rfl rfl rfl rfl rfl (fun _ _ => rfl) (fun _ _ => rfl) ⟨fun _ _ => rfl, Or.inl ⟨rfl, rfl, rfl, rfl, rfl⟩⟩
  refine hK 0 9999 0 _ _ _ ⟨0, rfl, Nat.le_refl 0, rfl, trivial, ?_⟩
  refine ⟨rfl, Nat.zero_le _, rfl, trivial, rfl, rfl, rfl, rfl, ?_⟩
  refine ⟨24, rfl, Nat.zero_le _, rfl, (by repeat (first | exact trivial | refine ⟨rfl, ?_⟩ | refine ⟨trivial, ?_⟩ | refine ⟨(fun i q h => by cases h), ?_⟩)), ?_⟩
  refine ⟨rfl, Nat.zero_le _, rfl, (by repeat (first | exact trivial | refine ⟨rfl, ?_⟩ | refine ⟨trivial, ?_⟩ | refine ⟨(fun i q h => by cases h), ?_⟩)), rfl, rfl, rfl, rfl, ?_⟩
  exact k18 _ hI
theorem whole_start {p : Program} {e : Env} {s : State} {m : MethodId} {below : List Frame} {meth : Method} {c : Code} (l : Launch) (hflags : l.flags = flags0) {b L : Nat} {xs : Nat → Int32} (hL : L ≤ 320) (C0 : lw_At p s m meth c b L xs) : W p l e room_1 s m #[Value.ref b] below meth c s.heap [] 0 0 (lw_Z below #[Value.ref b] s) (entryFrame m ([Value.ref b] : List Value).toArray 4) := by
  obtain ⟨σ, hσ, hF⟩ := lw_F C0
  obtain ⟨D, dA, hK⟩ := lw_K C0
  obtain ⟨hx, hb, hr, hml, hown, hts, hX, hbl, hlocks, hgv⟩ := C0
  have hbA : ¬ (fun q : Nat => s.heap.size ≤ q) b := Nat.not_le.mpr hbl
  have C : em_Cx p s m #[Value.ref b] c D em_cl (fun q : Nat => s.heap.size ≤ q) 4 (em_tys dA) code "WedApartLaw" := ⟨hx, hb, hml, hown, fun w hw => hts w (List.mem_filter.mp hw).1, hK, fun _ h => h⟩
  have hL2 : L < 2 ^ 31 := by omega
  have wP := fun a b1 pc ls st hp h => em_wp_snd (snd_LP (l := l) (e := e) (below := below) (meth := meth) (k := 0) (Z := lw_Z below #[Value.ref b] s) C (em_F_ok σ) hF hX hbl hbA hσ hL2 (Nat.zero_le _) (fun _ _ => True)) (((T_LP L xs).drop a).take b1) (fun q hq => List.mem_of_mem_drop (List.mem_of_mem_take hq)) pc ls st hp h
  have k0 := lw_pro wP (fun hp h => lw_loop (l := l) (e := e) (below := below) C (em_F_ok σ) hF hX hbl hbA hσ hL hr hlocks (fun _ h => h) 64 0 rfl hp h)
  have hl := lv_entry ([.ref b]) (n := 4) (Nat.le_of_ble_eq_true rfl)
  rw [lg_entry_eq]
  generalize (lg_sl ([.ref b]) ++ List.replicate (4 - (lg_sl ([.ref b])).length) Slot.unset).toArray = arr at hl ⊢
  have hl : lv_has arr 4 [(0, .ref b)] := hl
  refine k0 (fun i => i) arr s.heap [] ?_ ?_ ?_ ?_ ?_
  · trivial
  · refine ⟨rfl, hl.1, hl.2.1, fun q hq => ?_⟩
    have hq : q ∈ [(0, Value.ref (σ 11))] := hq
    rw [hσ] at hq
    exact hl.2.2 q hq
  · intro k q h
    simp [em_w] at h
  · refine ⟨?_, ?_⟩
    · intro i j p q h
      simp [em_w] at h
    · intro k q h
      simp [em_w] at h
  · exact va_S.rf
-- ===== YOUR PART ENDS =====
set_option maxHeartbeats 4000000 in
theorem lw_walk (l : Launch) (hflags : l.flags = flags0) (b : Addr) (xs : List Int32) : MetFree l x (headSpec (Jvm.Cond.code x code maxLocals ret :: tables_1) room_1) (lw_P b xs) (fun _ _ _ _ _ => True) lw_Q := by
  refine MetFree.of_bodyS (code := code) (maxLocals := maxLocals) (ret := ret) (by decide) ?_ ?_
  · intro args s m h hn
    obtain ⟨meth, c, h1, h2, h3, h4, h5, h6, -, -⟩ := Cond.code_spec hn (atoms_spec (ws := Jvm.Cond.code x code maxLocals ret :: tables_1) h _ List.mem_cons_self)
    exact ⟨meth, c, h1, h2, h3, h4, h5, h6⟩
  · intro p e s m args below meth c s₁ B hml0 hP _
    obtain ⟨rfl, hx, hbd, hgv⟩ := hP
    obtain ⟨scr, harrAt, hlist, hof, hsmall⟩ := hx
    obtain ⟨hcb, hkn, -, -⟩ := State.arrayAt?_spec harrAt
    have hown : s.vm.findClass R_law = some m.cls := findClass_of_methodNamed B.named
    have hts0 : ∀ c ∈ (Jvm.Cond.code x code maxLocals ret :: tables_1), c.before #[Value.ref b] s = true := atoms_spec (ws := Jvm.Cond.code x code maxLocals ret :: tables_1) B.pre
    have hts : ∀ w ∈ lw_tbl, w.before #[Value.ref b] s = true := k2_hts_sels lw_privs (fun w hw => hts0 w (List.mem_cons_of_mem _ hw)) lw_privs_ok
    have hml : c.maxLocals = 4 := B.maxLocals_eq (hts0 _ List.mem_cons_self)
    have X₀ : Stand p l e room_1 s m #[Value.ref b] below meth c s₁ [] 0 0 := Stand.of_body B
    have hh0 : s₁.heap = s.heap := by rw [B.state]; rfl
    have hsz : scr.slots.size = xs.length := by rw [← Array.length_toList, hlist, List.length_map]
    have hval : ∀ j : Nat, j < xs.length → scr.slots[j]? = some (.int (xs.getD j 0)) := fun j hj => by
      rw [← Array.getElem?_toList, hlist]
      simp [hj]
    have hbl : b < s.heap.size := (Array.getElem?_eq_some_iff.mp hcb).1
    have hX : va_X b xs.length (fun j => xs.getD j 0) s s.heap := ⟨scr, hcb, hof, hkn, hsz, hval⟩
    have K : W p l e room_1 s m #[Value.ref b] below meth c s₁.heap [] 0 0 (lw_Z below #[Value.ref b] s) (entryFrame m ([Value.ref b] : List Value).toArray 4) := by
      rw [hh0]
      exact whole_start l hflags hbd ⟨B.exec, B.bytes, B.returns, hml, hown, hts, hX, hbl, B.notSynchronized, hgv⟩
    obtain ⟨t, a1, o, b1, b2, b3⟩ := K s₁ rfl X₀
    exact ⟨t, o, a1, b1, b2, b3⟩
theorem lw_pre_spec {args : Array Value} {s : State} (h : (Jvm.Cond.and given_1 narrow_1).before args s = true) (hr : rest_1_c.before args s = true) : ∃ (b : Addr) (xs : List Int32), lw_P b xs args s := by
  have hs := flat_of_before _ h
  have hq := flat_of_before _ hr
  have hc : (Cond.count 1).before args s = true := hs _ (by decide +kernel)
  have harr : (Cond.arrayOf (.arg 0) .int).before args s = true := hs _ (by decide +kernel)
  have hle : (Cond.le (.length (.arg 0)) (.int 320)).before args s = true := hs _ (by decide +kernel)
  have hlen : (Cond.isInt (.length (.arg 0))).before args s = true := hq _ (by decide +kernel)
  have hall : (Cond.all (.arg 0) (.isInt (.elem (.arg 0) (.index 0)))).before args s = true := hq _ (by decide +kernel)
  obtain ⟨b, xs, hb, hx⟩ := State.ints_of_pre rfl harr hlen hall
  have hsm : xs.length < 2 ^ 31 := hx.choose_spec.2.2.2
  have hev : (Term.length (.arg 0)).eval args s none [] s = some (.int xs.length.toInt32) := hx.length_eval hb
  have hv := Cond.le_ints hev (show (Term.int 320).eval args s none [] s = some (.int 320) from rfl)
  have hd : xs.length.toInt32 ≤ 320 := by
    simpa [Cond.before, Cond.holds, hv] using hle
  have hN : xs.length ≤ 320 := (Int32.ofNat_le_ofNat hsm (by decide)).mp (show Int32.ofNat xs.length ≤ Int32.ofNat 320 from hd)
  exact ⟨b, xs, Cond.one_arg hc (show args[0]? = some (.ref b) from hb), hx, hN, h⟩
theorem lw_comes (l : Launch) (hflags : l.flags = flags0) : Comes l x (Jvm.Cond.code x code maxLocals ret :: tables_1) room_1 (fun tb e args s => Calls_1 tb e args s ∧ rest_1 tb e args s ∧ Pre_1 tb e args s)
    (fun _ _ args s o t => lw_Q args s o t) := by
  intro p e ha hc hk s m args below hf hfit hheap happ hpre
  obtain ⟨b, xs, hP⟩ := lw_pre_spec hpre.2.2 hpre.2.1
  obtain ⟨k, o, h1, h2, h3, hQ⟩ := lw_walk l hflags b xs p e ha hc hk s m args below hf ((Spec.applies_iff_loose hf).mp happ).1 hP trivial
  exact ⟨k, o, h1, h2, h3, hQ⟩
theorem lw_frame {s t : State} {o : Outcome} {args : Array Value} (h : Framed s o t [] 600000 7302250) :
    Framed s o t (fieldLocs frame_1_writes args s ++ arrayLocs frame_1_arrays args s ++ staticLocs frame_1_statics s) 600000 7302250 := h
theorem lw_limb (L : Cond) (hL : ∀ (args : Array Value) (s t : State), L.after args s (.returned (some (.int 1))) t = true) :
    ArmFor flags0 classFile x code maxLocals ret World_1 tables_1 room_1 Calls_1 rest_1 Pre_1
      (fun tb e a s o t => postC L tb e a s o t ∧ Framed s o t (fieldLocs frame_1_writes a s ++ arrayLocs frame_1_arrays a s ++ staticLocs frame_1_statics s) 600000 7302250) := by
  intro l hflags _ _ p e ha hc hk s m args below hf hfit hheap happ hpre
  obtain ⟨k, o, h1, h2, h3, rfl, hF⟩ := lw_comes l hflags p e ha hc hk s m args below hf hfit hheap happ hpre
  exact ⟨k, _, h1, h2, h3, hL args s _, lw_frame hF⟩
theorem i_vc : Claimed_1_1 ∧ Claimed_1_2 := ⟨lw_limb limb_1_1 (fun args s t => by simp [limb_1_1, Cond.after, Cond.holds, Cond.value]), lw_limb limb_1_2 (fun args s t => Cond.after_iff.mpr (by
  first | (rw [show limb_1_2 = Cond.eq .result (.int 1) from rfl, Cond.eq_ints (x := 1) (y := 1) rfl rfl]; simp; done) | (simp [limb_1_2, Cond.value, Term.eval]; done)))⟩
