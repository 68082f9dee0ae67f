/-! ===== String constants as .retAddr k (their bytes .retAddr (5 + k)); null; what can't be reached ===== -/
section EMD
variable {p : Program} {l : Launch} {e : Env} {R : Room} {s : State} {m : MethodId} {args : Array Value} {below : List Frame} {meth : Method} {c : Code} {D : va_G} {cl : List vw_C} {dA : Nat → ClassId} {σ : Nat → Nat} {A : Nat → Prop} {nL : Nat} {cnt : Nat → Nat × Nat} {Pr : (Nat → Nat) → Prop} {Z : State → Prop}
variable {cc : ByteArray} {Q : em_Q} {own : String} {tys : List (ClassId × FieldType)}
def o_no : em_Op := fun _ _ _ _ _ => False
theorem s_no {pc : Nat} : em_Snd p l e R s m args below meth c D cl dA σ A nL cnt Pr Z Q pc o_no := by
  intro k hk ls st hp h
  exact h.elim
def o_ldS (k n : Nat) : em_Op := fun _ K ls st hp => K n ls (.retAddr k :: st) hp
theorem s_ldS (C : em_Cx p s m args c D cl A nL tys cc "WedApart$TownText") (hF : em_F σ A s s.heap) {pc n index k : Nat} {tx : String} (hk : em_sts[k]? = some (index, tx)) (hd : decode cc pc = .ok (.ldc index, 2)) (hn : pc + 2 = n) (hc : cnt n = cnt pc) : em_Snd p l e R s m args below meth c D cl dA σ A nL cnt Pr Z Q pc (o_ldS k n) := by
  intro K hK ls st hp h ρ arr H locs hr hl hP hD hS
  subst hn
  have h9 := hK _ _ _ _ h ρ arr H locs hr hl hP hD hS
  rw [hc] at h9
  exact va_ldcS C.1 C.2.1 C.2.2.2.1 (hF.2.2.2.1 k _ hk) hd h9
/-- a local that is a String constant, null or one of the world's -/
def em_rk : Value → Bool
  | .ref _ => true
  | .retAddr _ => true
  | .null => true
  | _ => false
def o_aloadX (i n : Nat) : em_Op := fun _ K ls st hp => match em_nth ls i with | some v => bif em_rk v then K n ls (v :: st) hp else False | none => False
theorem s_aloadX (C : em_Cx p s m args c D cl A nL tys cc own) {pc n : Nat} {i : Nat} (hd : decode cc pc = .ok (.aload i, 2)) (hn : pc + 2 = n) (hc : cnt n = cnt pc) : em_Snd p l e R s m args below meth c D cl dA σ A nL cnt Pr Z Q pc (o_aloadX i n) := by
  intro K hK ls st hp h ρ arr H locs hr hl hP hD hS
  subst hn
  unfold o_aloadX at h
  split at h
  · rename_i v he
    have hv := hl.at he
    cases v with
    | ref x =>
      have h9 := hK _ _ _ _ h ρ arr H locs hr hl hP hD hS
      rw [hc] at h9
      exact lv_aload C.1 C.2.1 hd hv h9
    | retAddr x =>
      have h9 := hK _ _ _ _ h ρ arr H locs hr hl hP hD hS
      rw [hc] at h9
      exact lv_aload C.1 C.2.1 hd hv h9
    | null =>
      have h9 := hK _ _ _ _ h ρ arr H locs hr hl hP hD hS
      rw [hc] at h9
      exact lv_aloadN C.1 C.2.1 hd hv h9
    | _ => exact h.elim
  · exact h.elim
theorem s_aloadX_n (C : em_Cx p s m args c D cl A nL tys cc own) {pc n : Nat} {i : Nat} {q : Fin 4} (hd : decode cc pc = .ok (.aload_n q, 1)) (hn : pc + 1 = n) (hc : cnt n = cnt pc) (hi : (q : Nat) = i) : em_Snd p l e R s m args below meth c D cl dA σ A nL cnt Pr Z Q pc (o_aloadX i n) := by
  intro K hK ls st hp h ρ arr H locs hr hl hP hD hS
  subst hn
  unfold o_aloadX at h
  split at h
  · rename_i v he
    have hv := hl.at he
    cases v with
    | ref x =>
      have h9 := hK _ _ _ _ h ρ arr H locs hr hl hP hD hS
      rw [hc] at h9
      exact lv_aload_n C.1 C.2.1 hd hi hv h9
    | retAddr x =>
      have h9 := hK _ _ _ _ h ρ arr H locs hr hl hP hD hS
      rw [hc] at h9
      exact lv_aload_n C.1 C.2.1 hd hi hv h9
    | null =>
      have h9 := hK _ _ _ _ h ρ arr H locs hr hl hP hD hS
      rw [hc] at h9
      exact lv_aload_nN C.1 C.2.1 hd hi hv h9
    | _ => exact h.elim
  · exact h.elim
theorem s_astoreN_n (C : em_Cx p s m args c D cl A nL tys cc own) {pc n : Nat} {i : Nat} {q : Fin 4} (hd : decode cc pc = .ok (.astore_n q, 1)) (hn : pc + 1 = n) (hc : cnt n = cnt pc) (hi : (q : Nat) = i) (hb : i < nL) : em_Snd p l e R s m args below meth c D cl dA σ A nL cnt Pr Z Q pc (o_astoreN i n) := by
  intro k hk ls st hp h
  unfold o_astoreN at h
  split at h
  · rename_i r
    intro ρ arr H locs hr hl hP hD hS
    subst hn
    rw [em_st1_eq] at h
    refine lv_astore_nN C.1 C.2.1 hd hi hl.2 hb rfl (fun arr' ha => ?_)
    have h9 := hk _ _ _ _ h ρ arr' H locs hr ⟨(em_s1_len ls i _).trans hl.1, ha.1, ha.2.1, fun q2 hq2 => ?_⟩ hP hD hS
    · rw [hc] at h9
      exact h9
    · obtain ⟨j, w, h1, rfl⟩ := em_al_to _ 0 q2 hq2
      refine ha.2.2 _ ?_
      rcases em_s1_nth ls i _ j w h1 with ⟨rfl, rfl⟩ | ⟨n1, n2, n3⟩
      · rw [Nat.zero_add]; exact List.mem_cons_self
      · refine List.mem_cons_of_mem _ (List.mem_filter.mpr ⟨em_al_of ls 0 j w n2, ?_⟩)
        simp only [Nat.zero_add, em_v_cat, Bool.and_eq_true, Bool.not_eq_true', beq_eq_false_iff_ne, ne_eq, Bool.and_eq_false_iff]
        refine ⟨n1, ?_⟩
        by_cases hz : j + 1 = i
        · exact Or.inr (fun z => n3 ⟨hz, z⟩)
        · exact Or.inl hz
  · exact s_astore_n C hd hn hc hi hb k hk ls _ hp h
/-! reads of a String constant and its bytes -/
def o_getSv (n : Nat) : em_Op := fun _ K ls st hp => match st with | .retAddr k :: r => bif Nat.blt k 5 then K n ls (.retAddr (5 + k) :: r) hp else False | _ => False
theorem s_getSv (C : em_Cx p s m args c D cl A nL tys cc own) (hF : em_F σ A s s.heap) {pc n index : Nat} (hd : decode cc pc = .ok (.getfield index, 3)) (hn : pc + 3 = n) (hc : cnt n = cnt pc) (hw : Cond.fieldLink own index "java/lang/String" "value" "[B" ∈ em_tb) : em_Snd p l e R s m args below meth c D cl dA σ A nL cnt Pr Z Q pc (o_getSv n) := by
  intro K hK ls st hp h ρ arr H locs hr hl hP hD hS
  subst hn
  unfold o_getSv at h
  split at h
  · rename_i k r
    cases hb : Nat.blt k 5 with
    | false => rw [hb] at h; exact h.elim
    | true =>
      rw [hb] at h
      have hk5 : k < 5 := Nat.le_of_ble_eq_true hb
      have h9 := hK _ _ _ _ h ρ arr H locs hr hl hP hD hS
      rw [hc] at h9
      exact vk_getf C.1 C.2.1 (hF.2.2.1.1 k hk5).2.2.1 hS C.2.2.2.1 (C.2.2.2.2.1 _ hw) (fun _ q => q) hd h9
  · exact h.elim
def o_getSc (n : Nat) : em_Op := fun _ K ls st hp => match st with | .retAddr k :: r => bif Nat.blt k 5 then K n ls (.int 0 :: r) hp else False | _ => False
theorem s_getSc (C : em_Cx p s m args c D cl A nL tys cc own) (hF : em_F σ A s s.heap) {pc n index : Nat} (hd : decode cc pc = .ok (.getfield index, 3)) (hn : pc + 3 = n) (hc : cnt n = cnt pc) (hw : Cond.fieldLink own index "java/lang/String" "coder" "B" ∈ em_tb) : em_Snd p l e R s m args below meth c D cl dA σ A nL cnt Pr Z Q pc (o_getSc n) := by
  intro K hK ls st hp h ρ arr H locs hr hl hP hD hS
  subst hn
  unfold o_getSc at h
  split at h
  · rename_i k r
    cases hb : Nat.blt k 5 with
    | false => rw [hb] at h; exact h.elim
    | true =>
      rw [hb] at h
      have hk5 : k < 5 := Nat.le_of_ble_eq_true hb
      have h9 := hK _ _ _ _ h ρ arr H locs hr hl hP hD hS
      rw [hc] at h9
      exact vk_getf C.1 C.2.1 (hF.2.2.1.1 k hk5).2.1 hS C.2.2.2.1 (C.2.2.2.2.1 _ hw) (fun _ q => q) hd h9
  · exact h.elim
def o_alenS (n : Nat) : em_Op := fun _ K ls st hp => match st with | .retAddr k :: r => bif (Nat.ble 5 k && Nat.blt k 10) then K n ls (.int (Int32.ofNat (em_len.getD (k - 5) 0)) :: r) hp else False | _ => False
theorem s_alenS (C : em_Cx p s m args c D cl A nL tys cc own) (hF : em_F σ A s s.heap) {pc n : Nat} (hd : decode cc pc = .ok (.arraylength, 1)) (hn : pc + 1 = n) (hc : cnt n = cnt pc) : em_Snd p l e R s m args below meth c D cl dA σ A nL cnt Pr Z Q pc (o_alenS n) := by
  intro K hK ls st hp h ρ arr H locs hr hl hP hD hS
  subst hn
  unfold o_alenS at h
  split at h
  · rename_i k r
    cases hb : (Nat.ble 5 k && Nat.blt k 10) with
    | false => rw [hb] at h; exact h.elim
    | true =>
      rw [hb] at h
      rw [Bool.and_eq_true] at hb
      have h5 := Nat.le_of_ble_eq_true hb.1
      have h10 : k < 10 := Nat.le_of_ble_eq_true hb.2
      have h9 := hK _ _ _ _ h ρ arr H locs hr hl hP hD hS
      rw [hc] at h9
      have hT := (hF.2.2.1.1 (k - 5) (by omega)).2.2.2
      have e5 : (fun k => σ (5 + k)) (k - 5) = σ k := by show σ (5 + (k - 5)) = σ k; rw [show 5 + (k - 5) = k by omega]
      rw [e5] at hT
      exact va_tlen C.1 C.2.1 hT hS rfl hd h9
  · exact h.elim
def o_baldS (n : Nat) : em_Op := fun _ K ls st hp => match st with | .int i :: .retAddr k :: r => bif (Nat.ble 5 k && Nat.blt k 10) then (∃ j : Nat, i = nI j ∧ j < em_len.getD (k - 5) 0 ∧ K n ls (.int ((em_byt.getD (k - 5) []).getD j 0) :: r) hp) else False | _ => False
theorem em_len_lt : ∀ k, k < 5 → em_len.getD k 0 < 10 := by decide
theorem s_baldS (C : em_Cx p s m args c D cl A nL tys cc own) (hF : em_F σ A s s.heap) {pc n : Nat} (hd : decode cc pc = .ok (.baload, 1)) (hn : pc + 1 = n) (hc : cnt n = cnt pc) : em_Snd p l e R s m args below meth c D cl dA σ A nL cnt Pr Z Q pc (o_baldS n) := by
  intro K hK ls st hp h ρ arr H locs hr hl hP hD hS
  subst hn
  unfold o_baldS at h
  split at h
  · rename_i i k r
    cases hb : (Nat.ble 5 k && Nat.blt k 10) with
    | false => rw [hb] at h; exact h.elim
    | true =>
      rw [hb] at h
      rw [Bool.and_eq_true] at hb
      have h5 := Nat.le_of_ble_eq_true hb.1
      have h10 : k < 10 := Nat.le_of_ble_eq_true hb.2
      obtain ⟨j, rfl, hj, h⟩ := h
      have h9 := hK _ _ _ _ h ρ arr H locs hr hl hP hD hS
      rw [hc] at h9
      have hT := (hF.2.2.1.1 (k - 5) (by omega)).2.2.2
      have e5 : (fun k => σ (5 + k)) (k - 5) = σ k := by show σ (5 + (k - 5)) = σ k; rw [show 5 + (k - 5) = k by omega]
      rw [e5] at hT
      have := em_len_lt (k - 5) (by omega)
      exact va_tb C.1 C.2.1 hT hS (vp_in_nI hj (by omega)) (by rw [nI_clamp (by omega)]; rfl) hd h9
  · exact h.elim
def o_gets1 (n : Nat) : em_Op := fun _ K ls st hp => K n ls (.int 1 :: st) hp
theorem s_gets1 (C : em_Cx p s m args c D cl A nL tys cc own) (hF : em_F σ A s s.heap) {pc n index : Nat} (hd : decode cc pc = .ok (.getstatic index, 3)) (hn : pc + 3 = n) (hc : cnt n = cnt pc) (hw : Cond.fieldLink own index "java/lang/String" "COMPACT_STRINGS" "Z" ∈ em_tb) : em_Snd p l e R s m args below meth c D cl dA σ A nL cnt Pr Z Q pc (o_gets1 n) := by
  intro K hK ls st hp h ρ arr H locs hr hl hP hD hS
  subst hn
  have h9 := hK _ _ _ _ h ρ arr H locs hr hl hP hD hS
  rw [hc] at h9
  exact va_gets C.1 C.2.1 hF.2.2.2.2.1 hS C.2.2.2.1 (C.2.2.2.2.1 _ hw) (fun _ q => q) hd h9
def o_getsQ (n : Nat) : em_Op := fun _ K ls st hp => K n ls (.null :: st) hp ∧ K n ls (.retAddr 10 :: st) hp
theorem s_getsQ (C : em_Cx p s m args c D cl A nL tys cc own) (hF : em_F σ A s s.heap) {pc n index : Nat} (hd : decode cc pc = .ok (.getstatic index, 3)) (hn : pc + 3 = n) (hc : cnt n = cnt pc) (hw : Cond.fieldLink own index "jdk/internal/util/Preconditions" "SIOOBE_FORMATTER" "Ljava/util/function/BiFunction;" ∈ em_tb) : em_Snd p l e R s m args below meth c D cl dA σ A nL cnt Pr Z Q pc (o_getsQ n) := by
  intro K hK ls st hp h ρ arr H locs hr hl hP hD hS
  subst hn
  rcases hF.2.2.2.2.2 with hZ | hZ
  · have h9 := hK _ _ _ _ h.1 ρ arr H locs hr hl hP hD hS
    rw [hc] at h9
    exact va_gets C.1 C.2.1 hZ hS C.2.2.2.1 (C.2.2.2.2.1 _ hw) (fun _ q => q) hd h9
  · have h9 := hK _ _ _ _ h.2 ρ arr H locs hr hl hP hD hS
    rw [hc] at h9
    exact va_gets C.1 C.2.1 hZ hS C.2.2.2.1 (C.2.2.2.2.1 _ hw) (fun _ q => q) hd h9
def o_i2c (n : Nat) : em_Op := fun _ K ls st hp => match st with | .int x :: r => K n ls (.int ((x.toUInt32 % 65536).toInt32) :: r) hp | _ => False
theorem s_i2c (C : em_Cx p s m args c D cl A nL tys cc own) {pc n : Nat} (hd : decode cc pc = .ok (.i2c, 1)) (hn : pc + 1 = n) (hc : cnt n = cnt pc) : em_Snd p l e R s m args below meth c D cl dA σ A nL cnt Pr Z Q pc (o_i2c n) := by
  intro K hK ls st hp h ρ arr H locs hr hl hP hD hS
  subst hn
  unfold o_i2c at h
  split at h
  · have h9 := hK _ _ _ _ h ρ arr H locs hr hl hP hD hS
    rw [hc] at h9
    exact lv_i2c C.1 C.2.1 hd rfl h9
  · exact h.elim
/-- a char or a byte comes back as it is, if it is one -/
def o_nret (ty : FieldType) : em_Op := fun Q _ _ st hp => match st with | .int v :: [] => narrow ty (.int v) = .int v ∧ Q (some (.int v)) hp | _ => False
theorem s_nret (C : em_Cx p s m args c D cl A nL (em_tys dA) cc own) {ty : FieldType} {pc mc ms : Nat} (hd : decode cc pc = .ok (.ireturn, 1)) (hr9 : meth.sig.returnType = some ty) (hlk : meth.locks = false) (hcm : (cnt pc).1 ≤ mc ∧ (cnt pc).2 ≤ ms) : em_Snd p l e R s m args below meth c D cl dA σ A nL cnt Pr (MQ below (em_Qc D cl dA σ Pr Q A) args s mc ms A) Q pc (o_nret ty) := by
  intro k hk ls st hp h ρ arr H locs hr hl hP hD hS
  unfold o_nret at h
  split at h
  · rename_i v
    refine W.widen hcm.1 hcm.2 ?_
    exact W.zret C.1 C.2.1 hr9 h.1 (fun t ht hW => ⟨⟨some (.int v), ρ, hp, rfl, trivial, h.2, hr, by rw [ht]; exact hP, hD⟩, hS.F ht⟩) hS.2.2 hd hlk
  · exact h.elim
/-- a call on a String constant -/
def em_rcS : List Value → Prop → Prop
  | .retAddr k :: _, P => bif Nat.blt k 5 then P else False
  | _, _ => False
theorem em_rcS_to {av : List Value} {P : Prop} (h : em_rcS av P) : P ∧ ∃ k vs, av = .retAddr k :: vs ∧ k < 5 := by
  unfold em_rcS at h
  split at h
  · rename_i k vs
    cases hb5 : Nat.blt k 5 with
    | false => rw [hb5] at h; exact h.elim
    | true =>
      rw [hb5] at h
      exact ⟨h, k, vs, rfl, Nat.le_of_ble_eq_true hb5⟩
  · exact h.elim
def o_callVS (a : Nat) (sp : em_Sp) (n : Nat) : em_Op := fun _ K ls st hp => em_popn a st [] (fun av r => bif Nat.ble (em_cat r) 8 then em_rcS av (sp av hp (em_ret K n ls r)) else False)
theorem s_callVS (C : em_Cx p s m args c D cl A nL (em_tys dA) cc own) {pc n index a maxL : Nat} {y : MethodName} {bytes : ByteArray} {ret : Option FieldType} {rm : Room} {sp : em_Sp} (hFok : em_Fok (em_F σ)) (hF : em_F σ A s s.heap) (hM : em_CT l D cl dA σ (em_F σ) y bytes maxL ret rm sp) (hrm : rm.cells = 0 ∧ rm.slots = 0) (hy : y.cls = "java/lang/String") (hw1 : Cond.code y bytes maxL ret ∈ em_tb) (hwl : Cond.methodLink own index y ∈ em_tb) (hws : Cond.instanceMethod y ∈ em_tb) (hwe : Cond.selects y.cls y y ∈ em_tb) (hwi : Cond.initialized y.cls ∈ em_tb) (hd2 : y.cls ≠ "java/lang/invoke/MethodHandle" ∧ y.cls ≠ "java/lang/invoke/VarHandle" ∧ (parseMethodDescriptor y.desc).map (fun d => d.parameters.length) = some a) (hR : rm.frames + 1 ≤ R.frames ∧ 8 + (maxL + 11) + rm.locals ≤ R.locals) (hd : decode cc pc = .ok (.invokevirtual index, 3)) (hn : pc + 3 = n) (hc : cnt n = cnt pc) (hcr : (cnt pc).1 + 0 ≤ R.cells ∧ (cnt pc).2 + 0 ≤ R.slots) : em_Snd p l e R s m args below meth c D cl dA σ A nL cnt Pr Z Q pc (o_callVS (a + 1) sp n) := by
  intro k hk ls st hp h ρ arr H locs hr hl hP hD hS
  unfold o_callVS at h
  obtain ⟨av, r, hst, hav, h⟩ := em_popn_to _ _ _ _ h
  rw [List.append_nil] at h
  cases hb8 : Nat.ble (em_cat r) 8 with
  | false => rw [hb8] at h; exact h.elim
  | true =>
    rw [hb8] at h
    have h8 := Nat.le_of_ble_eq_true hb8
    have h : em_rcS av (sp av hp (em_ret k n ls r)) := h
    obtain ⟨h, k0, vs, rfl, hk5⟩ := em_rcS_to h
    obtain ⟨hbl, hpr, hFc⟩ := em_pre (av := .retAddr k0 :: vs) C hFok hF hP hD hS
    have hG : GoodIn em_tb (Cond.code y bytes maxL ret :: em_tb) := fun w hw => by
      rcases List.mem_cons.mp hw with rfl | hw
      · exact em_tb_good _ hw1
      · exact em_tb_good _ hw
    have cb := callB_of (R := R) (s := s) (args := args) (own := own) (index := index) (y := y) (bytes := bytes) (maxL := maxL) (ret := ret) (rm := rm) a C.2.2.2.2.1 hG rfl hrm.1 hrm.2 (C.2.2.2.2.1 _ hwi) (C.2.2.2.2.1 _ hwl) hd2 hR
    refine em_back C hk hn hc hr hl hS hFc (r := r) (a := (((Value.retAddr k0 :: vs).map (em_v σ ρ)).toArray)) ?_
    exact va_runV (C := y.cls) (b := σ k0) (As := vs.map (em_v σ ρ)) (rest := r.map (em_v σ ρ)) ⟨C.1, C.2.1, C.2.2.1, C.2.2.2.1, C.2.2.2.2.1⟩ (hM ρ hp H.size _ _ h) ⟨cb, C.2.2.2.2.1 _ hws, C.2.2.2.2.1 _ hwe⟩ ⟨hbl, by rw [hy]; exact vk_recv hF.2.2.1 hk5 hS, hpr⟩ rfl (by rw [List.length_map]; simpa using hav) hl.2.1 (by rw [hst]; simp [em_v]) (lv_room (by rw [em_cat_eq]; exact h8)) hd hcr
end EMD
