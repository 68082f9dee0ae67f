/-! ===== making cells: new, newarray, anewarray, constructors ===== -/
def em_ap : em_H → em_H → (em_H → Prop) → Prop
  | [], ys, k => k ys
  | x :: r, ys, k => em_ap r ys (fun r' => k (x :: r'))
theorem em_ap_eq : ∀ (xs ys : em_H) (k : em_H → Prop), em_ap xs ys k = k (xs ++ ys)
  | [], ys, k => rfl
  | x :: r, ys, k => by show em_ap r ys _ = _; rw [em_ap_eq r ys]; rfl
/-- all references are below n -/
def em_okv (n : Nat) : Value → Bool
  | .ref a => Nat.blt a n
  | _ => true
def em_oks (n : Nat) : List Value → Bool
  | [] => true
  | v :: r => em_okv n v && em_oks n r
def em_okl (n : Nat) : em_L → Bool
  | [] => true
  | none :: r => em_okl n r
  | some v :: r => em_okv n v && em_okl n r
def em_okE (n : Nat) : va_E → Prop
  | .inr (_, fs) => em_oks n fs = true
  | .inl (_, _, .inr (.inr (.inr (.inr f)))) => ∀ i q, f i = some q → q < n
  | _ => True
def em_okH (n : Nat) : em_H → Prop
  | [] => True
  | x :: r => em_okE n x ∧ em_okH n r
theorem em_okv_v {n : Nat} {σ ρ ρ' : Nat → Nat} (hr : ∀ k, k < n → ρ' k = ρ k) {v : Value} (h : em_okv n v = true) : em_v σ ρ' v = em_v σ ρ v := by
  cases v with
  | ref a => show Value.ref (ρ' a) = Value.ref (ρ a); rw [hr a (Nat.le_of_ble_eq_true h)]
  | _ => rfl
theorem em_oks_v {n : Nat} {σ ρ ρ' : Nat → Nat} (hr : ∀ k, k < n → ρ' k = ρ k) : ∀ {l : List Value}, em_oks n l = true → l.map (em_v σ ρ') = l.map (em_v σ ρ)
  | [], _ => rfl
  | v :: r, h => by
    have h := Bool.and_eq_true_iff.mp h
    rw [List.map_cons, List.map_cons, em_okv_v hr h.1, em_oks_v hr h.2]
theorem em_okl_v {n : Nat} {σ ρ ρ' : Nat → Nat} (hr : ∀ k, k < n → ρ' k = ρ k) : ∀ {l : em_L} {o : Nat}, em_okl n l = true → em_al (em_v σ ρ') o l = em_al (em_v σ ρ) o l
  | [], _, _ => rfl
  | none :: r, o, h => em_okl_v hr (l := r) h
  | some v :: r, o, h => by
    have h := Bool.and_eq_true_iff.mp h
    show (o, em_v σ ρ' v) :: em_al _ _ r = (o, em_v σ ρ v) :: em_al _ _ r
    rw [em_okv_v hr h.1, em_okl_v hr h.2]
theorem em_okE_e {n : Nat} {σ ρ ρ' : Nat → Nat} {dA : Nat → ClassId} (hr : ∀ k, k < n → ρ' k = ρ k) {x : va_E} (h : em_okE n x) : em_e σ dA ρ' x = em_e σ dA ρ x := by
  match x, h with
  | .inr (c, fs), h =>
    show Sum.inr (c, _) = Sum.inr (c, _)
    rw [em_oks_v hr h]
  | .inl (t, m, .inl f), _ => rfl
  | .inl (t, m, .inr (.inl f)), _ => rfl
  | .inl (t, m, .inr (.inr (.inl f))), _ => rfl
  | .inl (t, m, .inr (.inr (.inr (.inl f)))), _ => rfl
  | .inl (t, m, .inr (.inr (.inr (.inr f)))), h =>
    show Sum.inl (dA t, m, _) = Sum.inl (dA t, m, _)
    congr 7
    funext i
    cases hf : f i with
    | none => rfl
    | some q => show some (ρ' q) = some (ρ q); rw [hr q (h i q hf)]
theorem em_okH_get {n : Nat} : ∀ {hp : em_H} {k : Nat} {x : va_E}, em_okH n hp → hp[k]? = some x → em_okE n x
  | [], k, x, _, h => by cases h
  | y :: r, 0, x, h, e => by cases e; exact h.1
  | y :: r, k + 1, x, h, e => em_okH_get (hp := r) h.2 (by rw [List.getElem?_cons_succ] at e; exact e)
theorem em_w_ok {n : Nat} {σ ρ ρ' : Nat → Nat} {dA : Nat → ClassId} {hp : em_H} (hr : ∀ k, k < n → ρ' k = ρ k) (hl : hp.length ≤ n) (h : em_okH n hp) : em_w σ dA ρ' hp = em_w σ dA ρ hp := by
  apply List.ext_getElem?
  intro k
  simp only [em_w, List.getElem?_mapIdx]
  cases hx : hp[k]? with
  | none => rfl
  | some x =>
    have hk : k < hp.length := (List.getElem?_eq_some_iff.mp hx).1
    simp only [Option.map_some]
    rw [hr k (by omega), em_okE_e hr (em_okH_get h hx)]
theorem em_w_app {σ ρ : Nat → Nat} {dA : Nat → ClassId} {hp : em_H} {x : va_E} : em_w σ dA ρ (hp ++ [x]) = em_w σ dA ρ hp ++ [(ρ hp.length, em_e σ dA ρ x)] := by
  simp [em_w, List.mapIdx_append]
section EME
variable {p : Program} {l : Launch} {e : Env} {R : Room} {s : State} {m : MethodId} {args : Array Value} {below : List Frame} {meth : Method} {c : Code} {D : va_G} {cl : List vw_C} {dA : Nat → ClassId} {σ : Nat → Nat} {A : Nat → Prop} {nL : Nat} {cnt : Nat → Nat × Nat} {Pr : (Nat → Nat) → Prop} {Z : State → Prop}
variable {cc : ByteArray} {Q : em_Q} {own : String}
theorem em_LH_ok {n : Nat} {σ ρ ρ' : Nat → Nat} {arr : Array Slot} {nL : Nat} {ls : em_L} (hr : ∀ k, k < n → ρ' k = ρ k) (h : em_okl n ls = true) (hl : em_LH σ ρ arr nL ls) : em_LH σ ρ' arr nL ls := by
  refine ⟨hl.1, ?_⟩
  rw [em_okl_v hr h]
  exact hl.2
/-- Object.<init> -/
def o_oinit (n : Nat) : em_Op := fun _ K ls st hp => match st with | .ref _ :: r => bif Nat.ble (em_cat r) 8 then K n ls r hp else False | _ => False
theorem s_oinit (C : em_Cx p s m args c D cl A nL (em_tys dA) cc own) {pc n index : Nat} (hwl : Cond.methodLink own index Lib.objectInit ∈ em_tb) (hwi : Cond.instanceMethod Lib.objectInit ∈ em_tb) (hwc : Cond.code Lib.objectInit ⟨#[0xb1]⟩ 1 none ∈ em_tb) (hR : 1 ≤ R.frames ∧ 20 ≤ R.locals) (hd : decode cc pc = .ok (.invokespecial index, 3)) (hn : pc + 3 = n) (hc : cnt n = cnt pc) : em_Snd p l e R s m args below meth c D cl dA σ A nL cnt Pr Z Q pc (o_oinit n) := by
  intro k hk ls st hp h ρ arr H locs hr hl hP hD hS
  subst hn
  unfold o_oinit at h
  split at h
  · rename_i a r
    cases hb8 : Nat.ble (em_cat r) 8 with
    | false => rw [hb8] at h; exact h.elim
    | true =>
      rw [hb8] at h
      have h8 := Nat.le_of_ble_eq_true hb8
      have h9 := hk _ _ _ _ h ρ arr H locs hr hl hP hD hS
      rw [hc] at h9
      exact W.objInit (g := F0 m pc arr (.ref (ρ a) :: r.map (em_v σ ρ))) (a := ρ a) (rest := r.map (em_v σ ρ)) C.1 C.2.1 C.2.2.2.1 (C.2.2.2.2.1 _ hwl) (C.2.2.2.2.1 _ hwi) (C.2.2.2.2.1 _ hwc) rfl (hl.2.1.trans C.2.2.1.symm) rfl hd hR.1 (by rw [em_cat_eq]; show 2 * 0 + _ + 12 ≤ _; omega) h9
  · exact h.elim
/-- what a new object's fields hold -/
def em_pln : Value → Bool
  | .int _ => true
  | .long _ => true
  | .null => true
  | _ => false
def o_new (N0 ci : Nat) (fs : List Value) (n : Nat) : em_Op := fun _ K ls st hp => ∃ n0, hp.length = n0 ∧ N0 ≤ n0 ∧ (em_okl n0 ls && em_oks n0 st) = true ∧ em_okH n0 hp ∧ em_ap hp [.inr (ci, fs)] (fun hp' => K n ls (.ref n0 :: st) hp')
theorem s_new (C : em_Cx p s m args c D cl A nL (em_tys dA) cc own) {N0 : Nat} (hPr : ∀ ρ ρ' : Nat → Nat, Pr ρ → (∀ k, k < N0 → ρ' k = ρ k) → Pr ρ') {pc n index ci N : Nat} {Cn : String} {T : u_T} {fs : List Value} (hcl : em_Cl cl ci Cn T N) (hwk : Cond.classLink own index Cn ∈ em_tb) (hwi : Cond.instantiable Cn N ∈ em_tb) (hwn : Cond.initialized Cn ∈ em_tb) (hfs : ∀ j, j < N → (parseFieldDescriptor (T j).2.2.1).map defaultValue = some (vp_V fs j)) (hnr : fs.all em_pln = true) (hd : decode cc pc = .ok (.new index, 3)) (hn : pc + 3 = n) (hc : cnt n = ((cnt pc).1 + 1, (cnt pc).2 + N)) (hcr : (cnt pc).1 + 1 ≤ R.cells ∧ (cnt pc).2 + N ≤ R.slots) : em_Snd p l e R s m args below meth c D cl dA σ A nL cnt Pr Z Q pc (o_new N0 ci fs n) := by
  intro k hk ls st hp h ρ arr H locs hr hl hP hD hS
  subst hn
  obtain ⟨n0, hlen, hN0, hok, hokH, h⟩ := h
  have hok := Bool.and_eq_true_iff.mp hok
  rw [em_ap_eq] at h
  obtain ⟨ty, hty⟩ := hcl.2.2.1
  have hfs2 : ∀ j, j < N → defaultValue (ty j) = vp_V fs j := fun j hj => by
    have := hfs j hj
    rw [hty j hj] at this
    exact Option.some.inj this
  have hv : ∀ ρ' : Nat → Nat, em_e σ dA ρ' (.inr (ci, fs)) = .inr (ci, fs) := fun ρ' => by
    show Sum.inr (ci, _) = Sum.inr (ci, _)
    congr 2
    have h0 : ∀ g : List Value, g.all em_pln = true → g.map (em_v σ ρ') = g := by
      intro g
      induction g with
      | nil => intro _; rfl
      | cons v r ih =>
        intro hg
        rw [List.all_cons, Bool.and_eq_true] at hg
        rw [List.map_cons, ih hg.2]
        congr 1
        cases v with
        | ref a => exact absurd hg.1 Bool.false_ne_true
        | retAddr a => exact absurd hg.1 Bool.false_ne_true
        | _ => rfl
    exact h0 fs hnr
  refine va_new C.1 C.2.1 C.2.2.2.2.1 hcl.2.1 ty hty C.2.2.2.1 (C.2.2.2.2.1 _ hwk) (C.2.2.2.2.1 _ hwi) (C.2.2.2.2.1 _ hwn) C.2.2.2.2.2.1 hP hD hS C.2.2.2.2.2.2 hcl.1 hfs2 hcr.1 hcr.2 hd (fun q H1 hP1 hD1 hS1 => ?_)
  obtain ⟨ρ', hρ'⟩ : ∃ ρ' : Nat → Nat, ρ' = fun k => if k = n0 then q else ρ k := ⟨_, rfl⟩
  have hρ0 : ∀ k, k < n0 → ρ' k = ρ k := fun k hk => by rw [hρ']; exact if_neg (by omega)
  have hρ1 : ρ' n0 = q := by rw [hρ']; exact if_pos rfl
  have ew : em_w σ dA ρ' (hp ++ [.inr (ci, fs)]) = em_w σ dA ρ hp ++ [(q, .inr (ci, fs))] := by
    rw [em_w_app, em_w_ok hρ0 (by omega) hokH, hlen, hρ1, hv]
  have h9 := hk _ _ _ _ h ρ' arr H1 locs (hPr ρ ρ' hr (fun k hk => hρ0 k (by omega))) (em_LH_ok hρ0 hok.1 hl) (by rw [ew]; exact hP1) (by rw [ew]; exact hD1) hS1
  rw [hc, List.map_cons, em_oks_v hρ0 hok.2] at h9
  rw [show em_v σ ρ' (.ref n0) = .ref q by show Value.ref (ρ' n0) = _; rw [hρ1]] at h9
  exact h9
/-- the type that an array of a primitive kind has -/
def em_at9 : Nat → ArrayType
  | 0 => .int
  | 1 => .long
  | 2 => .byte
  | _ => .boolean
def em_c0 (tg len : Nat) : va_E := if tg = 1 then .inl (1, len, .inr (.inl (fun _ => 0))) else .inl (tg, len, .inl (fun _ => 0))
theorem em_c0_e {σ ρ : Nat → Nat} {dA : Nat → ClassId} {tg len : Nat} : em_e σ dA ρ (em_c0 tg len) = if tg = 1 then .inl (dA 1, len, .inr (.inl (fun _ => 0))) else .inl (dA tg, len, .inl (fun _ => 0)) := by
  unfold em_c0
  by_cases h : tg = 1
  · rw [if_pos h, if_pos h]; rfl
  · rw [if_neg h, if_neg h]; rfl
def em_c0K (tg len : Nat) (k : va_E → Prop) : Prop := bif Nat.beq tg 1 then k (.inl (1, len, .inr (.inl (fun _ => 0)))) else k (.inl (tg, len, .inl (fun _ => 0)))
theorem em_c0K_eq (tg len : Nat) (k : va_E → Prop) : em_c0K tg len k = k (em_c0 tg len) := by
  unfold em_c0K em_c0
  by_cases h : tg = 1
  · subst h; rfl
  · rw [if_neg h]
    cases hb : Nat.beq tg 1 with
    | true => exact absurd (Nat.eq_of_beq_eq_true hb) h
    | false => rfl
def o_newa (N0 tg len n : Nat) : em_Op := fun _ K ls st hp => match st with | .int z :: r => nI len = z ∧ ∃ n0, hp.length = n0 ∧ N0 ≤ n0 ∧ (em_okl n0 ls && em_oks n0 r) = true ∧ em_okH n0 hp ∧ em_c0K tg len (fun x => em_ap hp [x] (fun hp' => K n ls (.ref n0 :: r) hp')) | _ => False
theorem em_dA_eq {D : va_G} {cl : List vw_C} {tys : List (ClassId × FieldType)} {s : State} {t : Nat} {c0 cA : ClassId} {ty : FieldType} (hp : ∀ q, ty ≠ .object q) (h0 : tys[t]? = some (c0, ty)) (h : va_K D cl (tys ++ [(cA, ty)]) s) : cA = c0 := by
  have hl : t < tys.length := (List.getElem?_eq_some_iff.mp h0).1
  have h1 := (h.2 t _ (by rw [List.getElem?_append_left hl]; exact h0)).2
  have h2 := (h.2 tys.length _ (by rw [List.getElem?_append_right (Nat.le_refl _), Nat.sub_self]; rfl)).2
  cases ty with
  | object q => exact absurd rfl (hp q)
  | _ =>
    have h1 : s.vm.findClass _ = some c0 := h1
    have h2 : s.vm.findClass _ = some cA := h2
    rw [h1] at h2
    exact (Option.some.inj h2).symm
theorem s_newa (C : em_Cx p s m args c D cl A nL (em_tys dA) cc own) {N0 : Nat} (hPr : ∀ ρ ρ' : Nat → Nat, Pr ρ → (∀ k, k < N0 → ρ' k = ρ k) → Pr ρ') {pc n tg len : Nat} {at9 : ArrayType} (htg : tg < 4 ∧ em_at9 tg = at9) (hlen : len < 1000) (hw : Cond.arrayClass (newarray.typeOf at9) ∈ em_tb) (hd : decode cc pc = .ok (.newarray at9, 2)) (hn : pc + 2 = n) (hc : cnt n = ((cnt pc).1 + 1, (cnt pc).2 + len)) (hcr : (cnt pc).1 + 1 ≤ R.cells ∧ (cnt pc).2 + len ≤ R.slots) : em_Snd p l e R s m args below meth c D cl dA σ A nL cnt Pr Z Q pc (o_newa N0 tg len n) := by
  intro k hk ls st hp h ρ arr H locs hr hl hP hD hS
  subst hn
  unfold o_newa at h
  split at h
  · rename_i z r
    obtain ⟨hz, n0, hlen0, hN0, hok, hokH, h⟩ := h
    subst hz
    have hok := Bool.and_eq_true_iff.mp hok
    rw [em_c0K_eq, em_ap_eq] at h
    have go : ∀ (q : Nat) (H1 : Heap), va_P D cl (em_w σ dA ρ hp ++ [(q, em_e σ dA ρ (em_c0 tg len))]) H1 → va_D A (em_w σ dA ρ hp ++ [(q, em_e σ dA ρ (em_c0 tg len))]) → va_S A s.heap H1 locs → W p l e R s m args below meth c H1 locs ((cnt pc).1 + 1) ((cnt pc).2 + len) Z (F0 m (pc + 2) arr (.ref q :: r.map (em_v σ ρ))) := by
      intro q H1 hP1 hD1 hS1
      obtain ⟨ρ', hρ'⟩ : ∃ ρ' : Nat → Nat, ρ' = fun k => if k = n0 then q else ρ k := ⟨_, rfl⟩
      have hρ0 : ∀ k, k < n0 → ρ' k = ρ k := fun k hk => by rw [hρ']; exact if_neg (by omega)
      have hρ1 : ρ' n0 = q := by rw [hρ']; exact if_pos rfl
      have ew : em_w σ dA ρ' (hp ++ [em_c0 tg len]) = em_w σ dA ρ hp ++ [(q, em_e σ dA ρ (em_c0 tg len))] := by
        rw [em_w_app, em_w_ok hρ0 (by omega) hokH, hlen0, hρ1, em_c0_e, em_c0_e]
      have h9 := hk _ _ _ _ h ρ' arr H1 locs (hPr ρ ρ' hr (fun k hk => hρ0 k (by omega))) (em_LH_ok hρ0 hok.1 hl) (by rw [ew]; exact hP1) (by rw [ew]; exact hD1) hS1
      rw [hc, List.map_cons, em_oks_v hρ0 hok.2] at h9
      rw [show em_v σ ρ' (.ref n0) = .ref q by show Value.ref (ρ' n0) = _; rw [hρ1]] at h9
      exact h9
    have hb4 : len * 8 ≤ 536870912 := by omega
    have hnn : ¬ nI len < 0 := nI_pos (by omega)
    have hcl := nI_clamp (n := len) (by omega)
    obtain ⟨htg, hat⟩ := htg
    have h4 : tg = 0 ∨ tg = 1 ∨ tg = 2 ∨ tg = 3 := by omega
    rcases h4 with rfl | rfl | rfl | rfl
    · subst hat
      refine va_newa (atype := .int) (ty := .int) (a0 := (len, .inl (fun _ => 0))) C.1 C.2.1 (C.2.2.2.2.1 _ hw) rfl C.2.2.2.2.2.1 hP hD hS C.2.2.2.2.2.2 (fun _ => rfl) hnn hcl (by show len * 4 ≤ _; omega) hcr.1 hcr.2 hd (fun q cA H1 hK1 hP1 hD1 hS1 => ?_)
      have := em_dA_eq (t := 0) (c0 := dA 0) (fun q => by simp) rfl hK1
      subst this
      exact go q H1 hP1 hD1 hS1
    · subst hat
      refine va_newa (atype := .long) (ty := .long) (a0 := (len, .inr (.inl (fun _ => 0)))) C.1 C.2.1 (C.2.2.2.2.1 _ hw) rfl C.2.2.2.2.2.1 hP hD hS C.2.2.2.2.2.2 (fun _ => rfl) hnn hcl (by show len * 8 ≤ _; omega) hcr.1 hcr.2 hd (fun q cA H1 hK1 hP1 hD1 hS1 => ?_)
      have := em_dA_eq (t := 1) (c0 := dA 1) (fun q => by simp) rfl hK1
      subst this
      exact go q H1 hP1 hD1 hS1
    · subst hat
      refine va_newa (atype := .byte) (ty := .byte) (a0 := (len, .inl (fun _ => 0))) C.1 C.2.1 (C.2.2.2.2.1 _ hw) rfl C.2.2.2.2.2.1 hP hD hS C.2.2.2.2.2.2 (fun _ => rfl) hnn hcl (by show len * 1 ≤ _; omega) hcr.1 hcr.2 hd (fun q cA H1 hK1 hP1 hD1 hS1 => ?_)
      have := em_dA_eq (t := 2) (c0 := dA 2) (fun q => by simp) rfl hK1
      subst this
      exact go q H1 hP1 hD1 hS1
    · subst hat
      refine va_newa (atype := .boolean) (ty := .boolean) (a0 := (len, .inl (fun _ => 0))) C.1 C.2.1 (C.2.2.2.2.1 _ hw) rfl C.2.2.2.2.2.1 hP hD hS C.2.2.2.2.2.2 (fun _ => rfl) hnn hcl (by show len * 1 ≤ _; omega) hcr.1 hcr.2 hd (fun q cA H1 hK1 hP1 hD1 hS1 => ?_)
      have := em_dA_eq (t := 3) (c0 := dA 3) (fun q => by simp) rfl hK1
      subst this
      exact go q H1 hP1 hD1 hS1
  · exact h.elim
def o_newq (N0 len n : Nat) : em_Op := fun _ K ls st hp => match st with | .int z :: r => nI len = z ∧ ∃ n0, hp.length = n0 ∧ N0 ≤ n0 ∧ (em_okl n0 ls && em_oks n0 r) = true ∧ em_okH n0 hp ∧ em_ap hp [.inl (4, len, .inr (.inr (.inr (.inr (fun _ => none)))))] (fun hp' => K n ls (.ref n0 :: r) hp') | _ => False
theorem s_newq (C : em_Cx p s m args c D cl A nL (em_tys dA) cc own) (hF : em_F σ A s s.heap) {N0 : Nat} (hPr : ∀ ρ ρ' : Nat → Nat, Pr ρ → (∀ k, k < N0 → ρ' k = ρ k) → Pr ρ') {pc n index len : Nat} (hlen : len < 1000) (hw : Cond.classLink own index "WedApart$Town" ∈ em_tb) (hd : decode cc pc = .ok (.anewarray index, 3)) (hn : pc + 3 = n) (hc : cnt n = ((cnt pc).1 + 1, (cnt pc).2 + len)) (hcr : (cnt pc).1 + 1 ≤ R.cells ∧ (cnt pc).2 + len ≤ R.slots) : em_Snd p l e R s m args below meth c D cl dA σ A nL cnt Pr Z Q pc (o_newq N0 len n) := by
  intro k hk ls st hp h ρ arr H locs hr hl hP hD hS
  subst hn
  unfold o_newq at h
  split at h
  · rename_i z r
    obtain ⟨hz, n0, hlen0, hN0, hok, hokH, h⟩ := h
    subst hz
    have hok := Bool.and_eq_true_iff.mp hok
    rw [em_ap_eq] at h
    refine va_newq C.1 C.2.1 C.2.2.2.1 (C.2.2.2.2.1 _ hw) hF.2.1 C.2.2.2.2.2.1 hP hD hS C.2.2.2.2.2.2 (nI_pos (by omega)) (nI_clamp (n := len) (by omega)) (by omega) hcr.1 hcr.2 hd (fun q cA H1 hK1 hP1 hD1 hS1 => ?_)
    have hcA : cA = dA 4 := by
      have h1 := (hK1.2 4 (dA 4, .object "WedApart$Town") rfl).2
      have h2 := (hK1.2 5 (cA, .object "WedApart$Town") rfl).2
      obtain ⟨k1, c1, a1, a2, a3, a4⟩ := h1
      obtain ⟨k2, c2, b1, b2, b3, b4⟩ := h2
      rw [a4] at b4
      exact (Option.some.inj b4).symm
    subst hcA
    obtain ⟨ρ', hρ'⟩ : ∃ ρ' : Nat → Nat, ρ' = fun k => if k = n0 then q else ρ k := ⟨_, rfl⟩
    have hρ0 : ∀ k, k < n0 → ρ' k = ρ k := fun k hk => by rw [hρ']; exact if_neg (by omega)
    have hρ1 : ρ' n0 = q := by rw [hρ']; exact if_pos rfl
    have ew : em_w σ dA ρ' (hp ++ [.inl (4, len, .inr (.inr (.inr (.inr (fun _ => none)))))]) = em_w σ dA ρ hp ++ [(q, .inl (dA 4, len, .inr (.inr (.inr (.inr (fun _ => none))))))] := by
      rw [em_w_app, em_w_ok hρ0 (by omega) hokH, hlen0, hρ1]; rfl
    have h9 := hk _ _ _ _ h ρ' arr H1 locs (hPr ρ ρ' hr (fun k hk => hρ0 k (by omega))) (em_LH_ok hρ0 hok.1 hl) (by rw [ew]; exact hP1) (by rw [ew]; exact hD1) hS1
    rw [hc, List.map_cons, em_oks_v hρ0 hok.2] at h9
    rw [show em_v σ ρ' (.ref n0) = .ref q by show Value.ref (ρ' n0) = _; rw [hρ1]] at h9
    exact h9
  · exact h.elim
end EME
/-- a method that makes cells: its contract; of the numbers below N0 it says that they stay -/
def em_CA (l : Launch) (D : va_G) (cl : List vw_C) (dA : Nat → ClassId) (σ : Nat → Nat) (F : em_FT) (N0 : Nat) (y : MethodName) (bytes : ByteArray) (maxL : Nat) (ret : Option FieldType) (rm : Room) (sp : em_Sp) (mc ms : Nat) : Prop :=
  ∀ (ρ : Nat → Nat) (hp : em_H) (sz : Nat) (av : List Value) (Q : em_Q), sp av hp Q → Met l y (Cond.code y bytes maxL ret :: em_tb) rm (va_Pc (av.map (em_v σ ρ)) (em_B F D cl dA σ ρ hp sz)) (em_Qc D cl dA σ (fun ρ' => ∀ k, k < N0 → ρ' k = ρ k) Q (va_A (em_w σ dA ρ hp) sz)) mc ms (va_A (em_w σ dA ρ hp) sz)
theorem em_CA_of {l : Launch} {D : va_G} {cl : List vw_C} {dA : Nat → ClassId} {σ : Nat → Nat} {F : em_FT} {N0 : Nat} {y : MethodName} {bytes : ByteArray} {maxL : Nat} {ret : Option FieldType} {rm : Room} {sp : em_Sp} {T : List (Nat × em_Op)} {cnt : Nat → Nat × Nat} {mc ms : Nat} (h0 : cnt 0 = (0, 0)) (hFok : em_Fok F) (hy : plainName y.cls = true)
    (hT : ∀ (p : Program) (e : Env) (s : State) (m : MethodId) (args : Array Value) (below : List Frame) (meth : Method) (c : Code) (A : Nat → Prop) (ρ : Nat → Nat) (Q : em_Q), em_Cx p s m args c D cl A maxL (em_tys dA) bytes y.cls → em_Fok F → F A s s.heap → meth.sig.returnType = ret → meth.locks = false → meth.name = y.name →
      ∀ q ∈ T, em_Snd p l e rm s m args below meth c D cl dA σ A maxL cnt (fun ρ' => ∀ k, k < N0 → ρ' k = ρ k) (MQ below (em_Qc D cl dA σ (fun ρ' => ∀ k, k < N0 → ρ' k = ρ k) Q A) args s mc ms A) Q q.1 q.2)
    (hM : em_Me T maxL sp) : em_CA l D cl dA σ F N0 y bytes maxL ret rm sp mc ms := by
  intro ρ hp sz av Q hsp
  refine Met.ofW (cc := bytes) (maxL := maxL) (ret := ret) hy rfl ?_
  intro p e s m args below meth c s₁ B hml hv
  obtain ⟨rfl, hsz, hP, hK, hD0, hF⟩ := hv
  have hts : ∀ w ∈ em_tb, w.before ((av.map (em_v σ ρ)).toArray) s = true := fun w hw => atoms_spec (ws := Cond.code y bytes maxL ret :: em_tb) B.pre w (List.mem_cons_of_mem _ hw)
  have hown : s.vm.findClass y.cls = some m.cls := findClass_of_methodNamed B.named
  subst hsz
  have hD := hD0.self (sz := s.heap.size)
  have hA : ∀ q : Nat, s.heap.size ≤ q → va_A (em_w σ dA ρ hp) s.heap.size q := fun q h => Or.inr h
  have hC : em_Cx p s m ((av.map (em_v σ ρ)).toArray) c D cl (va_A (em_w σ dA ρ hp) s.heap.size) maxL (em_tys dA) bytes y.cls := ⟨B.exec, B.bytes, hml, hown, hts, hK, hA⟩
  have hS := hT p e s m _ below meth c (va_A (em_w σ dA ρ hp) s.heap.size) ρ Q hC hFok hF B.returns B.notSynchronized (name_of_methodNamed B.named B.method).1
  obtain ⟨hlen, hK0⟩ := hM Q (em_Ok p l e rm s m ((av.map (em_v σ ρ)).toArray) below meth c D cl dA σ (va_A (em_w σ dA ρ hp) s.heap.size) maxL cnt (fun ρ' => ∀ k, k < N0 → ρ' k = ρ k) (MQ below (em_Qc D cl dA σ (fun ρ' => ∀ k, k < N0 → ρ' k = ρ k) Q (va_A (em_w σ dA ρ hp) s.heap.size)) ((av.map (em_v σ ρ)).toArray) s mc ms (va_A (em_w σ dA ρ hp) s.heap.size)))
    (fun a b pc ls st hp2 h => em_wp_snd hS _ (fun q hq => List.mem_of_mem_drop (List.mem_of_mem_take hq)) pc ls st hp2 h) (fun pc ls ls' st hp2 h k => em_Ok_le h k) av hp hsp
  have hl := lv_entry (av.map (em_v σ ρ)) (n := maxL) (by rw [em_sl_len]; exact hlen)
  rw [lg_entry_eq]
  generalize (lg_sl (av.map (em_v σ ρ)) ++ List.replicate (maxL - (lg_sl (av.map (em_v σ ρ))).length) Slot.unset).toArray = arr at hl ⊢
  have hLH : em_LH σ ρ arr maxL (em_pad maxL (em_args av)) := by
    refine ⟨em_pad_len _ _, hl.1, hl.2.1, fun q hq => ?_⟩
    obtain ⟨i, v, h1, rfl⟩ := em_al_to _ 0 q hq
    exact hl.2.2 _ (em_args_mem av 0 i v (em_pad_nth _ _ _ _ h1))
  have := hK0 ρ arr s.heap [] (fun _ _ => rfl) hLH hP hD va_S.rf
  rw [h0] at this
  exact this
