
/-- the classes of the arrays, by tag -/
abbrev em_tys (dA : Nat → ClassId) : List (ClassId × FieldType) := [(dA 0, .int), (dA 1, .long), (dA 2, .byte), (dA 3, .boolean), (dA 4, .object "WedApart$Town")]
/-- a class of the world: its place, its fields, the words that lay them out -/
def em_Cl (cl : List vw_C) (ci : Nat) (Cn : String) (T : u_T) (N : Nat) : Prop := cl[ci]? = some (Cn, T, N) ∧ (∀ w ∈ u_ws Cn T N, w ∈ em_tb) ∧ (∃ ty0 : Nat → FieldType, ∀ k, k < N → parseFieldDescriptor (T k).2.2.1 = some (ty0 k)) ∧ ∀ a, a < N → ∀ b, b < N → a ≠ b → (T a).2.1 ≠ (T b).2.1
section EMB
variable {p : Program} {l : Launch} {e : Env} {R : Room} {s : State} {m : MethodId} {args : Array Value} {below : List Frame} {meth : Method} {c : Code} {D : va_G} {cl : List vw_C} {dA : Nat → ClassId} {σ : Nat → Nat} {A : Nat → Prop} {nL : Nat} {cnt : Nat → Nat × Nat} {Pr : (Nat → Nat) → Prop} {Z : State → Prop}
variable {cc : ByteArray} {Q : em_Q} {own : String}

def o_getf (ci k : Nat) (n : Nat) : em_Op := fun _ K ls st hp => match st with | .ref a :: r => (match em_hn hp a with | some (.inr (c, fs)) => (match em_fn fs k with | some v => bif Nat.beq c ci then K n ls (v :: r) hp else False | none => False) | _ => False) | _ => False
theorem s_getf (C : em_Cx p s m args c D cl A nL (em_tys dA) cc own) {pc n : Nat} {Cn ref : String} {T : u_T} {N ci fk index : Nat} (hd : decode cc pc = .ok (.getfield index, 3)) (hn : pc + 3 = n) (hc : cnt n = cnt pc) (hcl : em_Cl cl ci Cn T N) (hk9 : fk < N) (hw : Cond.fieldLink own index ref (T fk).2.1 (T fk).2.2.1 ∈ em_tb) (href : (T fk).1 = ref) : em_Snd p l e R s m args below meth c D cl dA σ A nL cnt Pr Z Q pc (o_getf ci fk n) := by
  intro k hk ls st hp h ρ arr H locs hr hl hP hD hS
  subst hn
  unfold o_getf at h
  split at h
  · rename_i a r
    split at h
    · rename_i c0 fs he
      split at h
      · rename_i v hv
        cases hb : Nat.beq c0 ci with
        | false => rw [hb] at h; exact h.elim
        | true =>
          rw [hb] at h
          have hc0 := Nat.eq_of_beq_eq_true hb
          subst hc0
          have h9 := hk _ _ _ _ h ρ arr H locs hr hl hP hD hS
          rw [hc] at h9
          rw [em_fn_eq] at hv
          exact va_get C.1 C.2.1 C.2.2.2.2.1 hcl.2.1 C.2.2.2.1 C.2.2.2.2.2.1 hP a (em_w_get he) hcl.1 fk hk9 (C.2.2.2.2.1 _ hw) (fun x hx => by rw [← href]; exact hx) (by rw [List.getElem?_map, hv]; rfl) hd h9
      · exact h.elim
    · exact h.elim
  · exact h.elim
def o_putI (ci k : Nat) (n : Nat) : em_Op := fun _ K ls st hp => match st with | .int x :: .ref a :: r => (match em_hn hp a with | some (.inr (c, fs)) => (match em_fn fs k with | some _ => bif Nat.beq c ci then em_fs fs k (.int x) (fun fs' => em_hs hp a (.inr (c, fs')) (fun hp' => K n ls r hp')) else False | none => False) | _ => False) | _ => False
theorem s_putI (C : em_Cx p s m args c D cl A nL (em_tys dA) cc own) {pc n : Nat} {Cn ref : String} {T : u_T} {N ci fk index : Nat} (hd : decode cc pc = .ok (.putfield index, 3)) (hn : pc + 3 = n) (hc : cnt n = cnt pc) (hcl : em_Cl cl ci Cn T N) (hk9 : fk < N) (hw : Cond.fieldLink own index ref (T fk).2.1 (T fk).2.2.1 ∈ em_tb) (href : (T fk).1 = ref) (hfin : (T fk).2.2.2 = false) (hty : parseFieldDescriptor (T fk).2.2.1 = some .int) : em_Snd p l e R s m args below meth c D cl dA σ A nL cnt Pr Z Q pc (o_putI ci fk n) := by
  intro k hk ls st hp h ρ arr H locs hr hl hP hD hS
  subst hn
  unfold o_putI at h
  split at h
  · rename_i x a r
    split at h
    · rename_i c0 fs he
      split at h
      · rename_i v hv
        cases hb : Nat.beq c0 ci with
        | false => rw [hb] at h; exact h.elim
        | true =>
          rw [hb] at h
          have hc0 := Nat.eq_of_beq_eq_true hb
          subst hc0
          have h8 := h
          rw [em_fs_eq, em_hs_eq] at h8
          rw [em_fn_eq] at hv
          obtain ⟨ty0, hty0⟩ := hcl.2.2.1
          refine va_put C.1 C.2.1 C.2.2.2.2.1 hcl.2.1 ty0 hty0 hcl.2.2.2 C.2.2.2.1 C.2.2.2.2.2.1 hP hD hS a (em_w_get he) hcl.1 fk hk9 (C.2.2.2.2.1 _ hw) (fun x hx => by rw [← href]; exact hx) hfin hty (rfl) (rfl) (by rw [List.length_map]; exact (List.getElem?_eq_some_iff.mp hv).1) hd (fun H1 locs1 hP1 hD1 hS1 => ?_)
          have e9 : (em_w σ dA ρ hp).set a (ρ a, .inr (c0, (fs.map (em_v σ ρ)).set fk (em_v σ ρ (.int x)))) = em_w σ dA ρ (hp.set a (.inr (c0, fs.set fk (.int x)))) := by
            rw [← List.map_set]
            exact em_w_set (x := .inr (c0, fs.set fk (.int x)))
          have h9 := hk _ _ _ _ h8 ρ arr H1 locs1 hr hl (by rw [← e9]; exact hP1) (by rw [← e9]; exact hD1) hS1
          rw [hc] at h9
          exact h9
      · exact h.elim
    · exact h.elim
  · exact h.elim
theorem s_putIF (C : em_Cx p s m args c D cl A nL (em_tys dA) cc own) {pc n : Nat} {Cn ref : String} {T : u_T} {N ci fk index : Nat} (hd : decode cc pc = .ok (.putfield index, 3)) (hn : pc + 3 = n) (hc : cnt n = cnt pc) (hcl : em_Cl cl ci Cn T N) (hk9 : fk < N) (hw : Cond.fieldLink own index ref (T fk).2.1 (T fk).2.2.1 ∈ em_tb) (href : (T fk).1 = ref) (hfin : (T fk).2.2.2 = true) (hin2 : meth.name = "<init>") (hdecl : (T fk).1 = own) (hty : parseFieldDescriptor (T fk).2.2.1 = some .int) : em_Snd p l e R s m args below meth c D cl dA σ A nL cnt Pr Z Q pc (o_putI ci fk n) := by
  intro k hk ls st hp h ρ arr H locs hr hl hP hD hS
  subst hn
  unfold o_putI at h
  split at h
  · rename_i x a r
    split at h
    · rename_i c0 fs he
      split at h
      · rename_i v hv
        cases hb : Nat.beq c0 ci with
        | false => rw [hb] at h; exact h.elim
        | true =>
          rw [hb] at h
          have hc0 := Nat.eq_of_beq_eq_true hb
          subst hc0
          have h8 := h
          rw [em_fs_eq, em_hs_eq] at h8
          rw [em_fn_eq] at hv
          obtain ⟨ty0, hty0⟩ := hcl.2.2.1
          refine va_putF C.1 C.2.1 C.2.2.2.2.1 hcl.2.1 ty0 hty0 hcl.2.2.2 C.2.2.2.1 C.2.2.2.2.2.1 hP hD hS a (em_w_get he) hcl.1 fk hk9 (C.2.2.2.2.1 _ hw) (fun x hx => by rw [← href]; exact hx) hfin hin2 hdecl hty (rfl) (rfl) (by rw [List.length_map]; exact (List.getElem?_eq_some_iff.mp hv).1) hd (fun H1 locs1 hP1 hD1 hS1 => ?_)
          have e9 : (em_w σ dA ρ hp).set a (ρ a, .inr (c0, (fs.map (em_v σ ρ)).set fk (em_v σ ρ (.int x)))) = em_w σ dA ρ (hp.set a (.inr (c0, fs.set fk (.int x)))) := by
            rw [← List.map_set]
            exact em_w_set (x := .inr (c0, fs.set fk (.int x)))
          have h9 := hk _ _ _ _ h8 ρ arr H1 locs1 hr hl (by rw [← e9]; exact hP1) (by rw [← e9]; exact hD1) hS1
          rw [hc] at h9
          exact h9
      · exact h.elim
    · exact h.elim
  · exact h.elim
def o_putL (ci k : Nat) (n : Nat) : em_Op := fun _ K ls st hp => match st with | .long x :: .ref a :: r => (match em_hn hp a with | some (.inr (c, fs)) => (match em_fn fs k with | some _ => bif Nat.beq c ci then em_fs fs k (.long x) (fun fs' => em_hs hp a (.inr (c, fs')) (fun hp' => K n ls r hp')) else False | none => False) | _ => False) | _ => False
theorem s_putL (C : em_Cx p s m args c D cl A nL (em_tys dA) cc own) {pc n : Nat} {Cn ref : String} {T : u_T} {N ci fk index : Nat} (hd : decode cc pc = .ok (.putfield index, 3)) (hn : pc + 3 = n) (hc : cnt n = cnt pc) (hcl : em_Cl cl ci Cn T N) (hk9 : fk < N) (hw : Cond.fieldLink own index ref (T fk).2.1 (T fk).2.2.1 ∈ em_tb) (href : (T fk).1 = ref) (hfin : (T fk).2.2.2 = false) (hty : parseFieldDescriptor (T fk).2.2.1 = some .long) : em_Snd p l e R s m args below meth c D cl dA σ A nL cnt Pr Z Q pc (o_putL ci fk n) := by
  intro k hk ls st hp h ρ arr H locs hr hl hP hD hS
  subst hn
  unfold o_putL at h
  split at h
  · rename_i x a r
    split at h
    · rename_i c0 fs he
      split at h
      · rename_i v hv
        cases hb : Nat.beq c0 ci with
        | false => rw [hb] at h; exact h.elim
        | true =>
          rw [hb] at h
          have hc0 := Nat.eq_of_beq_eq_true hb
          subst hc0
          have h8 := h
          rw [em_fs_eq, em_hs_eq] at h8
          rw [em_fn_eq] at hv
          obtain ⟨ty0, hty0⟩ := hcl.2.2.1
          refine va_put C.1 C.2.1 C.2.2.2.2.1 hcl.2.1 ty0 hty0 hcl.2.2.2 C.2.2.2.1 C.2.2.2.2.2.1 hP hD hS a (em_w_get he) hcl.1 fk hk9 (C.2.2.2.2.1 _ hw) (fun x hx => by rw [← href]; exact hx) hfin hty (rfl) (rfl) (by rw [List.length_map]; exact (List.getElem?_eq_some_iff.mp hv).1) hd (fun H1 locs1 hP1 hD1 hS1 => ?_)
          have e9 : (em_w σ dA ρ hp).set a (ρ a, .inr (c0, (fs.map (em_v σ ρ)).set fk (em_v σ ρ (.long x)))) = em_w σ dA ρ (hp.set a (.inr (c0, fs.set fk (.long x)))) := by
            rw [← List.map_set]
            exact em_w_set (x := .inr (c0, fs.set fk (.long x)))
          have h9 := hk _ _ _ _ h8 ρ arr H1 locs1 hr hl (by rw [← e9]; exact hP1) (by rw [← e9]; exact hD1) hS1
          rw [hc] at h9
          exact h9
      · exact h.elim
    · exact h.elim
  · exact h.elim
theorem s_putLF (C : em_Cx p s m args c D cl A nL (em_tys dA) cc own) {pc n : Nat} {Cn ref : String} {T : u_T} {N ci fk index : Nat} (hd : decode cc pc = .ok (.putfield index, 3)) (hn : pc + 3 = n) (hc : cnt n = cnt pc) (hcl : em_Cl cl ci Cn T N) (hk9 : fk < N) (hw : Cond.fieldLink own index ref (T fk).2.1 (T fk).2.2.1 ∈ em_tb) (href : (T fk).1 = ref) (hfin : (T fk).2.2.2 = true) (hin2 : meth.name = "<init>") (hdecl : (T fk).1 = own) (hty : parseFieldDescriptor (T fk).2.2.1 = some .long) : em_Snd p l e R s m args below meth c D cl dA σ A nL cnt Pr Z Q pc (o_putL ci fk n) := by
  intro k hk ls st hp h ρ arr H locs hr hl hP hD hS
  subst hn
  unfold o_putL at h
  split at h
  · rename_i x a r
    split at h
    · rename_i c0 fs he
      split at h
      · rename_i v hv
        cases hb : Nat.beq c0 ci with
        | false => rw [hb] at h; exact h.elim
        | true =>
          rw [hb] at h
          have hc0 := Nat.eq_of_beq_eq_true hb
          subst hc0
          have h8 := h
          rw [em_fs_eq, em_hs_eq] at h8
          rw [em_fn_eq] at hv
          obtain ⟨ty0, hty0⟩ := hcl.2.2.1
          refine va_putF C.1 C.2.1 C.2.2.2.2.1 hcl.2.1 ty0 hty0 hcl.2.2.2 C.2.2.2.1 C.2.2.2.2.2.1 hP hD hS a (em_w_get he) hcl.1 fk hk9 (C.2.2.2.2.1 _ hw) (fun x hx => by rw [← href]; exact hx) hfin hin2 hdecl hty (rfl) (rfl) (by rw [List.length_map]; exact (List.getElem?_eq_some_iff.mp hv).1) hd (fun H1 locs1 hP1 hD1 hS1 => ?_)
          have e9 : (em_w σ dA ρ hp).set a (ρ a, .inr (c0, (fs.map (em_v σ ρ)).set fk (em_v σ ρ (.long x)))) = em_w σ dA ρ (hp.set a (.inr (c0, fs.set fk (.long x)))) := by
            rw [← List.map_set]
            exact em_w_set (x := .inr (c0, fs.set fk (.long x)))
          have h9 := hk _ _ _ _ h8 ρ arr H1 locs1 hr hl (by rw [← e9]; exact hP1) (by rw [← e9]; exact hD1) hS1
          rw [hc] at h9
          exact h9
      · exact h.elim
    · exact h.elim
  · exact h.elim
def o_putZ (ci k : Nat) (n : Nat) : em_Op := fun _ K ls st hp => match st with | .int x :: .ref a :: r => (match em_hn hp a with | some (.inr (c, fs)) => (match em_fn fs k with | some _ => bif Nat.beq c ci then (x = 0 ∨ x = 1) ∧ em_fs fs k (.int x) (fun fs' => em_hs hp a (.inr (c, fs')) (fun hp' => K n ls r hp')) else False | none => False) | _ => False) | _ => False
theorem s_putZ (C : em_Cx p s m args c D cl A nL (em_tys dA) cc own) {pc n : Nat} {Cn ref : String} {T : u_T} {N ci fk index : Nat} (hd : decode cc pc = .ok (.putfield index, 3)) (hn : pc + 3 = n) (hc : cnt n = cnt pc) (hcl : em_Cl cl ci Cn T N) (hk9 : fk < N) (hw : Cond.fieldLink own index ref (T fk).2.1 (T fk).2.2.1 ∈ em_tb) (href : (T fk).1 = ref) (hfin : (T fk).2.2.2 = false) (hty : parseFieldDescriptor (T fk).2.2.1 = some .boolean) : em_Snd p l e R s m args below meth c D cl dA σ A nL cnt Pr Z Q pc (o_putZ ci fk n) := by
  intro k hk ls st hp h ρ arr H locs hr hl hP hD hS
  subst hn
  unfold o_putZ at h
  split at h
  · rename_i x a r
    split at h
    · rename_i c0 fs he
      split at h
      · rename_i v hv
        cases hb : Nat.beq c0 ci with
        | false => rw [hb] at h; exact h.elim
        | true =>
          rw [hb] at h
          have hc0 := Nat.eq_of_beq_eq_true hb
          subst hc0
          have h8 := h.2
          rw [em_fs_eq, em_hs_eq] at h8
          rw [em_fn_eq] at hv
          obtain ⟨ty0, hty0⟩ := hcl.2.2.1
          refine va_put C.1 C.2.1 C.2.2.2.2.1 hcl.2.1 ty0 hty0 hcl.2.2.2 C.2.2.2.1 C.2.2.2.2.2.1 hP hD hS a (em_w_get he) hcl.1 fk hk9 (C.2.2.2.2.1 _ hw) (fun x hx => by rw [← href]; exact hx) hfin hty (by rcases h.1 with z | z <;> subst z <;> rfl) (by rcases h.1 with z | z <;> subst z <;> rfl) (by rw [List.length_map]; exact (List.getElem?_eq_some_iff.mp hv).1) hd (fun H1 locs1 hP1 hD1 hS1 => ?_)
          have e9 : (em_w σ dA ρ hp).set a (ρ a, .inr (c0, (fs.map (em_v σ ρ)).set fk (em_v σ ρ (.int x)))) = em_w σ dA ρ (hp.set a (.inr (c0, fs.set fk (.int x)))) := by
            rw [← List.map_set]
            exact em_w_set (x := .inr (c0, fs.set fk (.int x)))
          have h9 := hk _ _ _ _ h8 ρ arr H1 locs1 hr hl (by rw [← e9]; exact hP1) (by rw [← e9]; exact hD1) hS1
          rw [hc] at h9
          exact h9
      · exact h.elim
    · exact h.elim
  · exact h.elim
theorem s_putZF (C : em_Cx p s m args c D cl A nL (em_tys dA) cc own) {pc n : Nat} {Cn ref : String} {T : u_T} {N ci fk index : Nat} (hd : decode cc pc = .ok (.putfield index, 3)) (hn : pc + 3 = n) (hc : cnt n = cnt pc) (hcl : em_Cl cl ci Cn T N) (hk9 : fk < N) (hw : Cond.fieldLink own index ref (T fk).2.1 (T fk).2.2.1 ∈ em_tb) (href : (T fk).1 = ref) (hfin : (T fk).2.2.2 = true) (hin2 : meth.name = "<init>") (hdecl : (T fk).1 = own) (hty : parseFieldDescriptor (T fk).2.2.1 = some .boolean) : em_Snd p l e R s m args below meth c D cl dA σ A nL cnt Pr Z Q pc (o_putZ ci fk n) := by
  intro k hk ls st hp h ρ arr H locs hr hl hP hD hS
  subst hn
  unfold o_putZ at h
  split at h
  · rename_i x a r
    split at h
    · rename_i c0 fs he
      split at h
      · rename_i v hv
        cases hb : Nat.beq c0 ci with
        | false => rw [hb] at h; exact h.elim
        | true =>
          rw [hb] at h
          have hc0 := Nat.eq_of_beq_eq_true hb
          subst hc0
          have h8 := h.2
          rw [em_fs_eq, em_hs_eq] at h8
          rw [em_fn_eq] at hv
          obtain ⟨ty0, hty0⟩ := hcl.2.2.1
          refine va_putF C.1 C.2.1 C.2.2.2.2.1 hcl.2.1 ty0 hty0 hcl.2.2.2 C.2.2.2.1 C.2.2.2.2.2.1 hP hD hS a (em_w_get he) hcl.1 fk hk9 (C.2.2.2.2.1 _ hw) (fun x hx => by rw [← href]; exact hx) hfin hin2 hdecl hty (by rcases h.1 with z | z <;> subst z <;> rfl) (by rcases h.1 with z | z <;> subst z <;> rfl) (by rw [List.length_map]; exact (List.getElem?_eq_some_iff.mp hv).1) hd (fun H1 locs1 hP1 hD1 hS1 => ?_)
          have e9 : (em_w σ dA ρ hp).set a (ρ a, .inr (c0, (fs.map (em_v σ ρ)).set fk (em_v σ ρ (.int x)))) = em_w σ dA ρ (hp.set a (.inr (c0, fs.set fk (.int x)))) := by
            rw [← List.map_set]
            exact em_w_set (x := .inr (c0, fs.set fk (.int x)))
          have h9 := hk _ _ _ _ h8 ρ arr H1 locs1 hr hl (by rw [← e9]; exact hP1) (by rw [← e9]; exact hD1) hS1
          rw [hc] at h9
          exact h9
      · exact h.elim
    · exact h.elim
  · exact h.elim
def o_putR (ci k : Nat) (n : Nat) : em_Op := fun _ K ls st hp => match st with | .ref x :: .ref a :: r => (match em_hn hp a with | some (.inr (c, fs)) => (match em_fn fs k with | some _ => bif Nat.beq c ci then em_fs fs k (.ref x) (fun fs' => em_hs hp a (.inr (c, fs')) (fun hp' => K n ls r hp')) else False | none => False) | _ => False) | _ => False
theorem s_putR (C : em_Cx p s m args c D cl A nL (em_tys dA) cc own) {pc n : Nat} {Cn ref : String} {T : u_T} {N ci fk index : Nat} (hd : decode cc pc = .ok (.putfield index, 3)) (hn : pc + 3 = n) (hc : cnt n = cnt pc) (hcl : em_Cl cl ci Cn T N) (hk9 : fk < N) (hw : Cond.fieldLink own index ref (T fk).2.1 (T fk).2.2.1 ∈ em_tb) (href : (T fk).1 = ref) (hfin : (T fk).2.2.2 = false) {fty : FieldType} (hfty : (∃ q, fty = .object q) ∨ ∃ q, fty = .array q) (hty : parseFieldDescriptor (T fk).2.2.1 = some fty) : em_Snd p l e R s m args below meth c D cl dA σ A nL cnt Pr Z Q pc (o_putR ci fk n) := by
  intro k hk ls st hp h ρ arr H locs hr hl hP hD hS
  subst hn
  unfold o_putR at h
  split at h
  · rename_i x a r
    split at h
    · rename_i c0 fs he
      split at h
      · rename_i v hv
        cases hb : Nat.beq c0 ci with
        | false => rw [hb] at h; exact h.elim
        | true =>
          rw [hb] at h
          have hc0 := Nat.eq_of_beq_eq_true hb
          subst hc0
          have h8 := h
          rw [em_fs_eq, em_hs_eq] at h8
          rw [em_fn_eq] at hv
          obtain ⟨ty0, hty0⟩ := hcl.2.2.1
          refine va_put C.1 C.2.1 C.2.2.2.2.1 hcl.2.1 ty0 hty0 hcl.2.2.2 C.2.2.2.1 C.2.2.2.2.2.1 hP hD hS a (em_w_get he) hcl.1 fk hk9 (C.2.2.2.2.1 _ hw) (fun x hx => by rw [← href]; exact hx) hfin hty (by rcases hfty with ⟨q, rfl⟩ | ⟨q, rfl⟩ <;> rfl) (by rcases hfty with ⟨q, rfl⟩ | ⟨q, rfl⟩ <;> rfl) (by rw [List.length_map]; exact (List.getElem?_eq_some_iff.mp hv).1) hd (fun H1 locs1 hP1 hD1 hS1 => ?_)
          have e9 : (em_w σ dA ρ hp).set a (ρ a, .inr (c0, (fs.map (em_v σ ρ)).set fk (em_v σ ρ (.ref x)))) = em_w σ dA ρ (hp.set a (.inr (c0, fs.set fk (.ref x)))) := by
            rw [← List.map_set]
            exact em_w_set (x := .inr (c0, fs.set fk (.ref x)))
          have h9 := hk _ _ _ _ h8 ρ arr H1 locs1 hr hl (by rw [← e9]; exact hP1) (by rw [← e9]; exact hD1) hS1
          rw [hc] at h9
          exact h9
      · exact h.elim
    · exact h.elim
  · exact h.elim
theorem s_putRF (C : em_Cx p s m args c D cl A nL (em_tys dA) cc own) {pc n : Nat} {Cn ref : String} {T : u_T} {N ci fk index : Nat} (hd : decode cc pc = .ok (.putfield index, 3)) (hn : pc + 3 = n) (hc : cnt n = cnt pc) (hcl : em_Cl cl ci Cn T N) (hk9 : fk < N) (hw : Cond.fieldLink own index ref (T fk).2.1 (T fk).2.2.1 ∈ em_tb) (href : (T fk).1 = ref) (hfin : (T fk).2.2.2 = true) (hin2 : meth.name = "<init>") (hdecl : (T fk).1 = own) {fty : FieldType} (hfty : (∃ q, fty = .object q) ∨ ∃ q, fty = .array q) (hty : parseFieldDescriptor (T fk).2.2.1 = some fty) : em_Snd p l e R s m args below meth c D cl dA σ A nL cnt Pr Z Q pc (o_putR ci fk n) := by
  intro k hk ls st hp h ρ arr H locs hr hl hP hD hS
  subst hn
  unfold o_putR at h
  split at h
  · rename_i x a r
    split at h
    · rename_i c0 fs he
      split at h
      · rename_i v hv
        cases hb : Nat.beq c0 ci with
        | false => rw [hb] at h; exact h.elim
        | true =>
          rw [hb] at h
          have hc0 := Nat.eq_of_beq_eq_true hb
          subst hc0
          have h8 := h
          rw [em_fs_eq, em_hs_eq] at h8
          rw [em_fn_eq] at hv
          obtain ⟨ty0, hty0⟩ := hcl.2.2.1
          refine va_putF C.1 C.2.1 C.2.2.2.2.1 hcl.2.1 ty0 hty0 hcl.2.2.2 C.2.2.2.1 C.2.2.2.2.2.1 hP hD hS a (em_w_get he) hcl.1 fk hk9 (C.2.2.2.2.1 _ hw) (fun x hx => by rw [← href]; exact hx) hfin hin2 hdecl hty (by rcases hfty with ⟨q, rfl⟩ | ⟨q, rfl⟩ <;> rfl) (by rcases hfty with ⟨q, rfl⟩ | ⟨q, rfl⟩ <;> rfl) (by rw [List.length_map]; exact (List.getElem?_eq_some_iff.mp hv).1) hd (fun H1 locs1 hP1 hD1 hS1 => ?_)
          have e9 : (em_w σ dA ρ hp).set a (ρ a, .inr (c0, (fs.map (em_v σ ρ)).set fk (em_v σ ρ (.ref x)))) = em_w σ dA ρ (hp.set a (.inr (c0, fs.set fk (.ref x)))) := by
            rw [← List.map_set]
            exact em_w_set (x := .inr (c0, fs.set fk (.ref x)))
          have h9 := hk _ _ _ _ h8 ρ arr H1 locs1 hr hl (by rw [← e9]; exact hP1) (by rw [← e9]; exact hD1) hS1
          rw [hc] at h9
          exact h9
      · exact h.elim
    · exact h.elim
  · exact h.elim
def o_aldI (tg : Nat) (n : Nat) : em_Op := fun _ K ls st hp => match st with | .int i :: .ref a :: r => (match em_hn hp a with | some (.inl (t, N, .inl f)) => bif (Nat.beq t tg && Nat.ble N 2147483647) then (∃ j : Nat, i = nI j ∧ j < N ∧ K n ls (.int (f j) :: r) hp) else False | _ => False) | _ => False
def o_aldL (tg : Nat) (n : Nat) : em_Op := fun _ K ls st hp => match st with | .int i :: .ref a :: r => (match em_hn hp a with | some (.inl (t, N, .inr (.inl f))) => bif (Nat.beq t tg && Nat.ble N 2147483647) then (∃ j : Nat, i = nI j ∧ j < N ∧ K n ls (.long (f j) :: r) hp) else False | _ => False) | _ => False
theorem s_iald (C : em_Cx p s m args c D cl A nL (em_tys dA) cc own) {pc n : Nat} (hd : decode cc pc = .ok (.iaload, 1)) (hn : pc + 1 = n) (hc : cnt n = cnt pc) : em_Snd p l e R s m args below meth c D cl dA σ A nL cnt Pr Z Q pc (o_aldI 0 n) := by
  intro k hk ls st hp h ρ arr H locs hr hl hP hD hS
  subst hn
  unfold o_aldI at h
  split at h
  · rename_i i a r
    split at h
    · rename_i t N f he
      cases hb : (Nat.beq t 0 && Nat.ble N 2147483647) with
      | false => rw [hb] at h; exact h.elim
      | true =>
        rw [hb] at h
        rw [Bool.and_eq_true] at hb
        have hc0 := Nat.eq_of_beq_eq_true hb.1
        subst hc0
        obtain ⟨j, rfl, hj, h⟩ := h
        have hN := Nat.le_of_ble_eq_true hb.2
        have h9 := hk _ _ _ _ h ρ arr H locs hr hl hP hD hS
        rw [hc] at h9
        refine va_iald C.1 C.2.1 C.2.2.2.2.2.1 hP a 0 (em_w_get he) rfl (vp_in_nI hj (by omega)) hd ?_
        rw [nI_clamp (by omega)]
        exact h9
    · exact h.elim
  · exact h.elim
theorem s_bald (C : em_Cx p s m args c D cl A nL (em_tys dA) cc own) {pc n : Nat} (hd : decode cc pc = .ok (.baload, 1)) (hn : pc + 1 = n) (hc : cnt n = cnt pc) : em_Snd p l e R s m args below meth c D cl dA σ A nL cnt Pr Z Q pc (o_aldI 2 n) := by
  intro k hk ls st hp h ρ arr H locs hr hl hP hD hS
  subst hn
  unfold o_aldI at h
  split at h
  · rename_i i a r
    split at h
    · rename_i t N f he
      cases hb : (Nat.beq t 2 && Nat.ble N 2147483647) with
      | false => rw [hb] at h; exact h.elim
      | true =>
        rw [hb] at h
        rw [Bool.and_eq_true] at hb
        have hc0 := Nat.eq_of_beq_eq_true hb.1
        subst hc0
        obtain ⟨j, rfl, hj, h⟩ := h
        have hN := Nat.le_of_ble_eq_true hb.2
        have h9 := hk _ _ _ _ h ρ arr H locs hr hl hP hD hS
        rw [hc] at h9
        refine va_bald C.1 C.2.1 C.2.2.2.2.2.1 hP a 2 (em_w_get he) rfl (vp_in_nI hj (by omega)) hd ?_
        rw [nI_clamp (by omega)]
        exact h9
    · exact h.elim
  · exact h.elim
theorem s_zald (C : em_Cx p s m args c D cl A nL (em_tys dA) cc own) {pc n : Nat} (hd : decode cc pc = .ok (.baload, 1)) (hn : pc + 1 = n) (hc : cnt n = cnt pc) : em_Snd p l e R s m args below meth c D cl dA σ A nL cnt Pr Z Q pc (o_aldI 3 n) := by
  intro k hk ls st hp h ρ arr H locs hr hl hP hD hS
  subst hn
  unfold o_aldI at h
  split at h
  · rename_i i a r
    split at h
    · rename_i t N f he
      cases hb : (Nat.beq t 3 && Nat.ble N 2147483647) with
      | false => rw [hb] at h; exact h.elim
      | true =>
        rw [hb] at h
        rw [Bool.and_eq_true] at hb
        have hc0 := Nat.eq_of_beq_eq_true hb.1
        subst hc0
        obtain ⟨j, rfl, hj, h⟩ := h
        have hN := Nat.le_of_ble_eq_true hb.2
        have h9 := hk _ _ _ _ h ρ arr H locs hr hl hP hD hS
        rw [hc] at h9
        refine va_zald C.1 C.2.1 C.2.2.2.2.2.1 hP a 3 (em_w_get he) rfl (vp_in_nI hj (by omega)) hd ?_
        rw [nI_clamp (by omega)]
        exact h9
    · exact h.elim
  · exact h.elim
theorem s_lald (C : em_Cx p s m args c D cl A nL (em_tys dA) cc own) {pc n : Nat} (hd : decode cc pc = .ok (.laload, 1)) (hn : pc + 1 = n) (hc : cnt n = cnt pc) : em_Snd p l e R s m args below meth c D cl dA σ A nL cnt Pr Z Q pc (o_aldL 1 n) := by
  intro k hk ls st hp h ρ arr H locs hr hl hP hD hS
  subst hn
  unfold o_aldL at h
  split at h
  · rename_i i a r
    split at h
    · rename_i t N f he
      cases hb : (Nat.beq t 1 && Nat.ble N 2147483647) with
      | false => rw [hb] at h; exact h.elim
      | true =>
        rw [hb] at h
        rw [Bool.and_eq_true] at hb
        have hc0 := Nat.eq_of_beq_eq_true hb.1
        subst hc0
        obtain ⟨j, rfl, hj, h⟩ := h
        have hN := Nat.le_of_ble_eq_true hb.2
        have h9 := hk _ _ _ _ h ρ arr H locs hr hl hP hD hS
        rw [hc] at h9
        refine va_lald C.1 C.2.1 C.2.2.2.2.2.1 hP a 1 (em_w_get he) rfl (vp_in_nI hj (by omega)) hd ?_
        rw [nI_clamp (by omega)]
        exact h9
    · exact h.elim
  · exact h.elim
def o_iast (n : Nat) : em_Op := fun _ K ls st hp => match st with | .int x :: .int i :: .ref a :: r => (match em_hn hp a with | some (.inl (t, N, .inl f)) => bif (Nat.beq t 0 && Nat.ble N 2147483647) then (∃ j : Nat, i = nI j ∧ j < N ∧ em_hs hp a (.inl (t, N, .inl (upd f j x))) (fun hp' => K n ls r hp')) else False | _ => False) | _ => False
theorem s_iast (C : em_Cx p s m args c D cl A nL (em_tys dA) cc own) {pc n : Nat} (hd : decode cc pc = .ok (.iastore, 1)) (hn : pc + 1 = n) (hc : cnt n = cnt pc) : em_Snd p l e R s m args below meth c D cl dA σ A nL cnt Pr Z Q pc (o_iast n) := by
  intro k hk ls st hp h ρ arr H locs hr hl hP hD hS
  subst hn
  unfold o_iast at h
  split at h
  · rename_i x i a r
    split at h
    · rename_i t N f he
      cases hb : (Nat.beq t 0 && Nat.ble N 2147483647) with
      | false => rw [hb] at h; exact h.elim
      | true =>
        rw [hb] at h
        rw [Bool.and_eq_true] at hb
        have hc0 := Nat.eq_of_beq_eq_true hb.1
        subst hc0
        obtain ⟨j, rfl, hj, h⟩ := h
        have hN := Nat.le_of_ble_eq_true hb.2
        rw [em_hs_eq] at h
        refine va_iast C.1 C.2.1 C.2.2.2.2.2.1 hP hD hS a 0 (em_w_get he) rfl (vp_in_nI hj (by omega)) hd (fun H1 locs1 hP1 hD1 hS1 => ?_)
        rw [nI_clamp (by omega)] at hP1 hD1
        have e9 : (em_w σ dA ρ hp).set a (ρ a, .inl (dA 0, N, .inl (upd f j x))) = em_w σ dA ρ (hp.set a (.inl (0, N, .inl (upd f j x)))) := em_w_set (x := .inl (0, N, .inl (upd f j x)))
        have h9 := hk _ _ _ _ h ρ arr H1 locs1 hr hl (by rw [← e9]; exact hP1) (by rw [← e9]; exact hD1) hS1
        rw [hc] at h9
        exact h9
    · exact h.elim
  · exact h.elim
def o_bast (n : Nat) : em_Op := fun _ K ls st hp => match st with | .int x :: .int i :: .ref a :: r => (match em_hn hp a with | some (.inl (t, N, .inl f)) => bif (Nat.beq t 2 && Nat.ble N 2147483647) then (∃ j : Nat, i = nI j ∧ j < N ∧ em_hs hp a (.inl (t, N, .inl (upd f j (vp_nar .byte x)))) (fun hp' => K n ls r hp')) else False | _ => False) | _ => False
theorem s_bast (C : em_Cx p s m args c D cl A nL (em_tys dA) cc own) {pc n : Nat} (hd : decode cc pc = .ok (.bastore, 1)) (hn : pc + 1 = n) (hc : cnt n = cnt pc) : em_Snd p l e R s m args below meth c D cl dA σ A nL cnt Pr Z Q pc (o_bast n) := by
  intro k hk ls st hp h ρ arr H locs hr hl hP hD hS
  subst hn
  unfold o_bast at h
  split at h
  · rename_i x i a r
    split at h
    · rename_i t N f he
      cases hb : (Nat.beq t 2 && Nat.ble N 2147483647) with
      | false => rw [hb] at h; exact h.elim
      | true =>
        rw [hb] at h
        rw [Bool.and_eq_true] at hb
        have hc0 := Nat.eq_of_beq_eq_true hb.1
        subst hc0
        obtain ⟨j, rfl, hj, h⟩ := h
        have hN := Nat.le_of_ble_eq_true hb.2
        rw [em_hs_eq] at h
        refine va_bast C.1 C.2.1 C.2.2.2.2.2.1 hP hD hS a 2 (em_w_get he) rfl (vp_in_nI hj (by omega)) hd (fun H1 locs1 hP1 hD1 hS1 => ?_)
        rw [nI_clamp (by omega)] at hP1 hD1
        have e9 : (em_w σ dA ρ hp).set a (ρ a, .inl (dA 2, N, .inl (upd f j (vp_nar .byte x)))) = em_w σ dA ρ (hp.set a (.inl (2, N, .inl (upd f j (vp_nar .byte x))))) := em_w_set (x := .inl (2, N, .inl (upd f j (vp_nar .byte x))))
        have h9 := hk _ _ _ _ h ρ arr H1 locs1 hr hl (by rw [← e9]; exact hP1) (by rw [← e9]; exact hD1) hS1
        rw [hc] at h9
        exact h9
    · exact h.elim
  · exact h.elim
def o_zast (n : Nat) : em_Op := fun _ K ls st hp => match st with | .int x :: .int i :: .ref a :: r => (match em_hn hp a with | some (.inl (t, N, .inl f)) => bif (Nat.beq t 3 && Nat.ble N 2147483647) then (∃ j : Nat, i = nI j ∧ j < N ∧ em_hs hp a (.inl (t, N, .inl (upd f j (vp_nar .boolean x)))) (fun hp' => K n ls r hp')) else False | _ => False) | _ => False
theorem s_zast (C : em_Cx p s m args c D cl A nL (em_tys dA) cc own) {pc n : Nat} (hd : decode cc pc = .ok (.bastore, 1)) (hn : pc + 1 = n) (hc : cnt n = cnt pc) : em_Snd p l e R s m args below meth c D cl dA σ A nL cnt Pr Z Q pc (o_zast n) := by
  intro k hk ls st hp h ρ arr H locs hr hl hP hD hS
  subst hn
  unfold o_zast at h
  split at h
  · rename_i x i a r
    split at h
    · rename_i t N f he
      cases hb : (Nat.beq t 3 && Nat.ble N 2147483647) with
      | false => rw [hb] at h; exact h.elim
      | true =>
        rw [hb] at h
        rw [Bool.and_eq_true] at hb
        have hc0 := Nat.eq_of_beq_eq_true hb.1
        subst hc0
        obtain ⟨j, rfl, hj, h⟩ := h
        have hN := Nat.le_of_ble_eq_true hb.2
        rw [em_hs_eq] at h
        refine va_zast C.1 C.2.1 C.2.2.2.2.2.1 hP hD hS a 3 (em_w_get he) rfl (vp_in_nI hj (by omega)) hd (fun H1 locs1 hP1 hD1 hS1 => ?_)
        rw [nI_clamp (by omega)] at hP1 hD1
        have e9 : (em_w σ dA ρ hp).set a (ρ a, .inl (dA 3, N, .inl (upd f j (vp_nar .boolean x)))) = em_w σ dA ρ (hp.set a (.inl (3, N, .inl (upd f j (vp_nar .boolean x))))) := em_w_set (x := .inl (3, N, .inl (upd f j (vp_nar .boolean x))))
        have h9 := hk _ _ _ _ h ρ arr H1 locs1 hr hl (by rw [← e9]; exact hP1) (by rw [← e9]; exact hD1) hS1
        rw [hc] at h9
        exact h9
    · exact h.elim
  · exact h.elim
def o_last (n : Nat) : em_Op := fun _ K ls st hp => match st with | .long x :: .int i :: .ref a :: r => (match em_hn hp a with | some (.inl (t, N, .inr (.inl f))) => bif (Nat.beq t 1 && Nat.ble N 2147483647) then (∃ j : Nat, i = nI j ∧ j < N ∧ em_hs hp a (.inl (t, N, .inr (.inl (vp_updL f j x)))) (fun hp' => K n ls r hp')) else False | _ => False) | _ => False
theorem s_last (C : em_Cx p s m args c D cl A nL (em_tys dA) cc own) {pc n : Nat} (hd : decode cc pc = .ok (.lastore, 1)) (hn : pc + 1 = n) (hc : cnt n = cnt pc) : em_Snd p l e R s m args below meth c D cl dA σ A nL cnt Pr Z Q pc (o_last n) := by
  intro k hk ls st hp h ρ arr H locs hr hl hP hD hS
  subst hn
  unfold o_last at h
  split at h
  · rename_i x i a r
    split at h
    · rename_i t N f he
      cases hb : (Nat.beq t 1 && Nat.ble N 2147483647) with
      | false => rw [hb] at h; exact h.elim
      | true =>
        rw [hb] at h
        rw [Bool.and_eq_true] at hb
        have hc0 := Nat.eq_of_beq_eq_true hb.1
        subst hc0
        obtain ⟨j, rfl, hj, h⟩ := h
        have hN := Nat.le_of_ble_eq_true hb.2
        rw [em_hs_eq] at h
        refine va_last C.1 C.2.1 C.2.2.2.2.2.1 hP hD hS a 1 (em_w_get he) rfl (vp_in_nI hj (by omega)) hd (fun H1 locs1 hP1 hD1 hS1 => ?_)
        rw [nI_clamp (by omega)] at hP1 hD1
        have e9 : (em_w σ dA ρ hp).set a (ρ a, .inl (dA 1, N, .inr (.inl (vp_updL f j x)))) = em_w σ dA ρ (hp.set a (.inl (1, N, .inr (.inl (vp_updL f j x))))) := em_w_set (x := .inl (1, N, .inr (.inl (vp_updL f j x))))
        have h9 := hk _ _ _ _ h ρ arr H1 locs1 hr hl (by rw [← e9]; exact hP1) (by rw [← e9]; exact hD1) hS1
        rw [hc] at h9
        exact h9
    · exact h.elim
  · exact h.elim
def o_aaload (n : Nat) : em_Op := fun _ K ls st hp => match st with | .int i :: .ref a :: r => (match em_hn hp a with | some (.inl (t, N, .inr (.inr (.inr (.inr f))))) => bif (Nat.beq t 4 && Nat.ble N 2147483647) then (∃ j : Nat, i = nI j ∧ j < N ∧ (f j = none → K n ls (.null :: r) hp) ∧ (∀ q, f j = some q → K n ls (.ref q :: r) hp)) else False | _ => False) | _ => False
theorem s_aaload (C : em_Cx p s m args c D cl A nL (em_tys dA) cc own) {pc n : Nat} (hd : decode cc pc = .ok (.aaload, 1)) (hn : pc + 1 = n) (hc : cnt n = cnt pc) : em_Snd p l e R s m args below meth c D cl dA σ A nL cnt Pr Z Q pc (o_aaload n) := by
  intro k hk ls st hp h ρ arr H locs hr hl hP hD hS
  subst hn
  unfold o_aaload at h
  split at h
  · rename_i i a r
    split at h
    · rename_i t N f he
      cases hb : (Nat.beq t 4 && Nat.ble N 2147483647) with
      | false => rw [hb] at h; exact h.elim
      | true =>
        rw [hb] at h
        rw [Bool.and_eq_true] at hb
        have hc0 := Nat.eq_of_beq_eq_true hb.1
        subst hc0
        obtain ⟨j, rfl, hj, h1, h2⟩ := h
        have hN := Nat.le_of_ble_eq_true hb.2
        refine va_aldq C.1 C.2.1 C.2.2.2.2.2.1 hP a 4 (em_w_get he) rfl (vp_in_nI hj (by omega)) hd ?_
        rw [nI_clamp (by omega)]
        cases hf : f j with
        | none =>
          have h9 := hk _ _ _ _ (h1 hf) ρ arr H locs hr hl hP hD hS
          rw [hc] at h9
          exact h9
        | some q =>
          have h9 := hk _ _ _ _ (h2 q hf) ρ arr H locs hr hl hP hD hS
          rw [hc] at h9
          exact h9
    · exact h.elim
  · exact h.elim
def o_aastore (ci : Nat) (n : Nat) : em_Op := fun _ K ls st hp => match st with | .ref v :: .int i :: .ref a :: r => (match em_hn hp a with | some (.inl (t, N, .inr (.inr (.inr (.inr f))))) => (match em_hn hp v with | some (.inr (c, _)) => bif (Nat.beq t 4 && Nat.ble N 2147483647 && Nat.beq c ci) then (∃ j : Nat, i = nI j ∧ j < N ∧ em_hs hp a (.inl (t, N, .inr (.inr (.inr (.inr (va_up f j (some v))))))) (fun hp' => K n ls r hp')) else False | _ => False) | _ => False) | _ => False
theorem s_aastore (C : em_Cx p s m args c D cl A nL (em_tys dA) cc own) {pc n : Nat} {ci : Nat} {T : u_T} {N9 : Nat} (hd : decode cc pc = .ok (.aastore, 1)) (hn : pc + 1 = n) (hc : cnt n = cnt pc) (hcl : em_Cl cl ci "WedApart$Town" T N9) : em_Snd p l e R s m args below meth c D cl dA σ A nL cnt Pr Z Q pc (o_aastore ci n) := by
  intro k hk ls st hp h ρ arr H locs hr hl hP hD hS
  subst hn
  unfold o_aastore at h
  split at h
  · rename_i v i a r
    split at h
    · rename_i t N f he
      split at h
      · rename_i c0 vs hev
        cases hb : (Nat.beq t 4 && Nat.ble N 2147483647 && Nat.beq c0 ci) with
        | false => rw [hb] at h; exact h.elim
        | true =>
          rw [hb] at h
          rw [Bool.and_eq_true, Bool.and_eq_true] at hb
          have hc0 := Nat.eq_of_beq_eq_true hb.1.1
          have hc1 := Nat.eq_of_beq_eq_true hb.2
          subst hc0
          subst hc1
          obtain ⟨j, rfl, hj, h⟩ := h
          have hN := Nat.le_of_ble_eq_true hb.1.2
          rw [em_hs_eq] at h
          refine va_astq C.1 C.2.1 C.2.2.2.2.2.1 hP hD hS a 4 v c0 (r := ("WedApart$Town", T, N9)) (em_w_get he) rfl (em_w_get hev) hcl.1 (vp_in_nI hj (by omega)) hd (fun H1 locs1 hP1 hD1 hS1 => ?_)
          rw [nI_clamp (by omega)] at hP1 hD1
          have e8 : (va_up (fun i => (f i).map ρ) j (some (ρ v))) = fun i => (va_up f j (some v) i).map ρ := by
            funext q
            simp only [va_up]
            by_cases hq : q = j
            · rw [if_pos hq, if_pos hq]; rfl
            · rw [if_neg hq, if_neg hq]
          rw [e8] at hP1 hD1
          have e9 : (em_w σ dA ρ hp).set a (ρ a, .inl (dA 4, N, .inr (.inr (.inr (.inr (fun i => (va_up f j (some v) i).map ρ)))))) = em_w σ dA ρ (hp.set a (.inl (4, N, .inr (.inr (.inr (.inr (va_up f j (some v)))))))) := em_w_set (x := .inl (4, N, .inr (.inr (.inr (.inr (va_up f j (some v)))))))
          have h9 := hk _ _ _ _ h ρ arr H1 locs1 hr hl (by rw [← e9]; exact hP1) (by rw [← e9]; exact hD1) hS1
          rw [hc] at h9
          exact h9
      · exact h.elim
    · exact h.elim
  · exact h.elim
def o_ifnonnull (t n : Nat) : em_Op := fun _ k ls st hp => match st with | .ref _ :: r => k t ls r hp | .null :: r => k n ls r hp | _ => False
theorem s_ifnonnull (C : em_Cx p s m args c D cl A nL (em_tys dA) cc own) {pc t n : Nat} {off : Int} (hd : decode cc pc = .ok (.ifnonnull off, 3)) (ht : (pc : Int) + off = (t : Int)) (hn : pc + 3 = n) (hc : cnt n = cnt pc) (hc2 : cnt t = cnt pc) : em_Snd p l e R s m args below meth c D cl dA σ A nL cnt Pr Z Q pc (o_ifnonnull t n) := by
  intro k hk ls st hp h ρ arr H locs hr hl hP hD hS
  subst hn
  unfold o_ifnonnull at h
  split at h
  · have h9 := hk _ _ _ _ h ρ arr H locs hr hl hP hD hS
    rw [hc2] at h9
    exact lv_ifnonnull C.1 C.2.1 hd ht h9
  · have h9 := hk _ _ _ _ h ρ arr H locs hr hl hP hD hS
    rw [hc] at h9
    exact lv_ifnonnullN C.1 C.2.1 hd h9
  · exact h.elim
def o_astoreN (i n : Nat) : em_Op := fun Q k ls st hp => match st with | .null :: r => em_st1 ls i .null (fun ls' => k n ls' r hp) | _ => o_astore i n Q k ls st hp
def o_aloadN (i n : Nat) : em_Op := fun Q k ls st hp => match em_nth ls i with | some .null => k n ls (.null :: st) hp | _ => o_aload i n Q k ls st hp
end EMB

/-! ===== contracts ===== -/
def em_pv : Option Value → Prop
  | none => True
  | some (.int _) => True
  | some (.long _) => True
  | _ => False
theorem em_pv_v {v : Value} {σ ρ : Nat → Nat} (h : em_pv (some v)) : em_v σ ρ v = v := by cases v <;> first | rfl | exact h.elim
abbrev em_FT : Type := (Nat → Prop) → State → Heap → Prop
def em_Fok (F : em_FT) : Prop := ∀ (A B : Nat → Prop) (u U : State) (H H1 : Heap), u.WarmedH U.vm → (∀ a, a < H.size → ¬ A a → H1[a]? = H[a]?) → (∀ q, B q → A q) → F A u H → F B U H1
def em_B (F : em_FT) (D : va_G) (cl : List vw_C) (dA : Nat → ClassId) (σ : Nat → Nat) (ρ : Nat → Nat) (hp : em_H) (sz : Nat) : State → Prop := fun U => U.heap.size = sz ∧ va_P D cl (em_w σ dA ρ hp) U.heap ∧ va_K D cl (em_tys dA) U ∧ va_D (fun _ => True) (em_w σ dA ρ hp) ∧ F (va_A (em_w σ dA ρ hp) sz) U U.heap
def em_Qc (D : va_G) (cl : List vw_C) (dA : Nat → ClassId) (σ : Nat → Nat) (Pr : (Nat → Nat) → Prop) (Q : em_Q) (A : Nat → Prop) : Array Value → State → Outcome → State → Prop := fun _ st oc t =>
  (∃ (r : Option Value) (ρ' : Nat → Nat) (hp' : em_H), oc = .returned r ∧ em_pv r ∧ Q r hp' ∧ Pr ρ' ∧ va_P D cl (em_w σ dA ρ' hp') t.heap ∧ va_D A (em_w σ dA ρ' hp')) ∧ va_F A st t
/-- a method that makes no cell: its contract -/
def em_CT (l : Launch) (D : va_G) (cl : List vw_C) (dA : Nat → ClassId) (σ : Nat → Nat) (F : em_FT) (y : MethodName) (bytes : ByteArray) (maxL : Nat) (ret : Option FieldType) (rm : Room) (sp : em_Sp) : Prop :=
  ∀ (ρ : Nat → Nat) (hp : em_H) (sz : Nat) (av : List Value) (Q : em_Q), sp av hp Q → Met l y (Cond.code y bytes maxL ret :: em_tb) rm (va_Pc (av.map (em_v σ ρ)) (em_B F D cl dA σ ρ hp sz)) (em_Qc D cl dA σ (fun ρ' => ρ' = ρ) Q (va_A (em_w σ dA ρ hp) sz)) 0 0 (va_A (em_w σ dA ρ hp) sz)


/-- the locals of a call: the arguments in order, a long over two places -/
def em_args : List Value → em_L
  | [] => []
  | .long x :: vs => some (.long x) :: none :: em_args vs
  | .double x :: vs => some (.double x) :: none :: em_args vs
  | v :: vs => some v :: em_args vs
def em_pad : Nat → em_L → em_L
  | 0, _ => []
  | n + 1, [] => none :: em_pad n []
  | n + 1, x :: l => x :: em_pad n l
theorem em_pad_len : ∀ (n : Nat) (l : em_L), (em_pad n l).length = n
  | 0, _ => rfl
  | n + 1, [] => by show (em_pad n []).length + 1 = _; rw [em_pad_len n []]
  | n + 1, x :: l => by show (em_pad n l).length + 1 = _; rw [em_pad_len n l]
theorem em_pad_nth : ∀ (n : Nat) (l : em_L) (i : Nat) (v : Value), em_nth (em_pad n l) i = some v → em_nth l i = some v
  | 0, _, i, v, h => by cases h
  | n + 1, [], 0, v, h => by cases h
  | n + 1, [], i + 1, v, h => em_pad_nth n [] i v h
  | n + 1, x :: l, 0, v, h => h
  | n + 1, x :: l, i + 1, v, h => em_pad_nth n l i v h
theorem em_args_mem {σ ρ : Nat → Nat} : ∀ (vs : List Value) (o i : Nat) (v : Value), em_nth (em_args vs) i = some v → (o + i, em_v σ ρ v) ∈ lv_args o (vs.map (em_v σ ρ))
  | [], o, i, v, h => by cases h
  | u :: vs, o, i, v, h => by
    by_cases hc : u.category = 2
    · have hc' : (em_v σ ρ u).category = 2 := by rw [em_v_cat]; exact hc
      have e : em_args (u :: vs) = some u :: none :: em_args vs := by
        cases u <;> first | rfl | (simp [Value.category] at hc)
      rw [e] at h
      show (o + i, _) ∈ (o, em_v σ ρ u) :: lv_args (if (em_v σ ρ u).category = 2 then o + 2 else o + 1) (vs.map (em_v σ ρ))
      rw [if_pos hc']
      match i, h with
      | 0, h => cases h; exact List.mem_cons_self
      | 1, h => cases h
      | i + 2, h =>
        have := em_args_mem (σ := σ) (ρ := ρ) vs (o + 2) i v h
        rw [show o + 2 + i = o + (i + 2) by omega] at this
        exact List.mem_cons_of_mem _ this
    · have hc' : ¬ (em_v σ ρ u).category = 2 := by rw [em_v_cat]; exact hc
      have e : em_args (u :: vs) = some u :: em_args vs := by
        cases u <;> first | rfl | (simp [Value.category] at hc)
      rw [e] at h
      show (o + i, _) ∈ (o, em_v σ ρ u) :: lv_args (if (em_v σ ρ u).category = 2 then o + 2 else o + 1) (vs.map (em_v σ ρ))
      rw [if_neg hc']
      match i, h with
      | 0, h => cases h; exact List.mem_cons_self
      | i + 1, h =>
        have := em_args_mem (σ := σ) (ρ := ρ) vs (o + 1) i v h
        rw [show o + 1 + i = o + (i + 1) by omega] at this
        exact List.mem_cons_of_mem _ this
theorem em_sl_len {σ ρ : Nat → Nat} : ∀ (vs : List Value), (lg_sl (vs.map (em_v σ ρ))).length = (em_args vs).length
  | [] => rfl
  | u :: vs => by
    have ih := em_sl_len (σ := σ) (ρ := ρ) vs
    show (List.flatMap _ (em_v σ ρ u :: vs.map (em_v σ ρ))).length = _
    rw [List.flatMap_cons, List.length_append]
    have ih' : (List.flatMap (fun v : Value => if v.category = 2 then [Slot.val v, Slot.second] else [Slot.val v]) (vs.map (em_v σ ρ))).length = (em_args vs).length := ih
    rw [ih', em_v_cat]
    cases u <;> simp [Value.category, em_args] <;> omega
/-- what a method's ops owe: from its start, under any reading K of the places that is closed under them -/
def em_Me (T : List (Nat × em_Op)) (nL : Nat) (sp : em_Sp) : Prop :=
  ∀ (Q : em_Q) (K : em_K), (∀ a b pc ls st hp, em_wp Q K ((T.drop a).take b) pc ls st hp → K pc ls st hp) → (∀ pc ls ls' st hp, em_le ls' ls → K pc ls' st hp → K pc ls st hp) →
    ∀ av hp, sp av hp Q → (em_args av).length ≤ nL ∧ K 0 (em_pad nL (em_args av)) [] hp
theorem em_CT_of {l : Launch} {D : va_G} {cl : List vw_C} {dA : Nat → ClassId} {σ : Nat → Nat} {F : em_FT} {y : MethodName} {bytes : ByteArray} {maxL : Nat} {ret : Option FieldType} {rm : Room} {sp : em_Sp} {T : List (Nat × em_Op)} (hFok : em_Fok F) (hy : plainName y.cls = true)
    (hT : ∀ (p : Program) (e : Env) (s : State) (m : MethodId) (args : Array Value) (below : List Frame) (meth : Method) (c : Code) (A : Nat → Prop) (ρ : Nat → Nat) (Q : em_Q), em_Cx p s m args c D cl A maxL (em_tys dA) bytes y.cls → em_Fok F → F A s s.heap → meth.sig.returnType = ret → meth.locks = false → meth.name = y.name →
      ∀ q ∈ T, em_Snd p l e rm s m args below meth c D cl dA σ A maxL (fun _ => (0, 0)) (fun ρ' => ρ' = ρ) (MQ below (em_Qc D cl dA σ (fun ρ' => ρ' = ρ) Q A) args s 0 0 A) Q q.1 q.2)
    (hM : em_Me T maxL sp) : em_CT l D cl dA σ F y bytes maxL ret rm sp := by
  intro ρ hp sz av Q hsp
  refine Met.ofW (cc := bytes) (maxL := maxL) (ret := ret) hy rfl ?_
  intro p e s m args below meth c s₁ B hml hv
  obtain ⟨rfl, hsz, hP, hK, hD0, hF⟩ := hv
  have hts : ∀ w ∈ em_tb, w.before ((av.map (em_v σ ρ)).toArray) s = true := fun w hw => atoms_spec (ws := Cond.code y bytes maxL ret :: em_tb) B.pre w (List.mem_cons_of_mem _ hw)
  have hown : s.vm.findClass y.cls = some m.cls := findClass_of_methodNamed B.named
  subst hsz
  have hD := hD0.self (sz := s.heap.size)
  have hA : ∀ q : Nat, s.heap.size ≤ q → va_A (em_w σ dA ρ hp) s.heap.size q := fun q h => Or.inr h
  have hC : em_Cx p s m ((av.map (em_v σ ρ)).toArray) c D cl (va_A (em_w σ dA ρ hp) s.heap.size) maxL (em_tys dA) bytes y.cls := ⟨B.exec, B.bytes, hml, hown, hts, hK, hA⟩
  have hS := hT p e s m _ below meth c (va_A (em_w σ dA ρ hp) s.heap.size) ρ Q hC hFok hF B.returns B.notSynchronized (name_of_methodNamed B.named B.method).1
  obtain ⟨hlen, hK0⟩ := hM Q (em_Ok p l e rm s m ((av.map (em_v σ ρ)).toArray) below meth c D cl dA σ (va_A (em_w σ dA ρ hp) s.heap.size) maxL (fun _ => (0, 0)) (fun ρ' => ρ' = ρ) (MQ below (em_Qc D cl dA σ (fun ρ' => ρ' = ρ) Q (va_A (em_w σ dA ρ hp) s.heap.size)) ((av.map (em_v σ ρ)).toArray) s 0 0 (va_A (em_w σ dA ρ hp) s.heap.size)))
    (fun a b pc ls st hp2 h => em_wp_snd hS _ (fun q hq => List.mem_of_mem_drop (List.mem_of_mem_take hq)) pc ls st hp2 h) (fun pc ls ls' st hp2 h k => em_Ok_le h k) av hp hsp
  have hl := lv_entry (av.map (em_v σ ρ)) (n := maxL) (by rw [em_sl_len]; exact hlen)
  rw [lg_entry_eq]
  generalize (lg_sl (av.map (em_v σ ρ)) ++ List.replicate (maxL - (lg_sl (av.map (em_v σ ρ))).length) Slot.unset).toArray = arr at hl ⊢
  have hLH : em_LH σ ρ arr maxL (em_pad maxL (em_args av)) := by
    refine ⟨em_pad_len _ _, hl.1, hl.2.1, fun q hq => ?_⟩
    obtain ⟨i, v, h1, rfl⟩ := em_al_to _ 0 q hq
    exact hl.2.2 _ (em_args_mem av 0 i v (em_pad_nth _ _ _ _ h1))
  exact hK0 ρ arr s.heap [] rfl hLH hP hD va_S.rf
section EMC
variable {p : Program} {l : Launch} {e : Env} {R : Room} {s : State} {m : MethodId} {args : Array Value} {below : List Frame} {meth : Method} {c : Code} {D : va_G} {cl : List vw_C} {dA : Nat → ClassId} {σ : Nat → Nat} {A : Nat → Prop} {nL : Nat} {cnt : Nat → Nat × Nat} {Pr : (Nat → Nat) → Prop} {Z : State → Prop}
variable {cc : ByteArray} {Q : em_Q} {own : String}
def o_iret : em_Op := fun Q _ _ st hp => match st with | .int v :: [] => Q (some (.int v)) hp | _ => False
def o_zret : em_Op := fun Q _ _ st hp => match st with | .int v :: [] => (v = 0 ∨ v = 1) ∧ Q (some (.int v)) hp | _ => False
def o_lret : em_Op := fun Q _ _ st hp => match st with | .long v :: [] => Q (some (.long v)) hp | _ => False
def o_vret : em_Op := fun Q _ _ st hp => match st with | [] => Q none hp | _ => False

theorem s_iret (C : em_Cx p s m args c D cl A nL (em_tys dA) cc own) {pc mc ms : Nat} (hd : decode cc pc = .ok (.ireturn, 1)) (hr9 : meth.sig.returnType = some .int) (hlk : meth.locks = false) (hcm : (cnt pc).1 ≤ mc ∧ (cnt pc).2 ≤ ms) : em_Snd p l e R s m args below meth c D cl dA σ A nL cnt Pr (MQ below (em_Qc D cl dA σ Pr Q A) args s mc ms A) Q pc o_iret := by
  intro k hk ls st hp h ρ arr H locs hr hl hP hD hS
  unfold o_iret at h
  split at h
  · rename_i v
    refine W.widen hcm.1 hcm.2 ?_
    exact W.iret C.1 C.2.1 hr9 (fun t ht hW => ⟨⟨some (.int v), ρ, hp, rfl, trivial, h, hr, by rw [ht]; exact hP, hD⟩, hS.F ht⟩) hS.2.2 hd hlk
  · exact h.elim
theorem s_zret (C : em_Cx p s m args c D cl A nL (em_tys dA) cc own) {pc mc ms : Nat} (hd : decode cc pc = .ok (.ireturn, 1)) (hr9 : meth.sig.returnType = some .boolean) (hlk : meth.locks = false) (hcm : (cnt pc).1 ≤ mc ∧ (cnt pc).2 ≤ ms) : em_Snd p l e R s m args below meth c D cl dA σ A nL cnt Pr (MQ below (em_Qc D cl dA σ Pr Q A) args s mc ms A) Q pc o_zret := by
  intro k hk ls st hp h ρ arr H locs hr hl hP hD hS
  unfold o_zret at h
  split at h
  · rename_i v
    refine W.widen hcm.1 hcm.2 ?_
    exact W.zret C.1 C.2.1 hr9 (by rcases h.1 with z | z <;> subst z <;> rfl) (fun t ht hW => ⟨⟨some (.int v), ρ, hp, rfl, trivial, h.2, hr, by rw [ht]; exact hP, hD⟩, hS.F ht⟩) hS.2.2 hd hlk
  · exact h.elim
theorem s_lret (C : em_Cx p s m args c D cl A nL (em_tys dA) cc own) {pc mc ms : Nat} (hd : decode cc pc = .ok (.lreturn, 1)) (hr9 : meth.sig.returnType = some .long) (hlk : meth.locks = false) (hcm : (cnt pc).1 ≤ mc ∧ (cnt pc).2 ≤ ms) : em_Snd p l e R s m args below meth c D cl dA σ A nL cnt Pr (MQ below (em_Qc D cl dA σ Pr Q A) args s mc ms A) Q pc o_lret := by
  intro k hk ls st hp h ρ arr H locs hr hl hP hD hS
  unfold o_lret at h
  split at h
  · rename_i v
    refine W.widen hcm.1 hcm.2 ?_
    exact W.lret C.1 C.2.1 hr9 (fun t ht hW => ⟨⟨some (.long v), ρ, hp, rfl, trivial, h, hr, by rw [ht]; exact hP, hD⟩, hS.F ht⟩) hS.2.2 hd hlk
  · exact h.elim
theorem s_vret (C : em_Cx p s m args c D cl A nL (em_tys dA) cc own) {pc mc ms : Nat} (hd : decode cc pc = .ok (.return_, 1)) (hr9 : meth.sig.returnType = none) (hlk : meth.locks = false) (hcm : (cnt pc).1 ≤ mc ∧ (cnt pc).2 ≤ ms) : em_Snd p l e R s m args below meth c D cl dA σ A nL cnt Pr (MQ below (em_Qc D cl dA σ Pr Q A) args s mc ms A) Q pc o_vret := by
  intro k hk ls st hp h ρ arr H locs hr hl hP hD hS
  unfold o_vret at h
  split at h
  · skip
    refine W.widen hcm.1 hcm.2 ?_
    exact W.vret C.1 C.2.1 hr9 (fun t ht hW => ⟨⟨none, ρ, hp, rfl, trivial, h, hr, by rw [ht]; exact hP, hD⟩, hS.F ht⟩) hS.2.2 hd hlk
  · exact h.elim

/-! calls -/
def em_popn : Nat → List Value → List Value → (List Value → List Value → Prop) → Prop
  | 0, st, acc, k => k acc st
  | a + 1, v :: st, acc, k => em_popn a st (v :: acc) k
  | _ + 1, [], _, _ => False
theorem em_popn_to : ∀ (a : Nat) (st acc : List Value) (k : List Value → List Value → Prop), em_popn a st acc k → ∃ av r, st = av.reverse ++ r ∧ av.length = a ∧ k (av ++ acc) r
  | 0, st, acc, k, h => ⟨[], st, rfl, rfl, h⟩
  | a + 1, v :: st, acc, k, h => by
    obtain ⟨av, r, h1, h2, h3⟩ := em_popn_to a st (v :: acc) k h
    exact ⟨av ++ [v], r, by simp [h1], by simp [h2], by simpa using h3⟩
  | _ + 1, [], _, _, h => h.elim
def em_cat : List Value → Nat
  | [] => 0
  | .long _ :: r => em_cat r + 2
  | .double _ :: r => em_cat r + 2
  | _ :: r => em_cat r + 1
theorem em_cat_eq {σ ρ : Nat → Nat} : ∀ r : List Value, ((r.map (em_v σ ρ)).map fun v => v.category).sum = em_cat r
  | [] => rfl
  | v :: r => by
    have ih := em_cat_eq (σ := σ) (ρ := ρ) r
    simp only [List.map_cons, List.sum_cons, em_v_cat]
    rw [ih]
    cases v <;> simp [Value.category, em_cat] <;> omega
def em_rcv : Option Nat → List Value → em_H → Prop → Prop
  | none, _, _, k => k
  | some ci, .ref b :: _, hp, k => match em_hn hp b with
    | some (.inr (c, _)) => bif Nat.beq c ci then k else False
    | _ => False
  | some _, _, _, _ => False
def em_ret (K : em_K) (n : Nat) (ls : em_L) (r : List Value) : em_Q := fun v hp' => match v with | some x => K n ls (x :: r) hp' | none => K n ls r hp'
def o_call (a : Nat) (rc : Option Nat) (sp : em_Sp) (n : Nat) : em_Op := fun _ K ls st hp => em_popn a st [] (fun av r => bif Nat.ble (em_cat r) 8 then em_rcv rc av hp (sp av hp (em_ret K n ls r)) else False)
theorem em_rcv_to {rc : Option Nat} {av : List Value} {hp : em_H} {k : Prop} (h : em_rcv rc av hp k) : k ∧ ∀ ci, rc = some ci → ∃ b vs fs, av = .ref b :: vs ∧ em_hn hp b = some (.inr (ci, fs)) := by
  unfold em_rcv at h
  split at h
  · exact ⟨h, fun ci hc => by cases hc⟩
  · rename_i ci b vs
    split at h
    · rename_i c0 fs he
      cases hb : Nat.beq c0 ci with
      | false => rw [hb] at h; exact h.elim
      | true =>
        rw [hb] at h
        have hc0 := Nat.eq_of_beq_eq_true hb
        subst hc0
        exact ⟨h, fun ci hc => by cases hc; exact ⟨b, vs, fs, rfl, he⟩⟩
    · exact h.elim
  · exact h.elim
/-- the callee's start, out of the caller's standing -/
theorem em_pre {F : em_FT} {ρ : Nat → Nat} {hp : em_H} {H : Heap} {locs : List Loc} {av : List Value} (C : em_Cx p s m args c D cl A nL (em_tys dA) cc own) (hFok : em_Fok F) (hF : F A s s.heap) (hP : va_P D cl (em_w σ dA ρ hp) H) (hD : va_D A (em_w σ dA ρ hp)) (hS : va_S A s.heap H locs) :
    FrameBlind (va_Pc (av.map (em_v σ ρ)) (em_B F D cl dA σ ρ hp H.size)) ∧ (∀ U : State, U.heap = H → s.WarmedH U.vm → va_Pc (av.map (em_v σ ρ)) (em_B F D cl dA σ ρ hp H.size) (av.map (em_v σ ρ)).toArray U) ∧ ∀ q, va_A (em_w σ dA ρ hp) H.size q → A q := by
  have hFc : ∀ q, va_A (em_w σ dA ρ hp) H.size q → A q := fun q hq => by
    rcases hq with ⟨k, x, h⟩ | h
    · exact hD.2 k _ h
    · exact C.2.2.2.2.2.2 q (Nat.le_trans hS.1 h)
  refine ⟨fun a U g mk q => ?_, fun U hU hW => ⟨rfl, by rw [hU], by rw [hU]; exact hP, va_K.moved hW.alike C.2.2.2.2.2.1, hD.weaken (fun _ _ _ _ => trivial), ?_⟩, hFc⟩
  · obtain ⟨q0, q1, qP, qK, qD, qF⟩ := q
    exact ⟨q0, q1, qP, va_K.moved (u := U) (U := U.calling g mk a) (Vm.Alike.refl U.vm) qK, qD, hFok _ _ U _ _ _ (State.WarmedH.refl U) (fun _ _ _ => rfl) (fun _ h => h) qF⟩
  · rw [hU]
    exact hFok _ _ s _ _ _ hW hS.2.1 hFc hF
theorem em_back {ρ : Nat → Nat} {hp : em_H} {H : Heap} {locs : List Loc} {K : em_K} {n pc : Nat} {ls : em_L} {arr : Array Slot} {r st : List Value} {a : Array Value} (C : em_Cx p s m args c D cl A nL (em_tys dA) cc own) (hk : ∀ pc' ls st hp, K pc' ls st hp → em_Ok p l e R s m args below meth c D cl dA σ A nL cnt Pr Z pc' ls st hp) (hn : pc + 3 = n) (hc : cnt n = cnt pc) (hr : Pr ρ) (hl : em_LH σ ρ arr nL ls) (hS : va_S A s.heap H locs) (hFc : ∀ q, va_A (em_w σ dA ρ hp) H.size q → A q)
    (hrun : va_Run p l e R s m args below meth c H locs (cnt pc).1 (cnt pc).2 0 0 (F0 m pc arr st) (r.map (em_v σ ρ)) (em_Qc D cl dA σ (fun ρ' => ρ' = ρ) (em_ret K n ls r) (va_A (em_w σ dA ρ hp) H.size) a) (va_A (em_w σ dA ρ hp) H.size)) :
    W p l e R s m args below meth c H locs (cnt pc).1 (cnt pc).2 Z (F0 m pc arr st) := by
  intro T hT X
  obtain ⟨v, st₀, t, T', L, h0, X', hL, e1, e2, ⟨⟨v2, ρ', hp', hv, hpv, hQ, hρ, hP', hD'⟩, hz, hq9⟩, st⟩ := hrun T hT X
  cases hv
  subst hρ
  rw [h0] at hz hq9
  have hS' : va_S A s.heap T'.heap (locs ++ L) := ⟨Nat.le_trans hS.1 (by rw [e1]; exact hz), fun q h1 h2 => by rw [e1, hq9 q (Nat.lt_of_lt_of_le h1 hS.1) (fun z => h2 (hFc q z))]; exact hS.2.1 q h1 h2, fun q hq => by
      rcases List.mem_append.mp hq with h | h
      · exact hS.2.2 q h
      · exact hFc _ (hL q h)⟩
  have hP9 : va_P D cl (em_w σ dA ρ' hp') T'.heap := by rw [e1]; exact hP'
  have hD9 : va_D A (em_w σ dA ρ' hp') := hD'.weaken (fun k q _ h => hFc q.1 h)
  subst hn
  cases v with
  | none =>
    have h9 := hk _ _ _ _ hQ ρ' arr T'.heap (locs ++ L) hr hl hP9 hD9 hS'
    rw [hc] at h9
    obtain ⟨t2, a1, b1⟩ := h9 T' rfl X'
    exact ⟨t2, st t2 a1, b1⟩
  | some x =>
    have h9 := hk _ _ _ _ hQ ρ' arr T'.heap (locs ++ L) hr hl hP9 hD9 hS'
    rw [hc, List.map_cons, em_pv_v hpv] at h9
    obtain ⟨t2, a1, b1⟩ := h9 T' rfl X'
    exact ⟨t2, st t2 a1, b1⟩

theorem s_callS (C : em_Cx p s m args c D cl A nL (em_tys dA) cc own) {pc n index a maxL : Nat} {F : em_FT} {y : MethodName} {bytes : ByteArray} {ret : Option FieldType} {rm : Room} {sp : em_Sp} (hFok : em_Fok F) (hF : F A s s.heap) (hM : em_CT l D cl dA σ F y bytes maxL ret rm sp) (hrm : rm.cells = 0 ∧ rm.slots = 0) (hw1 : Cond.code y bytes maxL ret ∈ em_tb) (hwl : Cond.methodLink own index y ∈ em_tb) (hws : Cond.static y ∈ em_tb) (hwi : Cond.initialized y.cls ∈ em_tb) (hd2 : y.cls ≠ "java/lang/invoke/MethodHandle" ∧ y.cls ≠ "java/lang/invoke/VarHandle" ∧ (parseMethodDescriptor y.desc).map (fun d => d.parameters.length) = some a) (hR : rm.frames + 1 ≤ R.frames ∧ 8 + (maxL + 11) + rm.locals ≤ R.locals) (hd : decode cc pc = .ok (.invokestatic index, 3)) (hn : pc + 3 = n) (hc : cnt n = cnt pc) (hcr : (cnt pc).1 + 0 ≤ R.cells ∧ (cnt pc).2 + 0 ≤ R.slots) : em_Snd p l e R s m args below meth c D cl dA σ A nL cnt Pr Z Q pc (o_call a none sp n) := by
  intro k hk ls st hp h ρ arr H locs hr hl hP hD hS
  unfold o_call at h
  obtain ⟨av, r, hst, hav, h⟩ := em_popn_to _ _ _ _ h
  rw [List.append_nil] at h
  cases hb8 : Nat.ble (em_cat r) 8 with
  | false => rw [hb8] at h; exact h.elim
  | true =>
    rw [hb8] at h
    have h8 := Nat.le_of_ble_eq_true hb8
    have h : em_rcv none av hp (sp av hp (em_ret k n ls r)) := h
    obtain ⟨h, hrc⟩ := em_rcv_to h
    obtain ⟨hbl, hpr, hFc⟩ := em_pre (av := av) C hFok hF hP hD hS
    have hG : GoodIn em_tb (Cond.code y bytes maxL ret :: em_tb) := fun w hw => by
      rcases List.mem_cons.mp hw with rfl | hw
      · exact em_tb_good _ hw1
      · exact em_tb_good _ hw
    have cb := callB_of (R := R) (s := s) (args := args) (own := own) (index := index) (y := y) (bytes := bytes) (maxL := maxL) (ret := ret) (rm := rm) a C.2.2.2.2.1 hG rfl hrm.1 hrm.2 (C.2.2.2.2.1 _ hwi) (C.2.2.2.2.1 _ hwl) hd2 hR
    refine em_back C hk hn hc hr hl hS hFc (r := r) (a := ((av.map (em_v σ ρ)).toArray)) ?_
    exact va_runS (As := av.map (em_v σ ρ)) (rest := r.map (em_v σ ρ)) ⟨C.1, C.2.1, C.2.2.1, C.2.2.2.1, C.2.2.2.2.1⟩ (hM ρ hp H.size av _ h) ⟨cb, C.2.2.2.2.1 _ hws⟩ ⟨hbl, hpr⟩ rfl (by rw [List.length_map]; exact hav) hl.2.1 (by rw [hst, List.map_append, List.map_reverse]) (lv_room (by rw [em_cat_eq]; exact h8)) hd hcr
theorem s_callSN (C : em_Cx p s m args c D cl A nL (em_tys dA) cc own) {pc n index a maxL : Nat} {F : em_FT} {y : MethodName} {bytes : ByteArray} {ret : Option FieldType} {rm : Room} {sp : em_Sp} (hFok : em_Fok F) (hF : F A s s.heap) (hM : em_CT l D cl dA σ F y bytes maxL ret rm sp) (hrm : rm.cells = 0 ∧ rm.slots = 0) (hw1 : Cond.code y bytes maxL ret ∈ em_tb) {host : String} (hnl : va_Nw (.methodLinkNest own index y host) s) (hws : Cond.static y ∈ em_tb) (hwi : Cond.initialized y.cls ∈ em_tb) (hd2 : y.cls ≠ "java/lang/invoke/MethodHandle" ∧ y.cls ≠ "java/lang/invoke/VarHandle" ∧ (parseMethodDescriptor y.desc).map (fun d => d.parameters.length) = some a) (hR : rm.frames + 1 ≤ R.frames ∧ 8 + (maxL + 11) + rm.locals ≤ R.locals) (hd : decode cc pc = .ok (.invokestatic index, 3)) (hn : pc + 3 = n) (hc : cnt n = cnt pc) (hcr : (cnt pc).1 + 0 ≤ R.cells ∧ (cnt pc).2 + 0 ≤ R.slots) : em_Snd p l e R s m args below meth c D cl dA σ A nL cnt Pr Z Q pc (o_call a none sp n) := by
  intro k hk ls st hp h ρ arr H locs hr hl hP hD hS
  unfold o_call at h
  obtain ⟨av, r, hst, hav, h⟩ := em_popn_to _ _ _ _ h
  rw [List.append_nil] at h
  cases hb8 : Nat.ble (em_cat r) 8 with
  | false => rw [hb8] at h; exact h.elim
  | true =>
    rw [hb8] at h
    have h8 := Nat.le_of_ble_eq_true hb8
    have h : em_rcv none av hp (sp av hp (em_ret k n ls r)) := h
    obtain ⟨h, hrc⟩ := em_rcv_to h
    obtain ⟨hbl, hpr, hFc⟩ := em_pre (av := av) C hFok hF hP hD hS
    have hG : GoodIn em_tb (Cond.code y bytes maxL ret :: em_tb) := fun w hw => by
      rcases List.mem_cons.mp hw with rfl | hw
      · exact em_tb_good _ hw1
      · exact em_tb_good _ hw
    have cb := va_cnB (R := R) (own := own) (index := index) (y := y) (bytes := bytes) (maxL := maxL) (ret := ret) (rm := rm) a C.2.2.2.2.1 hG rfl hrm.1 hrm.2 hnl (C.2.2.2.2.1 _ hwi) hd2 hR
    refine em_back C hk hn hc hr hl hS hFc (r := r) (a := ((av.map (em_v σ ρ)).toArray)) ?_
    exact va_runSN (As := av.map (em_v σ ρ)) (rest := r.map (em_v σ ρ)) ⟨C.1, C.2.1, C.2.2.1, C.2.2.2.1, C.2.2.2.2.1⟩ (hM ρ hp H.size av _ h) ⟨cb, C.2.2.2.2.1 _ hws, trivial⟩ ⟨hbl, hpr⟩ rfl (by rw [List.length_map]; exact hav) hl.2.1 (by rw [hst, List.map_append, List.map_reverse]) (lv_room (by rw [em_cat_eq]; exact h8)) hd hcr
theorem s_callV (C : em_Cx p s m args c D cl A nL (em_tys dA) cc own) {pc n index a maxL : Nat} {F : em_FT} {y : MethodName} {bytes : ByteArray} {ret : Option FieldType} {rm : Room} {sp : em_Sp} (hFok : em_Fok F) (hF : F A s s.heap) (hM : em_CT l D cl dA σ F y bytes maxL ret rm sp) (hrm : rm.cells = 0 ∧ rm.slots = 0) (hw1 : Cond.code y bytes maxL ret ∈ em_tb) {ci : Nat} {T : u_T} {N : Nat} (hcl : em_Cl cl ci y.cls T N) (hwl : Cond.methodLink own index y ∈ em_tb) (hws : Cond.instanceMethod y ∈ em_tb) (hwe : Cond.selects y.cls y y ∈ em_tb) (hwi : Cond.initialized y.cls ∈ em_tb) (hd2 : y.cls ≠ "java/lang/invoke/MethodHandle" ∧ y.cls ≠ "java/lang/invoke/VarHandle" ∧ (parseMethodDescriptor y.desc).map (fun d => d.parameters.length) = some a) (hR : rm.frames + 1 ≤ R.frames ∧ 8 + (maxL + 11) + rm.locals ≤ R.locals) (hd : decode cc pc = .ok (.invokevirtual index, 3)) (hn : pc + 3 = n) (hc : cnt n = cnt pc) (hcr : (cnt pc).1 + 0 ≤ R.cells ∧ (cnt pc).2 + 0 ≤ R.slots) : em_Snd p l e R s m args below meth c D cl dA σ A nL cnt Pr Z Q pc (o_call (a + 1) (some ci) sp n) := by
  intro k hk ls st hp h ρ arr H locs hr hl hP hD hS
  unfold o_call at h
  obtain ⟨av, r, hst, hav, h⟩ := em_popn_to _ _ _ _ h
  rw [List.append_nil] at h
  cases hb8 : Nat.ble (em_cat r) 8 with
  | false => rw [hb8] at h; exact h.elim
  | true =>
    rw [hb8] at h
    have h8 := Nat.le_of_ble_eq_true hb8
    have h : em_rcv (some ci) av hp (sp av hp (em_ret k n ls r)) := h
    obtain ⟨h, hrc⟩ := em_rcv_to h
    obtain ⟨hbl, hpr, hFc⟩ := em_pre (av := av) C hFok hF hP hD hS
    have hG : GoodIn em_tb (Cond.code y bytes maxL ret :: em_tb) := fun w hw => by
      rcases List.mem_cons.mp hw with rfl | hw
      · exact em_tb_good _ hw1
      · exact em_tb_good _ hw
    obtain ⟨b, vs, fs, rfl, he⟩ := hrc ci rfl
    have cb := callB_of (R := R) (s := s) (args := args) (own := own) (index := index) (y := y) (bytes := bytes) (maxL := maxL) (ret := ret) (rm := rm) a C.2.2.2.2.1 hG rfl hrm.1 hrm.2 (C.2.2.2.2.1 _ hwi) (C.2.2.2.2.1 _ hwl) hd2 hR
    refine em_back C hk hn hc hr hl hS hFc (r := r) (a := (((Value.ref b :: vs).map (em_v σ ρ)).toArray)) ?_
    exact va_runV (C := y.cls) (b := ρ b) (As := vs.map (em_v σ ρ)) (rest := r.map (em_v σ ρ)) ⟨C.1, C.2.1, C.2.2.1, C.2.2.2.1, C.2.2.2.2.1⟩ (hM ρ hp H.size _ _ h) ⟨cb, C.2.2.2.2.1 _ hws, C.2.2.2.2.1 _ hwe⟩ ⟨hbl, va_recv C.2.2.2.2.2.1 hP hcl.1 (em_w_get he), hpr⟩ rfl (by rw [List.length_map]; simpa using hav) hl.2.1 (by rw [hst]; simp [em_v]) (lv_room (by rw [em_cat_eq]; exact h8)) hd hcr
def o_max (n : Nat) : em_Op := fun _ k ls st hp => match st with | .int y :: .int x :: r => bif Nat.ble (em_cat r) 8 then k n ls (.int (if x < y then y else x) :: r) hp else False | _ => False
theorem s_max (C : em_Cx p s m args c D cl A nL (em_tys dA) cc own) {pc n index : Nat} (hwl : Cond.methodLink own index Lib.Math.max.name ∈ em_tb) (hws : Cond.static Lib.Math.max.name ∈ em_tb) (hwi : Cond.initialized "java/lang/Math" ∈ em_tb) (hwc : Cond.code Lib.Math.max.name Lib.Math.max.code 2 (some .int) ∈ em_tb) (hR : 1 ≤ R.frames ∧ 21 ≤ R.locals) (hcr : (cnt pc).1 + 0 ≤ R.cells ∧ (cnt pc).2 + 0 ≤ R.slots) (hd : decode cc pc = .ok (.invokestatic index, 3)) (hn : pc + 3 = n) (hc : cnt n = cnt pc) : em_Snd p l e R s m args below meth c D cl dA σ A nL cnt Pr Z Q pc (o_max n) := by
  intro k hk ls st hp h ρ arr H locs hr hl hP hD hS
  subst hn
  unfold o_max at h
  split at h
  · rename_i y x r
    cases hb8 : Nat.ble (em_cat r) 8 with
    | false => rw [hb8] at h; exact h.elim
    | true =>
      rw [hb8] at h
      have h8 := Nat.le_of_ble_eq_true hb8
      have h9 := hk _ _ _ _ h ρ arr H locs hr hl hP hD hS
      rw [hc] at h9
      exact va_mmax C.1 C.2.1 (C.2.2.1.trans hl.2.1.symm) C.2.2.2.1 (C.2.2.2.2.1 _ hwl) (C.2.2.2.2.1 _ hws) (C.2.2.2.2.1 _ hwi) (C.2.2.2.2.1 _ hwc) hR.1 (by rw [em_cat_eq]; omega) hcr.1 hcr.2 hd h9
  · exact h.elim
def o_acopyI (n : Nat) : em_Op := fun _ K ls st hp => match st with | .int z :: .int dp :: .ref a :: .int sp :: .ref a0 :: r => (match em_hn hp a0, em_hn hp a with | some (.inl (t0, n0, .inl f)), some (.inl (t1, n1, .inl g)) => bif (Nat.beq t0 0 && Nat.beq t1 0 && Nat.ble n0 2147483647 && Nat.ble n1 2147483647 && Nat.ble (em_cat r) 8) then (∃ sp' dp' n' : Nat, sp = nI sp' ∧ dp = nI dp' ∧ z = nI n' ∧ sp' + n' ≤ n0 ∧ dp' + n' ≤ n1 ∧ em_hs hp a (.inl (t1, n1, .inl (va_cpy f g sp' dp' n'))) (fun hp' => K n ls r hp')) else False | _, _ => False) | _ => False
theorem s_acopyI (C : em_Cx p s m args c D cl A nL (em_tys dA) cc own) {pc n index : Nat} (hwl : Cond.methodLink own index arraycopyName ∈ em_tb) (hwn : Cond.native arraycopyName ∈ em_tb) (hws : Cond.static arraycopyName ∈ em_tb) (hwi : Cond.initialized "java/lang/System" ∈ em_tb) (hR : 1 ≤ R.frames ∧ 8 + (nativeFrameWords "java/lang/System" "arraycopy" 5 + 11) ≤ R.locals) (hd : decode cc pc = .ok (.invokestatic index, 3)) (hn : pc + 3 = n) (hc : cnt n = cnt pc) : em_Snd p l e R s m args below meth c D cl dA σ A nL cnt Pr Z Q pc (o_acopyI n) := by
  intro k hk ls st hp h ρ arr H locs hr hl hP hD hS
  subst hn
  unfold o_acopyI at h
  split at h
  · rename_i z dp a sp a0 r
    split at h
    · rename_i t0 n0 f t1 n1 g he0 he1
      cases hb : (Nat.beq t0 0 && Nat.beq t1 0 && Nat.ble n0 2147483647 && Nat.ble n1 2147483647 && Nat.ble (em_cat r) 8) with
      | false => rw [hb] at h; exact h.elim
      | true =>
        rw [hb] at h
        simp only [Bool.and_eq_true] at hb
        have hc0 := Nat.eq_of_beq_eq_true hb.1.1.1.1
        have hc1 := Nat.eq_of_beq_eq_true hb.1.1.1.2
        subst hc0
        subst hc1
        obtain ⟨sp', dp', n', rfl, rfl, rfl, h1, h2, h⟩ := h
        have hn0 := Nat.le_of_ble_eq_true hb.1.1.2
        have hn1 := Nat.le_of_ble_eq_true hb.1.2
        have h8 := Nat.le_of_ble_eq_true hb.2
        have k1 := nI_clamp (n := sp') (by omega)
        have k2 := nI_clamp (n := dp') (by omega)
        have k3 := nI_clamp (n := n') (by omega)
        skip
        rw [em_hs_eq] at h
        refine va_copyi C.1 C.2.1 (C.2.2.1.trans hl.2.1.symm) C.2.2.2.1 (C.2.2.2.2.1 _ hwl) (C.2.2.2.2.1 _ hwn) (C.2.2.2.2.1 _ hws) (C.2.2.2.2.1 _ hwi) C.2.2.2.2.2.1 hP hD hS a0 a 0 0 (em_w_get he0) (em_w_get he1) rfl rfl rfl (nI_pos (by omega)) (nI_pos (by omega)) (nI_pos (by omega)) (by rw [k1, k3]; exact h1) (by rw [k2, k3]; exact h2) (fun i hi => ?_) hR.1 (by rw [em_cat_eq]; omega) hd (fun H1 locs1 hP1 hD1 hS1 => ?_)
        · rfl
        · rw [k1, k2, k3] at hP1 hD1
          have e9 : (em_w σ dA ρ hp).set a (ρ a, .inl (dA 0, n1, .inl (va_cpy f g sp' dp' n'))) = em_w σ dA ρ (hp.set a (.inl (0, n1, .inl (va_cpy f g sp' dp' n')))) := em_w_set (x := .inl (0, n1, .inl (va_cpy f g sp' dp' n')))
          have h9 := hk _ _ _ _ h ρ arr H1 locs1 hr hl (by rw [← e9]; exact hP1) (by rw [← e9]; exact hD1) hS1
          rw [hc] at h9
          exact h9
    · exact h.elim
  · exact h.elim
def o_acopyZ (n : Nat) : em_Op := fun _ K ls st hp => match st with | .int z :: .int dp :: .ref a :: .int sp :: .ref a0 :: r => (match em_hn hp a0, em_hn hp a with | some (.inl (t0, n0, .inl f)), some (.inl (t1, n1, .inl g)) => bif (Nat.beq t0 3 && Nat.beq t1 3 && Nat.ble n0 2147483647 && Nat.ble n1 2147483647 && Nat.ble (em_cat r) 8) then (∃ sp' dp' n' : Nat, sp = nI sp' ∧ dp = nI dp' ∧ z = nI n' ∧ sp' + n' ≤ n0 ∧ dp' + n' ≤ n1 ∧ (∀ i, i < n' → fits .boolean (.int (f (sp' + i))) = true) ∧ em_hs hp a (.inl (t1, n1, .inl (va_cpy f g sp' dp' n'))) (fun hp' => K n ls r hp')) else False | _, _ => False) | _ => False
theorem s_acopyZ (C : em_Cx p s m args c D cl A nL (em_tys dA) cc own) {pc n index : Nat} (hwl : Cond.methodLink own index arraycopyName ∈ em_tb) (hwn : Cond.native arraycopyName ∈ em_tb) (hws : Cond.static arraycopyName ∈ em_tb) (hwi : Cond.initialized "java/lang/System" ∈ em_tb) (hR : 1 ≤ R.frames ∧ 8 + (nativeFrameWords "java/lang/System" "arraycopy" 5 + 11) ≤ R.locals) (hd : decode cc pc = .ok (.invokestatic index, 3)) (hn : pc + 3 = n) (hc : cnt n = cnt pc) : em_Snd p l e R s m args below meth c D cl dA σ A nL cnt Pr Z Q pc (o_acopyZ n) := by
  intro k hk ls st hp h ρ arr H locs hr hl hP hD hS
  subst hn
  unfold o_acopyZ at h
  split at h
  · rename_i z dp a sp a0 r
    split at h
    · rename_i t0 n0 f t1 n1 g he0 he1
      cases hb : (Nat.beq t0 3 && Nat.beq t1 3 && Nat.ble n0 2147483647 && Nat.ble n1 2147483647 && Nat.ble (em_cat r) 8) with
      | false => rw [hb] at h; exact h.elim
      | true =>
        rw [hb] at h
        simp only [Bool.and_eq_true] at hb
        have hc0 := Nat.eq_of_beq_eq_true hb.1.1.1.1
        have hc1 := Nat.eq_of_beq_eq_true hb.1.1.1.2
        subst hc0
        subst hc1
        obtain ⟨sp', dp', n', rfl, rfl, rfl, h1, h2, h⟩ := h
        have hn0 := Nat.le_of_ble_eq_true hb.1.1.2
        have hn1 := Nat.le_of_ble_eq_true hb.1.2
        have h8 := Nat.le_of_ble_eq_true hb.2
        have k1 := nI_clamp (n := sp') (by omega)
        have k2 := nI_clamp (n := dp') (by omega)
        have k3 := nI_clamp (n := n') (by omega)
        obtain ⟨hfit, h⟩ := h
        rw [em_hs_eq] at h
        refine va_copyi C.1 C.2.1 (C.2.2.1.trans hl.2.1.symm) C.2.2.2.1 (C.2.2.2.2.1 _ hwl) (C.2.2.2.2.1 _ hwn) (C.2.2.2.2.1 _ hws) (C.2.2.2.2.1 _ hwi) C.2.2.2.2.2.1 hP hD hS a0 a 3 3 (em_w_get he0) (em_w_get he1) rfl rfl rfl (nI_pos (by omega)) (nI_pos (by omega)) (nI_pos (by omega)) (by rw [k1, k3]; exact h1) (by rw [k2, k3]; exact h2) (fun i hi => ?_) hR.1 (by rw [em_cat_eq]; omega) hd (fun H1 locs1 hP1 hD1 hS1 => ?_)
        · rw [k3] at hi; rw [k1]; exact hfit i hi
        · rw [k1, k2, k3] at hP1 hD1
          have e9 : (em_w σ dA ρ hp).set a (ρ a, .inl (dA 3, n1, .inl (va_cpy f g sp' dp' n'))) = em_w σ dA ρ (hp.set a (.inl (3, n1, .inl (va_cpy f g sp' dp' n')))) := em_w_set (x := .inl (3, n1, .inl (va_cpy f g sp' dp' n')))
          have h9 := hk _ _ _ _ h ρ arr H1 locs1 hr hl (by rw [← e9]; exact hP1) (by rw [← e9]; exact hD1) hS1
          rw [hc] at h9
          exact h9
    · exact h.elim
  · exact h.elim
def o_acopyL (n : Nat) : em_Op := fun _ K ls st hp => match st with | .int z :: .int dp :: .ref a :: .int sp :: .ref a0 :: r => (match em_hn hp a0, em_hn hp a with | some (.inl (t0, n0, .inr (.inl f))), some (.inl (t1, n1, .inr (.inl g))) => bif (Nat.beq t0 1 && Nat.beq t1 1 && Nat.ble n0 2147483647 && Nat.ble n1 2147483647 && Nat.ble (em_cat r) 8) then (∃ sp' dp' n' : Nat, sp = nI sp' ∧ dp = nI dp' ∧ z = nI n' ∧ sp' + n' ≤ n0 ∧ dp' + n' ≤ n1 ∧ em_hs hp a (.inl (t1, n1, .inr (.inl (va_cpy f g sp' dp' n')))) (fun hp' => K n ls r hp')) else False | _, _ => False) | _ => False
theorem s_acopyL (C : em_Cx p s m args c D cl A nL (em_tys dA) cc own) {pc n index : Nat} (hwl : Cond.methodLink own index arraycopyName ∈ em_tb) (hwn : Cond.native arraycopyName ∈ em_tb) (hws : Cond.static arraycopyName ∈ em_tb) (hwi : Cond.initialized "java/lang/System" ∈ em_tb) (hR : 1 ≤ R.frames ∧ 8 + (nativeFrameWords "java/lang/System" "arraycopy" 5 + 11) ≤ R.locals) (hd : decode cc pc = .ok (.invokestatic index, 3)) (hn : pc + 3 = n) (hc : cnt n = cnt pc) : em_Snd p l e R s m args below meth c D cl dA σ A nL cnt Pr Z Q pc (o_acopyL n) := by
  intro k hk ls st hp h ρ arr H locs hr hl hP hD hS
  subst hn
  unfold o_acopyL at h
  split at h
  · rename_i z dp a sp a0 r
    split at h
    · rename_i t0 n0 f t1 n1 g he0 he1
      cases hb : (Nat.beq t0 1 && Nat.beq t1 1 && Nat.ble n0 2147483647 && Nat.ble n1 2147483647 && Nat.ble (em_cat r) 8) with
      | false => rw [hb] at h; exact h.elim
      | true =>
        rw [hb] at h
        simp only [Bool.and_eq_true] at hb
        have hc0 := Nat.eq_of_beq_eq_true hb.1.1.1.1
        have hc1 := Nat.eq_of_beq_eq_true hb.1.1.1.2
        subst hc0
        subst hc1
        obtain ⟨sp', dp', n', rfl, rfl, rfl, h1, h2, h⟩ := h
        have hn0 := Nat.le_of_ble_eq_true hb.1.1.2
        have hn1 := Nat.le_of_ble_eq_true hb.1.2
        have h8 := Nat.le_of_ble_eq_true hb.2
        have k1 := nI_clamp (n := sp') (by omega)
        have k2 := nI_clamp (n := dp') (by omega)
        have k3 := nI_clamp (n := n') (by omega)
        skip
        rw [em_hs_eq] at h
        refine va_copyl C.1 C.2.1 (C.2.2.1.trans hl.2.1.symm) C.2.2.2.1 (C.2.2.2.2.1 _ hwl) (C.2.2.2.2.1 _ hwn) (C.2.2.2.2.1 _ hws) (C.2.2.2.2.1 _ hwi) C.2.2.2.2.2.1 hP hD hS a0 a 1 1 (em_w_get he0) (em_w_get he1) rfl rfl rfl (nI_pos (by omega)) (nI_pos (by omega)) (nI_pos (by omega)) (by rw [k1, k3]; exact h1) (by rw [k2, k3]; exact h2) (fun i hi => ?_) hR.1 (by rw [em_cat_eq]; omega) hd (fun H1 locs1 hP1 hD1 hS1 => ?_)
        · rfl
        · rw [k1, k2, k3] at hP1 hD1
          have e9 : (em_w σ dA ρ hp).set a (ρ a, .inl (dA 1, n1, .inr (.inl (va_cpy f g sp' dp' n')))) = em_w σ dA ρ (hp.set a (.inl (1, n1, .inr (.inl (va_cpy f g sp' dp' n'))))) := em_w_set (x := .inl (1, n1, .inr (.inl (va_cpy f g sp' dp' n'))))
          have h9 := hk _ _ _ _ h ρ arr H1 locs1 hr hl (by rw [← e9]; exact hP1) (by rw [← e9]; exact hD1) hS1
          rw [hc] at h9
          exact h9
    · exact h.elim
  · exact h.elim
end EMC
