
/-! ===== the engine: values, locals, heaps by number; ops as predicate transformers ===== -/
abbrev em_H : Type := List va_E
abbrev em_L : Type := List (Option Value)
abbrev em_K : Type := Nat → em_L → List Value → em_H → Prop
abbrev em_Q : Type := Option Value → em_H → Prop
abbrev em_Op : Type := em_Q → em_K → em_L → List Value → em_H → Prop
abbrev em_Sp : Type := List Value → em_H → em_Q → Prop
def em_nth : em_L → Nat → Option Value
  | [], _ => none
  | x :: _, 0 => x
  | _ :: r, i + 1 => em_nth r i
def em_cl1 : Option Value → Option Value
  | some (.long _) => none
  | some (.double _) => none
  | x => x
def em_s1 : em_L → Nat → Value → em_L
  | [], _, _ => []
  | _ :: r, 0, v => some v :: r
  | x :: r, 1, v => em_cl1 x :: em_s1 r 0 v
  | x :: r, i + 2, v => x :: em_s1 r (i + 1) v
def em_clK : Option Value → (Option Value → Prop) → Prop
  | some (.long _), k => k none
  | some (.double _), k => k none
  | x, k => k x
def em_st1 : em_L → Nat → Value → (em_L → Prop) → Prop
  | [], _, _, k => k []
  | _ :: r, 0, v, k => k (some v :: r)
  | x :: r, 1, v, k => em_st1 r 0 v (fun r' => em_clK x (fun x' => k (x' :: r')))
  | x :: r, i + 2, v, k => em_st1 r (i + 1) v (fun r' => k (x :: r'))
def em_kl : em_L → em_L
  | [] => []
  | _ :: r => none :: r
def em_klK : em_L → (em_L → Prop) → Prop
  | [], k => k []
  | _ :: r, k => k (none :: r)
theorem em_klK_eq (l : em_L) (k : em_L → Prop) : em_klK l k = k (em_kl l) := by cases l <;> rfl
theorem em_kl_len (l : em_L) : (em_kl l).length = l.length := by cases l <;> rfl
theorem em_kl_nth : ∀ (l : em_L) (j : Nat) (w : Value), em_nth (em_kl l) j = some w → j ≠ 0 ∧ em_nth l j = some w
  | [], j, w, h => by cases h
  | _ :: r, 0, w, h => by cases h
  | _ :: r, j + 1, w, h => ⟨by omega, h⟩
def em_s2 : em_L → Nat → Value → em_L
  | [], _, _ => []
  | _ :: r, 0, v => some v :: em_kl r
  | x :: r, 1, v => em_cl1 x :: em_s2 r 0 v
  | x :: r, i + 2, v => x :: em_s2 r (i + 1) v
def em_st2 : em_L → Nat → Value → (em_L → Prop) → Prop
  | [], _, _, k => k []
  | _ :: r, 0, v, k => em_klK r (fun r' => k (some v :: r'))
  | x :: r, 1, v, k => em_st2 r 0 v (fun r' => em_clK x (fun x' => k (x' :: r')))
  | x :: r, i + 2, v, k => em_st2 r (i + 1) v (fun r' => k (x :: r'))
theorem em_clK_eq (x : Option Value) (k : Option Value → Prop) : em_clK x k = k (em_cl1 x) := by
  cases x with
  | none => rfl
  | some v => cases v <;> rfl
theorem em_st1_eq : ∀ (l : em_L) (i : Nat) (v : Value) (k : em_L → Prop), em_st1 l i v k = k (em_s1 l i v)
  | [], i, v, k => by cases i <;> rfl
  | _ :: r, 0, v, k => rfl
  | x :: r, 1, v, k => by
    show em_st1 r 0 v _ = _
    rw [em_st1_eq r 0 v, em_clK_eq]; rfl
  | x :: r, i + 2, v, k => by
    show em_st1 r (i + 1) v _ = _
    rw [em_st1_eq r (i + 1) v]; rfl
theorem em_st2_eq : ∀ (l : em_L) (i : Nat) (v : Value) (k : em_L → Prop), em_st2 l i v k = k (em_s2 l i v)
  | [], i, v, k => by cases i <;> rfl
  | _ :: r, 0, v, k => by
    show em_klK r _ = _
    rw [em_klK_eq]; rfl
  | x :: r, 1, v, k => by
    show em_st2 r 0 v _ = _
    rw [em_st2_eq r 0 v, em_clK_eq]; rfl
  | x :: r, i + 2, v, k => by
    show em_st2 r (i + 1) v _ = _
    rw [em_st2_eq r (i + 1) v]; rfl
theorem em_s1_len : ∀ (l : em_L) (i : Nat) (v : Value), (em_s1 l i v).length = l.length
  | [], i, v => by cases i <;> rfl
  | _ :: r, 0, v => rfl
  | x :: r, 1, v => by show (em_s1 r 0 v).length + 1 = _; rw [em_s1_len r 0 v]; rfl
  | x :: r, i + 2, v => by show (em_s1 r (i + 1) v).length + 1 = _; rw [em_s1_len r (i + 1) v]; rfl
theorem em_s2_len : ∀ (l : em_L) (i : Nat) (v : Value), (em_s2 l i v).length = l.length
  | [], i, v => by cases i <;> rfl
  | _ :: r, 0, v => by show (em_kl r).length + 1 = _; rw [em_kl_len]; rfl
  | x :: r, 1, v => by show (em_s2 r 0 v).length + 1 = _; rw [em_s2_len r 0 v]; rfl
  | x :: r, i + 2, v => by show (em_s2 r (i + 1) v).length + 1 = _; rw [em_s2_len r (i + 1) v]; rfl
theorem em_cl1_some {x : Option Value} {w : Value} (h : em_cl1 x = some w) : x = some w ∧ w.category ≠ 2 := by
  cases x with
  | none => cases h
  | some v => cases v <;> first | (cases h; done) | (cases h; exact ⟨rfl, by decide⟩) | (simp only [em_cl1] at h; cases h; exact ⟨rfl, by simp [Value.category]⟩)
theorem em_s1_nth : ∀ (l : em_L) (i : Nat) (v : Value) (j : Nat) (w : Value), em_nth (em_s1 l i v) j = some w → (j = i ∧ w = v) ∨ (j ≠ i ∧ em_nth l j = some w ∧ ¬ (j + 1 = i ∧ w.category = 2))
  | [], i, v, j, w, h => by cases i <;> cases h
  | _ :: r, 0, v, 0, w, h => by cases h; exact Or.inl ⟨rfl, rfl⟩
  | _ :: r, 0, v, j + 1, w, h => Or.inr ⟨by omega, h, by omega⟩
  | x :: r, 1, v, 0, w, h => by
    obtain ⟨h1, h2⟩ := em_cl1_some h
    exact Or.inr ⟨by omega, h1, fun z => h2 z.2⟩
  | x :: r, 1, v, j + 1, w, h => by
    rcases em_s1_nth r 0 v j w h with ⟨a, b⟩ | ⟨a, b, d⟩
    · exact Or.inl ⟨by omega, b⟩
    · exact Or.inr ⟨by omega, b, by omega⟩
  | x :: r, i + 2, v, 0, w, h => Or.inr ⟨by omega, h, by omega⟩
  | x :: r, i + 2, v, j + 1, w, h => by
    rcases em_s1_nth r (i + 1) v j w h with ⟨a, b⟩ | ⟨a, b, d⟩
    · exact Or.inl ⟨by omega, b⟩
    · exact Or.inr ⟨by omega, b, fun z => d ⟨by omega, z.2⟩⟩
theorem em_s2_nth : ∀ (l : em_L) (i : Nat) (v : Value) (j : Nat) (w : Value), em_nth (em_s2 l i v) j = some w → (j = i ∧ w = v) ∨ (j ≠ i ∧ j ≠ i + 1 ∧ em_nth l j = some w ∧ ¬ (j + 1 = i ∧ w.category = 2))
  | [], i, v, j, w, h => by cases i <;> cases h
  | _ :: r, 0, v, 0, w, h => by cases h; exact Or.inl ⟨rfl, rfl⟩
  | _ :: r, 0, v, j + 1, w, h => by
    obtain ⟨h1, h2⟩ := em_kl_nth r j w h
    exact Or.inr ⟨by omega, by omega, h2, by omega⟩
  | x :: r, 1, v, 0, w, h => by
    obtain ⟨h1, h2⟩ := em_cl1_some h
    exact Or.inr ⟨by omega, by omega, h1, fun z => h2 z.2⟩
  | x :: r, 1, v, j + 1, w, h => by
    rcases em_s2_nth r 0 v j w h with ⟨a, b⟩ | ⟨a, a2, b, d⟩
    · exact Or.inl ⟨by omega, b⟩
    · exact Or.inr ⟨by omega, by omega, b, by omega⟩
  | x :: r, i + 2, v, 0, w, h => Or.inr ⟨by omega, by omega, h, by omega⟩
  | x :: r, i + 2, v, j + 1, w, h => by
    rcases em_s2_nth r (i + 1) v j w h with ⟨a, b⟩ | ⟨a, a2, b, d⟩
    · exact Or.inl ⟨by omega, b⟩
    · exact Or.inr ⟨by omega, by omega, b, fun z => d ⟨by omega, z.2⟩⟩
def em_hn : em_H → Nat → Option va_E
  | [], _ => none
  | x :: _, 0 => some x
  | _ :: r, i + 1 => em_hn r i
def em_hs : em_H → Nat → va_E → (em_H → Prop) → Prop
  | [], _, _, k => k []
  | _ :: r, 0, x, k => k (x :: r)
  | y :: r, i + 1, x, k => em_hs r i x (fun r' => k (y :: r'))
def em_fn : List Value → Nat → Option Value
  | [], _ => none
  | x :: _, 0 => some x
  | _ :: r, i + 1 => em_fn r i
def em_fs : List Value → Nat → Value → (List Value → Prop) → Prop
  | [], _, _, k => k []
  | _ :: r, 0, x, k => k (x :: r)
  | y :: r, i + 1, x, k => em_fs r i x (fun r' => k (y :: r'))
theorem em_hn_eq : ∀ (l : em_H) (i : Nat), em_hn l i = l[i]?
  | [], i => rfl
  | x :: r, 0 => rfl
  | x :: r, i + 1 => by rw [List.getElem?_cons_succ]; exact em_hn_eq r i
theorem em_hs_eq : ∀ (l : em_H) (i : Nat) (x : va_E) (k : em_H → Prop), em_hs l i x k = k (l.set i x)
  | [], i, x, k => rfl
  | y :: r, 0, x, k => rfl
  | y :: r, i + 1, x, k => by show em_hs r i x _ = _; rw [em_hs_eq r i x]; rfl
theorem em_fn_eq : ∀ (l : List Value) (i : Nat), em_fn l i = l[i]?
  | [], i => rfl
  | x :: r, 0 => rfl
  | x :: r, i + 1 => by rw [List.getElem?_cons_succ]; exact em_fn_eq r i
theorem em_fs_eq : ∀ (l : List Value) (i : Nat) (x : Value) (k : List Value → Prop), em_fs l i x k = k (l.set i x)
  | [], i, x, k => rfl
  | y :: r, 0, x, k => rfl
  | y :: r, i + 1, x, k => by show em_fs r i x _ = _; rw [em_fs_eq r i x]; rfl
/-! the meaning of numbered values and heaps on the machine -/
def em_v (σ ρ : Nat → Nat) : Value → Value
  | .ref a => .ref (ρ a)
  | .retAddr k => .ref (σ k)
  | v => v
theorem em_v_cat (σ ρ : Nat → Nat) (v : Value) : (em_v σ ρ v).category = v.category := by cases v <;> rfl
def em_e (σ : Nat → Nat) (dA : Nat → ClassId) (ρ : Nat → Nat) : va_E → va_E
  | .inl (t, n, .inl f) => .inl (dA t, n, .inl f)
  | .inl (t, n, .inr (.inl f)) => .inl (dA t, n, .inr (.inl f))
  | .inl (t, n, .inr (.inr (.inl f))) => .inl (dA t, n, .inr (.inr (.inl f)))
  | .inl (t, n, .inr (.inr (.inr (.inl f)))) => .inl (dA t, n, .inr (.inr (.inr (.inl f))))
  | .inl (t, n, .inr (.inr (.inr (.inr f)))) => .inl (dA t, n, .inr (.inr (.inr (.inr (fun i => (f i).map ρ)))))
  | .inr (c, fs) => .inr (c, fs.map (em_v σ ρ))
def em_w (σ : Nat → Nat) (dA : Nat → ClassId) (ρ : Nat → Nat) (hp : em_H) : va_W := hp.mapIdx (fun k x => (ρ k, em_e σ dA ρ x))
theorem em_w_get {σ : Nat → Nat} {dA : Nat → ClassId} {ρ : Nat → Nat} {hp : em_H} {a : Nat} {x : va_E} (h : em_hn hp a = some x) : (em_w σ dA ρ hp)[a]? = some (ρ a, em_e σ dA ρ x) := by
  rw [em_hn_eq] at h
  simp [em_w, List.getElem?_mapIdx, h]
theorem em_w_set {σ : Nat → Nat} {dA : Nat → ClassId} {ρ : Nat → Nat} {hp : em_H} {a : Nat} {x : va_E} : (em_w σ dA ρ hp).set a (ρ a, em_e σ dA ρ x) = em_w σ dA ρ (hp.set a x) := by
  apply List.ext_getElem?
  intro i
  by_cases hi : a = i
  · subst hi
    by_cases hl : a < hp.length
    · rw [List.getElem?_set_self (by simpa [em_w] using hl)]
      simp [em_w, List.getElem?_mapIdx, hl]
    · rw [List.getElem?_eq_none (by simp [em_w]; omega), List.getElem?_eq_none (by simp [em_w]; omega)]
  · rw [List.getElem?_set_ne hi]
    simp [em_w, List.getElem?_mapIdx, List.getElem?_set_ne hi]
theorem em_w_len {σ : Nat → Nat} {dA : Nat → ClassId} {ρ : Nat → Nat} {hp : em_H} : (em_w σ dA ρ hp).length = hp.length := by simp [em_w]
/-! locals -/
def em_al (f : Value → Value) : Nat → em_L → List (Nat × Value)
  | _, [] => []
  | o, none :: r => em_al f (o + 1) r
  | o, some v :: r => (o, f v) :: em_al f (o + 1) r
theorem em_al_of {f : Value → Value} : ∀ (l : em_L) (o i : Nat) (v : Value), em_nth l i = some v → (o + i, f v) ∈ em_al f o l
  | [], o, i, v, h => by cases h
  | none :: r, o, 0, v, h => by cases h
  | some x :: r, o, 0, v, h => by cases h; exact List.mem_cons_self
  | none :: r, o, i + 1, v, h => by
    have := em_al_of (f := f) r (o + 1) i v h
    rw [show o + 1 + i = o + (i + 1) by omega] at this
    exact this
  | some x :: r, o, i + 1, v, h => by
    have := em_al_of (f := f) r (o + 1) i v h
    rw [show o + 1 + i = o + (i + 1) by omega] at this
    exact List.mem_cons_of_mem _ this
theorem em_al_to {f : Value → Value} : ∀ (l : em_L) (o : Nat) (q : Nat × Value), q ∈ em_al f o l → ∃ (i : Nat) (v : Value), em_nth l i = some v ∧ q = (o + i, f v)
  | [], o, q, h => by cases h
  | none :: r, o, q, h => by
    obtain ⟨i, v, h1, h2⟩ := em_al_to r (o + 1) q h
    exact ⟨i + 1, v, h1, by rw [h2]; congr 1; omega⟩
  | some x :: r, o, q, h => by
    rcases List.mem_cons.mp h with rfl | h
    · exact ⟨0, x, rfl, rfl⟩
    · obtain ⟨i, v, h1, h2⟩ := em_al_to r (o + 1) q h
      exact ⟨i + 1, v, h1, by rw [h2]; congr 1; omega⟩
def em_LH (σ ρ : Nat → Nat) (arr : Array Slot) (nL : Nat) (ls : em_L) : Prop := ls.length = nL ∧ lv_has arr nL (em_al (em_v σ ρ) 0 ls)
theorem em_LH.at {σ ρ : Nat → Nat} {arr : Array Slot} {nL : Nat} {ls : em_L} (h : em_LH σ ρ arr nL ls) {i : Nat} {v : Value} (hi : em_nth ls i = some v) : arr[i]? = some (.val (em_v σ ρ v)) := by
  have := h.2.2.2 _ (em_al_of (f := em_v σ ρ) ls 0 i v hi)
  rw [Nat.zero_add] at this
  exact this
theorem em_LH.weak {σ ρ : Nat → Nat} {arr : Array Slot} {nL : Nat} {ls ls' : em_L} (h : em_LH σ ρ arr nL ls) (hl : ls'.length = ls.length) (hs : ∀ i v, em_nth ls' i = some v → em_nth ls i = some v) : em_LH σ ρ arr nL ls' := by
  refine ⟨hl.trans h.1, h.2.1, h.2.2.1, fun q hq => ?_⟩
  obtain ⟨i, v, h1, rfl⟩ := em_al_to ls' 0 q hq
  rw [Nat.zero_add]
  exact h.at (hs i v h1)
/-! the code as ops; what isn't in the list is left to K -/
def em_wp (Q : em_Q) (K : em_K) : List (Nat × em_Op) → em_K
  | [] => K
  | (p, o) :: r => fun pc ls st hp => bif Nat.beq p pc then o Q (em_wp Q K r) ls st hp else em_wp Q K r pc ls st hp
def em_le : em_L → em_L → Prop
  | [], [] => True
  | none :: a, _ :: b => em_le a b
  | some v :: a, w :: b => w = some v ∧ em_le a b
  | _, _ => False
theorem em_le_len : ∀ {a b : em_L}, em_le a b → a.length = b.length
  | [], [], _ => rfl
  | [], _ :: _, h => h.elim
  | none :: a, [], h => h.elim
  | some _ :: a, [], h => h.elim
  | none :: a, _ :: b, h => by show a.length + 1 = b.length + 1; rw [em_le_len (a := a) (b := b) h]
  | some v :: a, w :: b, h => by show a.length + 1 = b.length + 1; rw [em_le_len (a := a) (b := b) h.2]
theorem em_le_nth : ∀ {a b : em_L}, em_le a b → ∀ i v, em_nth a i = some v → em_nth b i = some v
  | [], [], _, i, v, h => by cases h
  | [], _ :: _, h, _, _, _ => h.elim
  | none :: a, [], h, _, _, _ => h.elim
  | some _ :: a, [], h, _, _, _ => h.elim
  | none :: a, y :: b, h, 0, v, hv => by cases hv
  | none :: a, y :: b, h, i + 1, v, hv => em_le_nth (a := a) (b := b) h i v hv
  | some x :: a, y :: b, h, 0, v, hv => by cases hv; exact h.1
  | some x :: a, y :: b, h, i + 1, v, hv => em_le_nth (a := a) (b := b) h.2 i v hv
def em_Ok (p : Program) (l : Launch) (e : Env) (R : Room) (s : State) (m : MethodId) (args : Array Value) (below : List Frame) (meth : Method) (c : Code) (D : va_G) (cl : List vw_C) (dA : Nat → ClassId) (σ : Nat → Nat) (A : Nat → Prop) (nL : Nat) (cnt : Nat → Nat × Nat) (Pr : (Nat → Nat) → Prop) (Z : State → Prop) : em_K :=
  fun pc ls st hp => ∀ (ρ : Nat → Nat) (arr : Array Slot) (H : Heap) (locs : List Loc), Pr ρ → em_LH σ ρ arr nL ls → va_P D cl (em_w σ dA ρ hp) H → va_D A (em_w σ dA ρ hp) → va_S A s.heap H locs → W p l e R s m args below meth c H locs (cnt pc).1 (cnt pc).2 Z (F0 m pc arr (st.map (em_v σ ρ)))
def em_Snd (p : Program) (l : Launch) (e : Env) (R : Room) (s : State) (m : MethodId) (args : Array Value) (below : List Frame) (meth : Method) (c : Code) (D : va_G) (cl : List vw_C) (dA : Nat → ClassId) (σ : Nat → Nat) (A : Nat → Prop) (nL : Nat) (cnt : Nat → Nat × Nat) (Pr : (Nat → Nat) → Prop) (Z : State → Prop) (Q : em_Q) (pc : Nat) (o : em_Op) : Prop :=
  ∀ k : em_K, (∀ pc' ls st hp, k pc' ls st hp → em_Ok p l e R s m args below meth c D cl dA σ A nL cnt Pr Z pc' ls st hp) → ∀ ls st hp, o Q k ls st hp → em_Ok p l e R s m args below meth c D cl dA σ A nL cnt Pr Z pc ls st hp
section EMA
variable {p : Program} {l : Launch} {e : Env} {R : Room} {s : State} {m : MethodId} {args : Array Value} {below : List Frame} {meth : Method} {c : Code} {D : va_G} {cl : List vw_C} {dA : Nat → ClassId} {σ : Nat → Nat} {A : Nat → Prop} {nL : Nat} {cnt : Nat → Nat × Nat} {Pr : (Nat → Nat) → Prop} {Z : State → Prop}
variable {tys : List (ClassId × FieldType)} {cc : ByteArray} {Q : em_Q} {own : String}
theorem em_wp_snd {T : List (Nat × em_Op)} (hT : ∀ q ∈ T, em_Snd p l e R s m args below meth c D cl dA σ A nL cnt Pr Z Q q.1 q.2) : ∀ L : List (Nat × em_Op), (∀ q ∈ L, q ∈ T) → ∀ pc ls st hp, em_wp Q (em_Ok p l e R s m args below meth c D cl dA σ A nL cnt Pr Z) L pc ls st hp → em_Ok p l e R s m args below meth c D cl dA σ A nL cnt Pr Z pc ls st hp
  | [], _, pc, ls, st, hp, h => h
  | (p0, o) :: r, hL, pc, ls, st, hp, h => by
    have ih := em_wp_snd hT r (fun q hq => hL q (List.mem_cons_of_mem _ hq))
    by_cases hpc : p0 = pc
    · subst hpc
      have h' : o Q (em_wp Q (em_Ok p l e R s m args below meth c D cl dA σ A nL cnt Pr Z) r) ls st hp := by
        unfold em_wp at h
        rw [show Nat.beq p0 p0 = true from Nat.beq_refl p0] at h
        exact h
      exact hT _ (hL _ List.mem_cons_self) _ ih ls st hp h'
    · have h' : em_wp Q (em_Ok p l e R s m args below meth c D cl dA σ A nL cnt Pr Z) r pc ls st hp := by
        unfold em_wp at h
        rw [show Nat.beq p0 pc = false from by
          cases hb : Nat.beq p0 pc with
          | false => rfl
          | true => exact absurd (Nat.eq_of_beq_eq_true hb) hpc] at h
        exact h
      exact ih pc ls st hp h'
theorem em_Ok_le {pc : Nat} {ls ls' : em_L} {st : List Value} {hp : em_H} (h : em_le ls' ls) (k : em_Ok p l e R s m args below meth c D cl dA σ A nL cnt Pr Z pc ls' st hp) : em_Ok p l e R s m args below meth c D cl dA σ A nL cnt Pr Z pc ls st hp :=
  fun ρ arr H locs hr hl hP hD hS => k ρ arr H locs hr (hl.weak (em_le_len h) (em_le_nth h)) hP hD hS
def em_Cx (p : Program) (s : State) (m : MethodId) (args : Array Value) (c : Code) (D : va_G) (cl : List vw_C) (A : Nat → Prop) (nL : Nat) (tys : List (ClassId × FieldType)) (cc : ByteArray) (own : String) : Prop :=
  p.tables.exec = Jvm.exec ∧ c.code = cc ∧ c.maxLocals = nL ∧ s.vm.findClass own = some m.cls ∧ (∀ w ∈ em_tb, w.before args s = true) ∧ va_K D cl tys s ∧ ∀ q, s.heap.size ≤ q → A q

def o_iconst (v : Int32) (n : Nat) : em_Op := fun _ k ls st hp => k n ls (.int v :: st) hp
def o_lconst (v : Int64) (n : Nat) : em_Op := fun _ k ls st hp => k n ls (.long v :: st) hp
theorem s_iconst (C : em_Cx p s m args c D cl A nL tys cc own) {pc n : Nat} {z : Int} {v : Int32} (hd : decode cc pc = .ok (.iconst z, 1)) (hn : pc + 1 = n) (hc : cnt n = cnt pc) (hv : Int32.ofInt z = v) : em_Snd p l e R s m args below meth c D cl dA σ A nL cnt Pr Z Q pc (o_iconst v n) := by
  intro k hk ls st hp h ρ arr H locs hr hl hP hD hS
  subst hn
  have h9 := hk _ _ _ _ h ρ arr H locs hr hl hP hD hS
  rw [hc] at h9
  exact lv_iconst C.1 C.2.1 hd hv h9
theorem s_bipush (C : em_Cx p s m args c D cl A nL tys cc own) {pc n : Nat} {z : Int} {v : Int32} (hd : decode cc pc = .ok (.bipush z, 2)) (hn : pc + 2 = n) (hc : cnt n = cnt pc) (hv : (Int8.ofInt z).toInt32 = v) : em_Snd p l e R s m args below meth c D cl dA σ A nL cnt Pr Z Q pc (o_iconst v n) := by
  intro k hk ls st hp h ρ arr H locs hr hl hP hD hS
  subst hn
  have h9 := hk _ _ _ _ h ρ arr H locs hr hl hP hD hS
  rw [hc] at h9
  exact lv_bipush C.1 C.2.1 hd hv h9
theorem s_sipush (C : em_Cx p s m args c D cl A nL tys cc own) {pc n : Nat} {z : Int} {v : Int32} (hd : decode cc pc = .ok (.sipush z, 3)) (hn : pc + 3 = n) (hc : cnt n = cnt pc) (hv : (Int16.ofInt z).toInt32 = v) : em_Snd p l e R s m args below meth c D cl dA σ A nL cnt Pr Z Q pc (o_iconst v n) := by
  intro k hk ls st hp h ρ arr H locs hr hl hP hD hS
  subst hn
  have h9 := hk _ _ _ _ h ρ arr H locs hr hl hP hD hS
  rw [hc] at h9
  exact lv_sipush C.1 C.2.1 hd hv h9
theorem s_lconst (C : em_Cx p s m args c D cl A nL tys cc own) {pc n : Nat} {z : Fin 2} {v : Int64} (hd : decode cc pc = .ok (.lconst z, 1)) (hn : pc + 1 = n) (hc : cnt n = cnt pc) (hv : Int64.ofNat (z : Nat) = v) : em_Snd p l e R s m args below meth c D cl dA σ A nL cnt Pr Z Q pc (o_lconst v n) := by
  intro k hk ls st hp h ρ arr H locs hr hl hP hD hS
  subst hn
  have h9 := hk _ _ _ _ h ρ arr H locs hr hl hP hD hS
  rw [hc] at h9
  exact lv_lconst C.1 C.2.1 hd hv h9
theorem s_ldc (C : em_Cx p s m args c D cl A nL tys cc own) {pc n : Nat} {index : Nat} {v : Int32} (hd : decode cc pc = .ok (.ldc index, 2)) (hn : pc + 2 = n) (hc : cnt n = cnt pc) (hw : Cond.constant own index v ∈ em_tb) : em_Snd p l e R s m args below meth c D cl dA σ A nL cnt Pr Z Q pc (o_iconst v n) := by
  intro k hk ls st hp h ρ arr H locs hr hl hP hD hS
  subst hn
  have h9 := hk _ _ _ _ h ρ arr H locs hr hl hP hD hS
  rw [hc] at h9
  exact lv_ldc C.1 C.2.1 C.2.2.2.1 (C.2.2.2.2.1 _ hw) hd h9
theorem s_ldcw (C : em_Cx p s m args c D cl A nL tys cc own) {pc n : Nat} {index : Nat} {v : Int32} (hd : decode cc pc = .ok (.ldc_w index, 3)) (hn : pc + 3 = n) (hc : cnt n = cnt pc) (hw : Cond.constant own index v ∈ em_tb) : em_Snd p l e R s m args below meth c D cl dA σ A nL cnt Pr Z Q pc (o_iconst v n) := by
  intro k hk ls st hp h ρ arr H locs hr hl hP hD hS
  subst hn
  have h9 := hk _ _ _ _ h ρ arr H locs hr hl hP hD hS
  rw [hc] at h9
  exact lv_ldcw C.1 C.2.1 C.2.2.2.1 (C.2.2.2.2.1 _ hw) hd h9
theorem s_ldc2 (C : em_Cx p s m args c D cl A nL tys cc own) {pc n : Nat} {index : Nat} {v : Int64} (hd : decode cc pc = .ok (.ldc2_w index, 3)) (hn : pc + 3 = n) (hc : cnt n = cnt pc) (hw : Cond.constantLong own index v ∈ em_tb) : em_Snd p l e R s m args below meth c D cl dA σ A nL cnt Pr Z Q pc (o_lconst v n) := by
  intro k hk ls st hp h ρ arr H locs hr hl hP hD hS
  subst hn
  have h9 := hk _ _ _ _ h ρ arr H locs hr hl hP hD hS
  rw [hc] at h9
  exact lv_ldc2 C.1 C.2.1 C.2.2.2.1 (C.2.2.2.2.1 _ hw) hd h9
def o_iload (i : Nat) (n : Nat) : em_Op := fun _ k ls st hp => match em_nth ls i with | some (.int x) => k n ls (.int x :: st) hp | _ => False
theorem s_iload (C : em_Cx p s m args c D cl A nL tys cc own) {pc n : Nat} {i : Nat} (hd : decode cc pc = .ok (.iload i, 2)) (hn : pc + 2 = n) (hc : cnt n = cnt pc) : em_Snd p l e R s m args below meth c D cl dA σ A nL cnt Pr Z Q pc (o_iload i n) := by
  intro k hk ls st hp h ρ arr H locs hr hl hP hD hS
  subst hn
  unfold o_iload at h
  split at h
  · rename_i x he
    have h9 := hk _ _ _ _ h ρ arr H locs hr hl hP hD hS
    rw [hc] at h9
    exact lv_iload C.1 C.2.1 hd (hl.at he) h9
  · exact h.elim
theorem s_iload_n (C : em_Cx p s m args c D cl A nL tys cc own) {pc n : Nat} {i : Nat} {q : Fin 4} (hd : decode cc pc = .ok (.iload_n q, 1)) (hn : pc + 1 = n) (hc : cnt n = cnt pc) (hi : (q : Nat) = i) : em_Snd p l e R s m args below meth c D cl dA σ A nL cnt Pr Z Q pc (o_iload i n) := by
  intro k hk ls st hp h ρ arr H locs hr hl hP hD hS
  subst hn
  unfold o_iload at h
  split at h
  · rename_i x he
    have h9 := hk _ _ _ _ h ρ arr H locs hr hl hP hD hS
    rw [hc] at h9
    exact lv_iload_n C.1 C.2.1 hd hi (hl.at he) h9
  · exact h.elim
def o_lload (i : Nat) (n : Nat) : em_Op := fun _ k ls st hp => match em_nth ls i with | some (.long x) => k n ls (.long x :: st) hp | _ => False
theorem s_lload (C : em_Cx p s m args c D cl A nL tys cc own) {pc n : Nat} {i : Nat} (hd : decode cc pc = .ok (.lload i, 2)) (hn : pc + 2 = n) (hc : cnt n = cnt pc) : em_Snd p l e R s m args below meth c D cl dA σ A nL cnt Pr Z Q pc (o_lload i n) := by
  intro k hk ls st hp h ρ arr H locs hr hl hP hD hS
  subst hn
  unfold o_lload at h
  split at h
  · rename_i x he
    have h9 := hk _ _ _ _ h ρ arr H locs hr hl hP hD hS
    rw [hc] at h9
    exact lv_lload C.1 C.2.1 hd (hl.at he) h9
  · exact h.elim
theorem s_lload_n (C : em_Cx p s m args c D cl A nL tys cc own) {pc n : Nat} {i : Nat} {q : Fin 4} (hd : decode cc pc = .ok (.lload_n q, 1)) (hn : pc + 1 = n) (hc : cnt n = cnt pc) (hi : (q : Nat) = i) : em_Snd p l e R s m args below meth c D cl dA σ A nL cnt Pr Z Q pc (o_lload i n) := by
  intro k hk ls st hp h ρ arr H locs hr hl hP hD hS
  subst hn
  unfold o_lload at h
  split at h
  · rename_i x he
    have h9 := hk _ _ _ _ h ρ arr H locs hr hl hP hD hS
    rw [hc] at h9
    exact lv_lload_n C.1 C.2.1 hd hi (hl.at he) h9
  · exact h.elim
def o_aload (i : Nat) (n : Nat) : em_Op := fun _ k ls st hp => match em_nth ls i with | some (.ref x) => k n ls (.ref x :: st) hp | _ => False
theorem s_aload (C : em_Cx p s m args c D cl A nL tys cc own) {pc n : Nat} {i : Nat} (hd : decode cc pc = .ok (.aload i, 2)) (hn : pc + 2 = n) (hc : cnt n = cnt pc) : em_Snd p l e R s m args below meth c D cl dA σ A nL cnt Pr Z Q pc (o_aload i n) := by
  intro k hk ls st hp h ρ arr H locs hr hl hP hD hS
  subst hn
  unfold o_aload at h
  split at h
  · rename_i x he
    have h9 := hk _ _ _ _ h ρ arr H locs hr hl hP hD hS
    rw [hc] at h9
    exact lv_aload C.1 C.2.1 hd (hl.at he) h9
  · exact h.elim
theorem s_aload_n (C : em_Cx p s m args c D cl A nL tys cc own) {pc n : Nat} {i : Nat} {q : Fin 4} (hd : decode cc pc = .ok (.aload_n q, 1)) (hn : pc + 1 = n) (hc : cnt n = cnt pc) (hi : (q : Nat) = i) : em_Snd p l e R s m args below meth c D cl dA σ A nL cnt Pr Z Q pc (o_aload i n) := by
  intro k hk ls st hp h ρ arr H locs hr hl hP hD hS
  subst hn
  unfold o_aload at h
  split at h
  · rename_i x he
    have h9 := hk _ _ _ _ h ρ arr H locs hr hl hP hD hS
    rw [hc] at h9
    exact lv_aload_n C.1 C.2.1 hd hi (hl.at he) h9
  · exact h.elim
def o_sload (i : Nat) (n : Nat) : em_Op := fun _ k ls st hp => match em_nth ls i with | some (.retAddr x) => k n ls (.retAddr x :: st) hp | _ => False
theorem s_sload (C : em_Cx p s m args c D cl A nL tys cc own) {pc n : Nat} {i : Nat} (hd : decode cc pc = .ok (.aload i, 2)) (hn : pc + 2 = n) (hc : cnt n = cnt pc) : em_Snd p l e R s m args below meth c D cl dA σ A nL cnt Pr Z Q pc (o_sload i n) := by
  intro k hk ls st hp h ρ arr H locs hr hl hP hD hS
  subst hn
  unfold o_sload at h
  split at h
  · rename_i x he
    have h9 := hk _ _ _ _ h ρ arr H locs hr hl hP hD hS
    rw [hc] at h9
    exact lv_aload C.1 C.2.1 hd (hl.at he) h9
  · exact h.elim
theorem s_sload_n (C : em_Cx p s m args c D cl A nL tys cc own) {pc n : Nat} {i : Nat} {q : Fin 4} (hd : decode cc pc = .ok (.aload_n q, 1)) (hn : pc + 1 = n) (hc : cnt n = cnt pc) (hi : (q : Nat) = i) : em_Snd p l e R s m args below meth c D cl dA σ A nL cnt Pr Z Q pc (o_sload i n) := by
  intro k hk ls st hp h ρ arr H locs hr hl hP hD hS
  subst hn
  unfold o_sload at h
  split at h
  · rename_i x he
    have h9 := hk _ _ _ _ h ρ arr H locs hr hl hP hD hS
    rw [hc] at h9
    exact lv_aload_n C.1 C.2.1 hd hi (hl.at he) h9
  · exact h.elim
def o_istore (i : Nat) (n : Nat) : em_Op := fun _ k ls st hp => match st with | .int x :: r => em_st1 ls i (.int x) (fun ls' => k n ls' r hp) | _ => False
theorem s_istore (C : em_Cx p s m args c D cl A nL tys cc own) {pc n : Nat} {i : Nat} (hd : decode cc pc = .ok (.istore i, 2)) (hn : pc + 2 = n) (hc : cnt n = cnt pc) (hb : i < nL) : em_Snd p l e R s m args below meth c D cl dA σ A nL cnt Pr Z Q pc (o_istore i n) := by
  intro k hk ls st hp h ρ arr H locs hr hl hP hD hS
  subst hn
  unfold o_istore at h
  split at h
  · rename_i x r
    rw [em_st1_eq] at h
    refine lv_istore C.1 C.2.1 hd hl.2 hb rfl (fun arr' ha => ?_)
    have h9 := hk _ _ _ _ h ρ arr' H locs hr ⟨(em_s1_len ls i _).trans hl.1, ha.1, ha.2.1, fun q2 hq2 => ?_⟩ hP hD hS
    · rw [hc] at h9
      exact h9
    · obtain ⟨j, w, h1, rfl⟩ := em_al_to _ 0 q2 hq2
      refine ha.2.2 _ ?_
      rcases em_s1_nth ls i _ j w h1 with ⟨rfl, rfl⟩ | ⟨n1, n2, n3⟩
      · rw [Nat.zero_add]; exact List.mem_cons_self
      · refine List.mem_cons_of_mem _ (List.mem_filter.mpr ⟨em_al_of ls 0 j w n2, ?_⟩)
        simp only [Nat.zero_add, em_v_cat, Bool.and_eq_true, Bool.not_eq_true', beq_eq_false_iff_ne, ne_eq, Bool.and_eq_false_iff]
        refine ⟨n1, ?_⟩
        by_cases hz : j + 1 = i
        · exact Or.inr (fun z => n3 ⟨hz, z⟩)
        · exact Or.inl hz
  · exact h.elim
theorem s_istore_n (C : em_Cx p s m args c D cl A nL tys cc own) {pc n : Nat} {i : Nat} {q : Fin 4} (hd : decode cc pc = .ok (.istore_n q, 1)) (hn : pc + 1 = n) (hc : cnt n = cnt pc) (hi : (q : Nat) = i) (hb : i < nL) : em_Snd p l e R s m args below meth c D cl dA σ A nL cnt Pr Z Q pc (o_istore i n) := by
  intro k hk ls st hp h ρ arr H locs hr hl hP hD hS
  subst hn
  unfold o_istore at h
  split at h
  · rename_i x r
    rw [em_st1_eq] at h
    refine lv_istore_n C.1 C.2.1 hd hi hl.2 hb rfl (fun arr' ha => ?_)
    have h9 := hk _ _ _ _ h ρ arr' H locs hr ⟨(em_s1_len ls i _).trans hl.1, ha.1, ha.2.1, fun q2 hq2 => ?_⟩ hP hD hS
    · rw [hc] at h9
      exact h9
    · obtain ⟨j, w, h1, rfl⟩ := em_al_to _ 0 q2 hq2
      refine ha.2.2 _ ?_
      rcases em_s1_nth ls i _ j w h1 with ⟨rfl, rfl⟩ | ⟨n1, n2, n3⟩
      · rw [Nat.zero_add]; exact List.mem_cons_self
      · refine List.mem_cons_of_mem _ (List.mem_filter.mpr ⟨em_al_of ls 0 j w n2, ?_⟩)
        simp only [Nat.zero_add, em_v_cat, Bool.and_eq_true, Bool.not_eq_true', beq_eq_false_iff_ne, ne_eq, Bool.and_eq_false_iff]
        refine ⟨n1, ?_⟩
        by_cases hz : j + 1 = i
        · exact Or.inr (fun z => n3 ⟨hz, z⟩)
        · exact Or.inl hz
  · exact h.elim
def o_lstore (i : Nat) (n : Nat) : em_Op := fun _ k ls st hp => match st with | .long x :: r => em_st2 ls i (.long x) (fun ls' => k n ls' r hp) | _ => False
theorem s_lstore (C : em_Cx p s m args c D cl A nL tys cc own) {pc n : Nat} {i : Nat} (hd : decode cc pc = .ok (.lstore i, 2)) (hn : pc + 2 = n) (hc : cnt n = cnt pc) (hb : i + 1 < nL) : em_Snd p l e R s m args below meth c D cl dA σ A nL cnt Pr Z Q pc (o_lstore i n) := by
  intro k hk ls st hp h ρ arr H locs hr hl hP hD hS
  subst hn
  unfold o_lstore at h
  split at h
  · rename_i x r
    rw [em_st2_eq] at h
    refine lv_lstore C.1 C.2.1 hd hl.2 hb rfl (fun arr' ha => ?_)
    have h9 := hk _ _ _ _ h ρ arr' H locs hr ⟨(em_s2_len ls i _).trans hl.1, ha.1, ha.2.1, fun q2 hq2 => ?_⟩ hP hD hS
    · rw [hc] at h9
      exact h9
    · obtain ⟨j, w, h1, rfl⟩ := em_al_to _ 0 q2 hq2
      refine ha.2.2 _ ?_
      rcases em_s2_nth ls i _ j w h1 with ⟨rfl, rfl⟩ | ⟨n1, n1', n2, n3⟩
      · rw [Nat.zero_add]; exact List.mem_cons_self
      · refine List.mem_cons_of_mem _ (List.mem_filter.mpr ⟨em_al_of ls 0 j w n2, ?_⟩)
        simp only [Nat.zero_add, em_v_cat, Bool.and_eq_true, Bool.not_eq_true', beq_eq_false_iff_ne, ne_eq, Bool.and_eq_false_iff]
        refine ⟨n1, n1', ?_⟩
        by_cases hz : j + 1 = i
        · exact Or.inr (fun z => n3 ⟨hz, z⟩)
        · exact Or.inl hz
  · exact h.elim
theorem s_lstore_n (C : em_Cx p s m args c D cl A nL tys cc own) {pc n : Nat} {i : Nat} {q : Fin 4} (hd : decode cc pc = .ok (.lstore_n q, 1)) (hn : pc + 1 = n) (hc : cnt n = cnt pc) (hi : (q : Nat) = i) (hb : i + 1 < nL) : em_Snd p l e R s m args below meth c D cl dA σ A nL cnt Pr Z Q pc (o_lstore i n) := by
  intro k hk ls st hp h ρ arr H locs hr hl hP hD hS
  subst hn
  unfold o_lstore at h
  split at h
  · rename_i x r
    rw [em_st2_eq] at h
    refine lv_lstore_n C.1 C.2.1 hd hi hl.2 hb rfl (fun arr' ha => ?_)
    have h9 := hk _ _ _ _ h ρ arr' H locs hr ⟨(em_s2_len ls i _).trans hl.1, ha.1, ha.2.1, fun q2 hq2 => ?_⟩ hP hD hS
    · rw [hc] at h9
      exact h9
    · obtain ⟨j, w, h1, rfl⟩ := em_al_to _ 0 q2 hq2
      refine ha.2.2 _ ?_
      rcases em_s2_nth ls i _ j w h1 with ⟨rfl, rfl⟩ | ⟨n1, n1', n2, n3⟩
      · rw [Nat.zero_add]; exact List.mem_cons_self
      · refine List.mem_cons_of_mem _ (List.mem_filter.mpr ⟨em_al_of ls 0 j w n2, ?_⟩)
        simp only [Nat.zero_add, em_v_cat, Bool.and_eq_true, Bool.not_eq_true', beq_eq_false_iff_ne, ne_eq, Bool.and_eq_false_iff]
        refine ⟨n1, n1', ?_⟩
        by_cases hz : j + 1 = i
        · exact Or.inr (fun z => n3 ⟨hz, z⟩)
        · exact Or.inl hz
  · exact h.elim
def o_astore (i : Nat) (n : Nat) : em_Op := fun _ k ls st hp => match st with | .ref x :: r => em_st1 ls i (.ref x) (fun ls' => k n ls' r hp) | _ => False
theorem s_astore (C : em_Cx p s m args c D cl A nL tys cc own) {pc n : Nat} {i : Nat} (hd : decode cc pc = .ok (.astore i, 2)) (hn : pc + 2 = n) (hc : cnt n = cnt pc) (hb : i < nL) : em_Snd p l e R s m args below meth c D cl dA σ A nL cnt Pr Z Q pc (o_astore i n) := by
  intro k hk ls st hp h ρ arr H locs hr hl hP hD hS
  subst hn
  unfold o_astore at h
  split at h
  · rename_i x r
    rw [em_st1_eq] at h
    refine lv_astore C.1 C.2.1 hd hl.2 hb rfl (fun arr' ha => ?_)
    have h9 := hk _ _ _ _ h ρ arr' H locs hr ⟨(em_s1_len ls i _).trans hl.1, ha.1, ha.2.1, fun q2 hq2 => ?_⟩ hP hD hS
    · rw [hc] at h9
      exact h9
    · obtain ⟨j, w, h1, rfl⟩ := em_al_to _ 0 q2 hq2
      refine ha.2.2 _ ?_
      rcases em_s1_nth ls i _ j w h1 with ⟨rfl, rfl⟩ | ⟨n1, n2, n3⟩
      · rw [Nat.zero_add]; exact List.mem_cons_self
      · refine List.mem_cons_of_mem _ (List.mem_filter.mpr ⟨em_al_of ls 0 j w n2, ?_⟩)
        simp only [Nat.zero_add, em_v_cat, Bool.and_eq_true, Bool.not_eq_true', beq_eq_false_iff_ne, ne_eq, Bool.and_eq_false_iff]
        refine ⟨n1, ?_⟩
        by_cases hz : j + 1 = i
        · exact Or.inr (fun z => n3 ⟨hz, z⟩)
        · exact Or.inl hz
  · exact h.elim
theorem s_astore_n (C : em_Cx p s m args c D cl A nL tys cc own) {pc n : Nat} {i : Nat} {q : Fin 4} (hd : decode cc pc = .ok (.astore_n q, 1)) (hn : pc + 1 = n) (hc : cnt n = cnt pc) (hi : (q : Nat) = i) (hb : i < nL) : em_Snd p l e R s m args below meth c D cl dA σ A nL cnt Pr Z Q pc (o_astore i n) := by
  intro k hk ls st hp h ρ arr H locs hr hl hP hD hS
  subst hn
  unfold o_astore at h
  split at h
  · rename_i x r
    rw [em_st1_eq] at h
    refine lv_astore_n C.1 C.2.1 hd hi hl.2 hb rfl (fun arr' ha => ?_)
    have h9 := hk _ _ _ _ h ρ arr' H locs hr ⟨(em_s1_len ls i _).trans hl.1, ha.1, ha.2.1, fun q2 hq2 => ?_⟩ hP hD hS
    · rw [hc] at h9
      exact h9
    · obtain ⟨j, w, h1, rfl⟩ := em_al_to _ 0 q2 hq2
      refine ha.2.2 _ ?_
      rcases em_s1_nth ls i _ j w h1 with ⟨rfl, rfl⟩ | ⟨n1, n2, n3⟩
      · rw [Nat.zero_add]; exact List.mem_cons_self
      · refine List.mem_cons_of_mem _ (List.mem_filter.mpr ⟨em_al_of ls 0 j w n2, ?_⟩)
        simp only [Nat.zero_add, em_v_cat, Bool.and_eq_true, Bool.not_eq_true', beq_eq_false_iff_ne, ne_eq, Bool.and_eq_false_iff]
        refine ⟨n1, ?_⟩
        by_cases hz : j + 1 = i
        · exact Or.inr (fun z => n3 ⟨hz, z⟩)
        · exact Or.inl hz
  · exact h.elim
def o_iinc (i : Nat) (d : Int32) (n : Nat) : em_Op := fun _ k ls st hp => match em_nth ls i with | some (.int x) => em_st1 ls i (.int (x + d)) (fun ls' => k n ls' st hp) | _ => False
theorem s_iinc (C : em_Cx p s m args c D cl A nL tys cc own) {pc n : Nat} {i : Nat} {d : Int32} {z : Int} (hd : decode cc pc = .ok (.iinc i z, 3)) (hn : pc + 3 = n) (hc : cnt n = cnt pc) (hv : Int32.ofInt z = d) (hb : i < nL) : em_Snd p l e R s m args below meth c D cl dA σ A nL cnt Pr Z Q pc (o_iinc i d n) := by
  intro k hk ls st hp h ρ arr H locs hr hl hP hD hS
  subst hn
  unfold o_iinc at h
  split at h
  · rename_i x he
    rw [em_st1_eq] at h
    have hm : (i, Value.int x) ∈ em_al (em_v σ ρ) 0 ls := by
      have := em_al_of (f := em_v σ ρ) ls 0 i _ he
      rw [Nat.zero_add] at this
      exact this
    obtain ⟨kk, hkk⟩ := List.getElem?_of_mem hm
    refine lv_iinc (v := x + d) C.1 C.2.1 hd hl.2 hkk (by rw [hv]) hb rfl (fun arr' ha => ?_)
    have h9 := hk _ _ _ _ h ρ arr' H locs hr ⟨(em_s1_len ls i _).trans hl.1, ha.1, ha.2.1, fun q2 hq2 => ?_⟩ hP hD hS
    · rw [hc] at h9
      exact h9
    · obtain ⟨j, w, h1, rfl⟩ := em_al_to _ 0 q2 hq2
      refine ha.2.2 _ ?_
      rcases em_s1_nth ls i _ j w h1 with ⟨rfl, rfl⟩ | ⟨n1, n2, n3⟩
      · rw [Nat.zero_add]; exact List.mem_cons_self
      · refine List.mem_cons_of_mem _ (List.mem_filter.mpr ⟨em_al_of ls 0 j w n2, ?_⟩)
        simp only [Nat.zero_add, em_v_cat, Bool.and_eq_true, Bool.not_eq_true', beq_eq_false_iff_ne, ne_eq, Bool.and_eq_false_iff]
        refine ⟨n1, ?_⟩
        by_cases hz : j + 1 = i
        · exact Or.inr (fun z => n3 ⟨hz, z⟩)
        · exact Or.inl hz
  · exact h.elim
def o_iadd (n : Nat) : em_Op := fun _ k ls st hp => match st with | .int y :: .int x :: r => k n ls (.int (x + y) :: r) hp | _ => False
theorem s_iadd (C : em_Cx p s m args c D cl A nL tys cc own) {pc n : Nat} (hd : decode cc pc = .ok (.iadd, 1)) (hn : pc + 1 = n) (hc : cnt n = cnt pc) : em_Snd p l e R s m args below meth c D cl dA σ A nL cnt Pr Z Q pc (o_iadd n) := by
  intro k hk ls st hp h ρ arr H locs hr hl hP hD hS
  subst hn
  unfold o_iadd at h
  split at h
  · have h9 := hk _ _ _ _ h ρ arr H locs hr hl hP hD hS
    rw [hc] at h9
    exact lv_iadd C.1 C.2.1 hd h9
  · exact h.elim
def o_isub (n : Nat) : em_Op := fun _ k ls st hp => match st with | .int y :: .int x :: r => k n ls (.int (x - y) :: r) hp | _ => False
theorem s_isub (C : em_Cx p s m args c D cl A nL tys cc own) {pc n : Nat} (hd : decode cc pc = .ok (.isub, 1)) (hn : pc + 1 = n) (hc : cnt n = cnt pc) : em_Snd p l e R s m args below meth c D cl dA σ A nL cnt Pr Z Q pc (o_isub n) := by
  intro k hk ls st hp h ρ arr H locs hr hl hP hD hS
  subst hn
  unfold o_isub at h
  split at h
  · have h9 := hk _ _ _ _ h ρ arr H locs hr hl hP hD hS
    rw [hc] at h9
    exact lv_isub C.1 C.2.1 hd h9
  · exact h.elim
def o_imul (n : Nat) : em_Op := fun _ k ls st hp => match st with | .int y :: .int x :: r => k n ls (.int (x * y) :: r) hp | _ => False
theorem s_imul (C : em_Cx p s m args c D cl A nL tys cc own) {pc n : Nat} (hd : decode cc pc = .ok (.imul, 1)) (hn : pc + 1 = n) (hc : cnt n = cnt pc) : em_Snd p l e R s m args below meth c D cl dA σ A nL cnt Pr Z Q pc (o_imul n) := by
  intro k hk ls st hp h ρ arr H locs hr hl hP hD hS
  subst hn
  unfold o_imul at h
  split at h
  · have h9 := hk _ _ _ _ h ρ arr H locs hr hl hP hD hS
    rw [hc] at h9
    exact lv_imul C.1 C.2.1 hd h9
  · exact h.elim
def o_iand (n : Nat) : em_Op := fun _ k ls st hp => match st with | .int y :: .int x :: r => k n ls (.int (x &&& y) :: r) hp | _ => False
theorem s_iand (C : em_Cx p s m args c D cl A nL tys cc own) {pc n : Nat} (hd : decode cc pc = .ok (.iand, 1)) (hn : pc + 1 = n) (hc : cnt n = cnt pc) : em_Snd p l e R s m args below meth c D cl dA σ A nL cnt Pr Z Q pc (o_iand n) := by
  intro k hk ls st hp h ρ arr H locs hr hl hP hD hS
  subst hn
  unfold o_iand at h
  split at h
  · have h9 := hk _ _ _ _ h ρ arr H locs hr hl hP hD hS
    rw [hc] at h9
    exact lv_iand C.1 C.2.1 hd h9
  · exact h.elim
def o_ior (n : Nat) : em_Op := fun _ k ls st hp => match st with | .int y :: .int x :: r => k n ls (.int (x ||| y) :: r) hp | _ => False
theorem s_ior (C : em_Cx p s m args c D cl A nL tys cc own) {pc n : Nat} (hd : decode cc pc = .ok (.ior, 1)) (hn : pc + 1 = n) (hc : cnt n = cnt pc) : em_Snd p l e R s m args below meth c D cl dA σ A nL cnt Pr Z Q pc (o_ior n) := by
  intro k hk ls st hp h ρ arr H locs hr hl hP hD hS
  subst hn
  unfold o_ior at h
  split at h
  · have h9 := hk _ _ _ _ h ρ arr H locs hr hl hP hD hS
    rw [hc] at h9
    exact lv_ior C.1 C.2.1 hd h9
  · exact h.elim
def o_ixor (n : Nat) : em_Op := fun _ k ls st hp => match st with | .int y :: .int x :: r => k n ls (.int (x ^^^ y) :: r) hp | _ => False
theorem s_ixor (C : em_Cx p s m args c D cl A nL tys cc own) {pc n : Nat} (hd : decode cc pc = .ok (.ixor, 1)) (hn : pc + 1 = n) (hc : cnt n = cnt pc) : em_Snd p l e R s m args below meth c D cl dA σ A nL cnt Pr Z Q pc (o_ixor n) := by
  intro k hk ls st hp h ρ arr H locs hr hl hP hD hS
  subst hn
  unfold o_ixor at h
  split at h
  · have h9 := hk _ _ _ _ h ρ arr H locs hr hl hP hD hS
    rw [hc] at h9
    exact lv_ixor C.1 C.2.1 hd h9
  · exact h.elim
def o_ishl (n : Nat) : em_Op := fun _ k ls st hp => match st with | .int y :: .int x :: r => k n ls (.int (x <<< (y &&& 31)) :: r) hp | _ => False
theorem s_ishl (C : em_Cx p s m args c D cl A nL tys cc own) {pc n : Nat} (hd : decode cc pc = .ok (.ishl, 1)) (hn : pc + 1 = n) (hc : cnt n = cnt pc) : em_Snd p l e R s m args below meth c D cl dA σ A nL cnt Pr Z Q pc (o_ishl n) := by
  intro k hk ls st hp h ρ arr H locs hr hl hP hD hS
  subst hn
  unfold o_ishl at h
  split at h
  · have h9 := hk _ _ _ _ h ρ arr H locs hr hl hP hD hS
    rw [hc] at h9
    exact lv_ishl C.1 C.2.1 hd h9
  · exact h.elim
def o_ishr (n : Nat) : em_Op := fun _ k ls st hp => match st with | .int y :: .int x :: r => k n ls (.int (x >>> (y &&& 31)) :: r) hp | _ => False
theorem s_ishr (C : em_Cx p s m args c D cl A nL tys cc own) {pc n : Nat} (hd : decode cc pc = .ok (.ishr, 1)) (hn : pc + 1 = n) (hc : cnt n = cnt pc) : em_Snd p l e R s m args below meth c D cl dA σ A nL cnt Pr Z Q pc (o_ishr n) := by
  intro k hk ls st hp h ρ arr H locs hr hl hP hD hS
  subst hn
  unfold o_ishr at h
  split at h
  · have h9 := hk _ _ _ _ h ρ arr H locs hr hl hP hD hS
    rw [hc] at h9
    exact lv_ishr C.1 C.2.1 hd h9
  · exact h.elim
def o_idiv (n : Nat) : em_Op := fun _ k ls st hp => match st with | .int y :: .int x :: r => ¬ y = 0 ∧ k n ls (.int (x / y) :: r) hp | _ => False
theorem s_idiv (C : em_Cx p s m args c D cl A nL tys cc own) {pc n : Nat} (hd : decode cc pc = .ok (.idiv, 1)) (hn : pc + 1 = n) (hc : cnt n = cnt pc) : em_Snd p l e R s m args below meth c D cl dA σ A nL cnt Pr Z Q pc (o_idiv n) := by
  intro k hk ls st hp h ρ arr H locs hr hl hP hD hS
  subst hn
  unfold o_idiv at h
  split at h
  · have h9 := hk _ _ _ _ h.2 ρ arr H locs hr hl hP hD hS
    rw [hc] at h9
    exact lv_idiv C.1 C.2.1 hd h.1 h9
  · exact h.elim
def o_irem (n : Nat) : em_Op := fun _ k ls st hp => match st with | .int y :: .int x :: r => ¬ y = 0 ∧ k n ls (.int (x - x / y * y) :: r) hp | _ => False
theorem s_irem (C : em_Cx p s m args c D cl A nL tys cc own) {pc n : Nat} (hd : decode cc pc = .ok (.irem, 1)) (hn : pc + 1 = n) (hc : cnt n = cnt pc) : em_Snd p l e R s m args below meth c D cl dA σ A nL cnt Pr Z Q pc (o_irem n) := by
  intro k hk ls st hp h ρ arr H locs hr hl hP hD hS
  subst hn
  unfold o_irem at h
  split at h
  · have h9 := hk _ _ _ _ h.2 ρ arr H locs hr hl hP hD hS
    rw [hc] at h9
    exact lv_irem C.1 C.2.1 hd h.1 h9
  · exact h.elim
def o_iushr (n : Nat) : em_Op := fun _ k ls st hp => match st with | .int y :: .int x :: r => k n ls (.int ((x.toUInt32 >>> (y.toUInt32 &&& Int32.toUInt32 31)).toInt32) :: r) hp | _ => False
theorem s_iushr (C : em_Cx p s m args c D cl A nL tys cc own) {pc n : Nat} (hd : decode cc pc = .ok (.iushr, 1)) (hn : pc + 1 = n) (hc : cnt n = cnt pc) : em_Snd p l e R s m args below meth c D cl dA σ A nL cnt Pr Z Q pc (o_iushr n) := by
  intro k hk ls st hp h ρ arr H locs hr hl hP hD hS
  subst hn
  unfold o_iushr at h
  split at h
  · have h9 := hk _ _ _ _ h ρ arr H locs hr hl hP hD hS
    rw [hc] at h9
    exact lv_iushr C.1 C.2.1 hd rfl h9
  · exact h.elim
def o_ineg (n : Nat) : em_Op := fun _ k ls st hp => match st with | .int x :: r => k n ls (.int (-x) :: r) hp | _ => False
theorem s_ineg (C : em_Cx p s m args c D cl A nL tys cc own) {pc n : Nat} (hd : decode cc pc = .ok (.ineg, 1)) (hn : pc + 1 = n) (hc : cnt n = cnt pc) : em_Snd p l e R s m args below meth c D cl dA σ A nL cnt Pr Z Q pc (o_ineg n) := by
  intro k hk ls st hp h ρ arr H locs hr hl hP hD hS
  subst hn
  unfold o_ineg at h
  split at h
  · have h9 := hk _ _ _ _ h ρ arr H locs hr hl hP hD hS
    rw [hc] at h9
    exact lv_ineg C.1 C.2.1 hd h9
  · exact h.elim
def o_ladd (n : Nat) : em_Op := fun _ k ls st hp => match st with | .long y :: .long x :: r => k n ls (.long (x + y) :: r) hp | _ => False
theorem s_ladd (C : em_Cx p s m args c D cl A nL tys cc own) {pc n : Nat} (hd : decode cc pc = .ok (.ladd, 1)) (hn : pc + 1 = n) (hc : cnt n = cnt pc) : em_Snd p l e R s m args below meth c D cl dA σ A nL cnt Pr Z Q pc (o_ladd n) := by
  intro k hk ls st hp h ρ arr H locs hr hl hP hD hS
  subst hn
  unfold o_ladd at h
  split at h
  · have h9 := hk _ _ _ _ h ρ arr H locs hr hl hP hD hS
    rw [hc] at h9
    exact lv_ladd C.1 C.2.1 hd h9
  · exact h.elim
def o_lsub (n : Nat) : em_Op := fun _ k ls st hp => match st with | .long y :: .long x :: r => k n ls (.long (x - y) :: r) hp | _ => False
theorem s_lsub (C : em_Cx p s m args c D cl A nL tys cc own) {pc n : Nat} (hd : decode cc pc = .ok (.lsub, 1)) (hn : pc + 1 = n) (hc : cnt n = cnt pc) : em_Snd p l e R s m args below meth c D cl dA σ A nL cnt Pr Z Q pc (o_lsub n) := by
  intro k hk ls st hp h ρ arr H locs hr hl hP hD hS
  subst hn
  unfold o_lsub at h
  split at h
  · have h9 := hk _ _ _ _ h ρ arr H locs hr hl hP hD hS
    rw [hc] at h9
    exact lv_lsub C.1 C.2.1 hd h9
  · exact h.elim
def o_lmul (n : Nat) : em_Op := fun _ k ls st hp => match st with | .long y :: .long x :: r => k n ls (.long (x * y) :: r) hp | _ => False
theorem s_lmul (C : em_Cx p s m args c D cl A nL tys cc own) {pc n : Nat} (hd : decode cc pc = .ok (.lmul, 1)) (hn : pc + 1 = n) (hc : cnt n = cnt pc) : em_Snd p l e R s m args below meth c D cl dA σ A nL cnt Pr Z Q pc (o_lmul n) := by
  intro k hk ls st hp h ρ arr H locs hr hl hP hD hS
  subst hn
  unfold o_lmul at h
  split at h
  · have h9 := hk _ _ _ _ h ρ arr H locs hr hl hP hD hS
    rw [hc] at h9
    exact lv_lmul C.1 C.2.1 hd h9
  · exact h.elim
def o_land (n : Nat) : em_Op := fun _ k ls st hp => match st with | .long y :: .long x :: r => k n ls (.long (x &&& y) :: r) hp | _ => False
theorem s_land (C : em_Cx p s m args c D cl A nL tys cc own) {pc n : Nat} (hd : decode cc pc = .ok (.land, 1)) (hn : pc + 1 = n) (hc : cnt n = cnt pc) : em_Snd p l e R s m args below meth c D cl dA σ A nL cnt Pr Z Q pc (o_land n) := by
  intro k hk ls st hp h ρ arr H locs hr hl hP hD hS
  subst hn
  unfold o_land at h
  split at h
  · have h9 := hk _ _ _ _ h ρ arr H locs hr hl hP hD hS
    rw [hc] at h9
    exact lv_land C.1 C.2.1 hd h9
  · exact h.elim
def o_lor (n : Nat) : em_Op := fun _ k ls st hp => match st with | .long y :: .long x :: r => k n ls (.long (x ||| y) :: r) hp | _ => False
theorem s_lor (C : em_Cx p s m args c D cl A nL tys cc own) {pc n : Nat} (hd : decode cc pc = .ok (.lor, 1)) (hn : pc + 1 = n) (hc : cnt n = cnt pc) : em_Snd p l e R s m args below meth c D cl dA σ A nL cnt Pr Z Q pc (o_lor n) := by
  intro k hk ls st hp h ρ arr H locs hr hl hP hD hS
  subst hn
  unfold o_lor at h
  split at h
  · have h9 := hk _ _ _ _ h ρ arr H locs hr hl hP hD hS
    rw [hc] at h9
    exact lv_lor C.1 C.2.1 hd h9
  · exact h.elim
def o_lxor (n : Nat) : em_Op := fun _ k ls st hp => match st with | .long y :: .long x :: r => k n ls (.long (x ^^^ y) :: r) hp | _ => False
theorem s_lxor (C : em_Cx p s m args c D cl A nL tys cc own) {pc n : Nat} (hd : decode cc pc = .ok (.lxor, 1)) (hn : pc + 1 = n) (hc : cnt n = cnt pc) : em_Snd p l e R s m args below meth c D cl dA σ A nL cnt Pr Z Q pc (o_lxor n) := by
  intro k hk ls st hp h ρ arr H locs hr hl hP hD hS
  subst hn
  unfold o_lxor at h
  split at h
  · have h9 := hk _ _ _ _ h ρ arr H locs hr hl hP hD hS
    rw [hc] at h9
    exact lv_lxor C.1 C.2.1 hd h9
  · exact h.elim
def o_ldiv (n : Nat) : em_Op := fun _ k ls st hp => match st with | .long y :: .long x :: r => ¬ y = 0 ∧ k n ls (.long (x / y) :: r) hp | _ => False
theorem s_ldiv (C : em_Cx p s m args c D cl A nL tys cc own) {pc n : Nat} (hd : decode cc pc = .ok (.ldiv, 1)) (hn : pc + 1 = n) (hc : cnt n = cnt pc) : em_Snd p l e R s m args below meth c D cl dA σ A nL cnt Pr Z Q pc (o_ldiv n) := by
  intro k hk ls st hp h ρ arr H locs hr hl hP hD hS
  subst hn
  unfold o_ldiv at h
  split at h
  · have h9 := hk _ _ _ _ h.2 ρ arr H locs hr hl hP hD hS
    rw [hc] at h9
    exact lv_ldiv C.1 C.2.1 hd h.1 h9
  · exact h.elim
def o_lrem (n : Nat) : em_Op := fun _ k ls st hp => match st with | .long y :: .long x :: r => ¬ y = 0 ∧ k n ls (.long (x - x / y * y) :: r) hp | _ => False
theorem s_lrem (C : em_Cx p s m args c D cl A nL tys cc own) {pc n : Nat} (hd : decode cc pc = .ok (.lrem, 1)) (hn : pc + 1 = n) (hc : cnt n = cnt pc) : em_Snd p l e R s m args below meth c D cl dA σ A nL cnt Pr Z Q pc (o_lrem n) := by
  intro k hk ls st hp h ρ arr H locs hr hl hP hD hS
  subst hn
  unfold o_lrem at h
  split at h
  · have h9 := hk _ _ _ _ h.2 ρ arr H locs hr hl hP hD hS
    rw [hc] at h9
    exact lv_lrem C.1 C.2.1 hd h.1 h9
  · exact h.elim
def o_lshl (n : Nat) : em_Op := fun _ k ls st hp => match st with | .int y :: .long x :: r => k n ls (.long (x <<< (y.toInt64 &&& 63)) :: r) hp | _ => False
theorem s_lshl (C : em_Cx p s m args c D cl A nL tys cc own) {pc n : Nat} (hd : decode cc pc = .ok (.lshl, 1)) (hn : pc + 1 = n) (hc : cnt n = cnt pc) : em_Snd p l e R s m args below meth c D cl dA σ A nL cnt Pr Z Q pc (o_lshl n) := by
  intro k hk ls st hp h ρ arr H locs hr hl hP hD hS
  subst hn
  unfold o_lshl at h
  split at h
  · have h9 := hk _ _ _ _ h ρ arr H locs hr hl hP hD hS
    rw [hc] at h9
    exact lv_lshl C.1 C.2.1 hd rfl h9
  · exact h.elim
def o_lshr (n : Nat) : em_Op := fun _ k ls st hp => match st with | .int y :: .long x :: r => k n ls (.long (x >>> (y.toInt64 &&& 63)) :: r) hp | _ => False
theorem s_lshr (C : em_Cx p s m args c D cl A nL tys cc own) {pc n : Nat} (hd : decode cc pc = .ok (.lshr, 1)) (hn : pc + 1 = n) (hc : cnt n = cnt pc) : em_Snd p l e R s m args below meth c D cl dA σ A nL cnt Pr Z Q pc (o_lshr n) := by
  intro k hk ls st hp h ρ arr H locs hr hl hP hD hS
  subst hn
  unfold o_lshr at h
  split at h
  · have h9 := hk _ _ _ _ h ρ arr H locs hr hl hP hD hS
    rw [hc] at h9
    exact lv_lshr C.1 C.2.1 hd rfl h9
  · exact h.elim
def o_i2l (n : Nat) : em_Op := fun _ k ls st hp => match st with | .int x :: r => k n ls (.long (x.toInt64) :: r) hp | _ => False
theorem s_i2l (C : em_Cx p s m args c D cl A nL tys cc own) {pc n : Nat} (hd : decode cc pc = .ok (.i2l, 1)) (hn : pc + 1 = n) (hc : cnt n = cnt pc) : em_Snd p l e R s m args below meth c D cl dA σ A nL cnt Pr Z Q pc (o_i2l n) := by
  intro k hk ls st hp h ρ arr H locs hr hl hP hD hS
  subst hn
  unfold o_i2l at h
  split at h
  · have h9 := hk _ _ _ _ h ρ arr H locs hr hl hP hD hS
    rw [hc] at h9
    exact lv_i2l C.1 C.2.1 hd rfl h9
  · exact h.elim
def o_l2i (n : Nat) : em_Op := fun _ k ls st hp => match st with | .long x :: r => k n ls (.int (x.toInt32) :: r) hp | _ => False
theorem s_l2i (C : em_Cx p s m args c D cl A nL tys cc own) {pc n : Nat} (hd : decode cc pc = .ok (.l2i, 1)) (hn : pc + 1 = n) (hc : cnt n = cnt pc) : em_Snd p l e R s m args below meth c D cl dA σ A nL cnt Pr Z Q pc (o_l2i n) := by
  intro k hk ls st hp h ρ arr H locs hr hl hP hD hS
  subst hn
  unfold o_l2i at h
  split at h
  · have h9 := hk _ _ _ _ h ρ arr H locs hr hl hP hD hS
    rw [hc] at h9
    exact lv_l2i C.1 C.2.1 hd rfl h9
  · exact h.elim
def o_i2b (n : Nat) : em_Op := fun _ k ls st hp => match st with | .int x :: r => k n ls (.int (x.toInt8.toInt32) :: r) hp | _ => False
theorem s_i2b (C : em_Cx p s m args c D cl A nL tys cc own) {pc n : Nat} (hd : decode cc pc = .ok (.i2b, 1)) (hn : pc + 1 = n) (hc : cnt n = cnt pc) : em_Snd p l e R s m args below meth c D cl dA σ A nL cnt Pr Z Q pc (o_i2b n) := by
  intro k hk ls st hp h ρ arr H locs hr hl hP hD hS
  subst hn
  unfold o_i2b at h
  split at h
  · have h9 := hk _ _ _ _ h ρ arr H locs hr hl hP hD hS
    rw [hc] at h9
    exact lv_i2b C.1 C.2.1 hd rfl h9
  · exact h.elim
def o_lcmp (n : Nat) : em_Op := fun _ k ls st hp => match st with | .long y :: .long x :: r => k n ls (.int (lg_cmp x y) :: r) hp | _ => False
theorem s_lcmp (C : em_Cx p s m args c D cl A nL tys cc own) {pc n : Nat} (hd : decode cc pc = .ok (.lcmp, 1)) (hn : pc + 1 = n) (hc : cnt n = cnt pc) : em_Snd p l e R s m args below meth c D cl dA σ A nL cnt Pr Z Q pc (o_lcmp n) := by
  intro k hk ls st hp h ρ arr H locs hr hl hP hD hS
  subst hn
  unfold o_lcmp at h
  split at h
  · have h9 := hk _ _ _ _ h ρ arr H locs hr hl hP hD hS
    rw [hc] at h9
    exact W.lcmp C.1 C.2.1 hd h9
  · exact h.elim
def o_pop (n : Nat) : em_Op := fun _ k ls st hp => match st with | .int _ :: r => k n ls r hp | _ => False
theorem s_pop (C : em_Cx p s m args c D cl A nL tys cc own) {pc n : Nat} (hd : decode cc pc = .ok (.pop, 1)) (hn : pc + 1 = n) (hc : cnt n = cnt pc) : em_Snd p l e R s m args below meth c D cl dA σ A nL cnt Pr Z Q pc (o_pop n) := by
  intro k hk ls st hp h ρ arr H locs hr hl hP hD hS
  subst hn
  unfold o_pop at h
  split at h
  · have h9 := hk _ _ _ _ h ρ arr H locs hr hl hP hD hS
    rw [hc] at h9
    exact lv_pop C.1 C.2.1 hd rfl h9
  · exact h.elim
def o_dup (n : Nat) : em_Op := fun _ k ls st hp => match st with | .ref a :: r => k n ls (.ref a :: .ref a :: r) hp | .int a :: r => k n ls (.int a :: .int a :: r) hp | _ => False
theorem s_dup (C : em_Cx p s m args c D cl A nL tys cc own) {pc n : Nat} (hd : decode cc pc = .ok (.dup, 1)) (hn : pc + 1 = n) (hc : cnt n = cnt pc) : em_Snd p l e R s m args below meth c D cl dA σ A nL cnt Pr Z Q pc (o_dup n) := by
  intro k hk ls st hp h ρ arr H locs hr hl hP hD hS
  subst hn
  unfold o_dup at h
  split at h
  · have h9 := hk _ _ _ _ h ρ arr H locs hr hl hP hD hS
    rw [hc] at h9
    exact lv_dup C.1 C.2.1 hd rfl h9
  · have h9 := hk _ _ _ _ h ρ arr H locs hr hl hP hD hS
    rw [hc] at h9
    exact lv_dup C.1 C.2.1 hd rfl h9
  · exact h.elim
def o_dup_x1 (n : Nat) : em_Op := fun _ k ls st hp => match st with | .int y :: .ref a :: r => k n ls (.int y :: .ref a :: .int y :: r) hp | _ => False
theorem s_dup_x1 (C : em_Cx p s m args c D cl A nL tys cc own) {pc n : Nat} (hd : decode cc pc = .ok (.dup_x1, 1)) (hn : pc + 1 = n) (hc : cnt n = cnt pc) : em_Snd p l e R s m args below meth c D cl dA σ A nL cnt Pr Z Q pc (o_dup_x1 n) := by
  intro k hk ls st hp h ρ arr H locs hr hl hP hD hS
  subst hn
  unfold o_dup_x1 at h
  split at h
  · have h9 := hk _ _ _ _ h ρ arr H locs hr hl hP hD hS
    rw [hc] at h9
    exact lv_dup_x1 C.1 C.2.1 hd rfl rfl h9
  · exact h.elim
def o_dup2 (n : Nat) : em_Op := fun _ k ls st hp => match st with | .int y :: .ref a :: r => k n ls (.int y :: .ref a :: .int y :: .ref a :: r) hp | _ => False
theorem s_dup2 (C : em_Cx p s m args c D cl A nL tys cc own) {pc n : Nat} (hd : decode cc pc = .ok (.dup2, 1)) (hn : pc + 1 = n) (hc : cnt n = cnt pc) : em_Snd p l e R s m args below meth c D cl dA σ A nL cnt Pr Z Q pc (o_dup2 n) := by
  intro k hk ls st hp h ρ arr H locs hr hl hP hD hS
  subst hn
  unfold o_dup2 at h
  split at h
  · have h9 := hk _ _ _ _ h ρ arr H locs hr hl hP hD hS
    rw [hc] at h9
    exact lv_dup2_11 C.1 C.2.1 hd rfl rfl h9
  · exact h.elim
def o_ifeq (t n : Nat) : em_Op := fun _ k ls st hp => match st with | .int x :: r => (x = 0 → k t ls r hp) ∧ (¬ x = 0 → k n ls r hp) | _ => False
theorem s_ifeq (C : em_Cx p s m args c D cl A nL tys cc own) {pc t n : Nat} {off : Int} (hd : decode cc pc = .ok (.ifCond .eq off, 3)) (ht : (pc : Int) + off = (t : Int)) (hn : pc + 3 = n) (hc : cnt n = cnt pc) (hc2 : cnt t = cnt pc) : em_Snd p l e R s m args below meth c D cl dA σ A nL cnt Pr Z Q pc (o_ifeq t n) := by
  intro k hk ls st hp h ρ arr H locs hr hl hP hD hS
  subst hn
  unfold o_ifeq at h
  split at h
  · refine lv_if_eq C.1 C.2.1 hd ht (fun z => ?_) (fun z => ?_)
    · have h9 := hk _ _ _ _ (h.1 z) ρ arr H locs hr hl hP hD hS
      rw [hc2] at h9
      exact h9
    · have h9 := hk _ _ _ _ (h.2 z) ρ arr H locs hr hl hP hD hS
      rw [hc] at h9
      exact h9
  · exact h.elim
def o_ifne (t n : Nat) : em_Op := fun _ k ls st hp => match st with | .int x :: r => (¬ x = 0 → k t ls r hp) ∧ (x = 0 → k n ls r hp) | _ => False
theorem s_ifne (C : em_Cx p s m args c D cl A nL tys cc own) {pc t n : Nat} {off : Int} (hd : decode cc pc = .ok (.ifCond .ne off, 3)) (ht : (pc : Int) + off = (t : Int)) (hn : pc + 3 = n) (hc : cnt n = cnt pc) (hc2 : cnt t = cnt pc) : em_Snd p l e R s m args below meth c D cl dA σ A nL cnt Pr Z Q pc (o_ifne t n) := by
  intro k hk ls st hp h ρ arr H locs hr hl hP hD hS
  subst hn
  unfold o_ifne at h
  split at h
  · refine lv_if_ne C.1 C.2.1 hd ht (fun z => ?_) (fun z => ?_)
    · have h9 := hk _ _ _ _ (h.1 z) ρ arr H locs hr hl hP hD hS
      rw [hc2] at h9
      exact h9
    · have h9 := hk _ _ _ _ (h.2 z) ρ arr H locs hr hl hP hD hS
      rw [hc] at h9
      exact h9
  · exact h.elim
def o_iflt (t n : Nat) : em_Op := fun _ k ls st hp => match st with | .int x :: r => (x < 0 → k t ls r hp) ∧ (¬ x < 0 → k n ls r hp) | _ => False
theorem s_iflt (C : em_Cx p s m args c D cl A nL tys cc own) {pc t n : Nat} {off : Int} (hd : decode cc pc = .ok (.ifCond .lt off, 3)) (ht : (pc : Int) + off = (t : Int)) (hn : pc + 3 = n) (hc : cnt n = cnt pc) (hc2 : cnt t = cnt pc) : em_Snd p l e R s m args below meth c D cl dA σ A nL cnt Pr Z Q pc (o_iflt t n) := by
  intro k hk ls st hp h ρ arr H locs hr hl hP hD hS
  subst hn
  unfold o_iflt at h
  split at h
  · refine lv_if_lt C.1 C.2.1 hd ht (fun z => ?_) (fun z => ?_)
    · have h9 := hk _ _ _ _ (h.1 z) ρ arr H locs hr hl hP hD hS
      rw [hc2] at h9
      exact h9
    · have h9 := hk _ _ _ _ (h.2 z) ρ arr H locs hr hl hP hD hS
      rw [hc] at h9
      exact h9
  · exact h.elim
def o_ifge (t n : Nat) : em_Op := fun _ k ls st hp => match st with | .int x :: r => (0 ≤ x → k t ls r hp) ∧ (¬ 0 ≤ x → k n ls r hp) | _ => False
theorem s_ifge (C : em_Cx p s m args c D cl A nL tys cc own) {pc t n : Nat} {off : Int} (hd : decode cc pc = .ok (.ifCond .ge off, 3)) (ht : (pc : Int) + off = (t : Int)) (hn : pc + 3 = n) (hc : cnt n = cnt pc) (hc2 : cnt t = cnt pc) : em_Snd p l e R s m args below meth c D cl dA σ A nL cnt Pr Z Q pc (o_ifge t n) := by
  intro k hk ls st hp h ρ arr H locs hr hl hP hD hS
  subst hn
  unfold o_ifge at h
  split at h
  · refine lv_if_ge C.1 C.2.1 hd ht (fun z => ?_) (fun z => ?_)
    · have h9 := hk _ _ _ _ (h.1 z) ρ arr H locs hr hl hP hD hS
      rw [hc2] at h9
      exact h9
    · have h9 := hk _ _ _ _ (h.2 z) ρ arr H locs hr hl hP hD hS
      rw [hc] at h9
      exact h9
  · exact h.elim
def o_ifgt (t n : Nat) : em_Op := fun _ k ls st hp => match st with | .int x :: r => (0 < x → k t ls r hp) ∧ (¬ 0 < x → k n ls r hp) | _ => False
theorem s_ifgt (C : em_Cx p s m args c D cl A nL tys cc own) {pc t n : Nat} {off : Int} (hd : decode cc pc = .ok (.ifCond .gt off, 3)) (ht : (pc : Int) + off = (t : Int)) (hn : pc + 3 = n) (hc : cnt n = cnt pc) (hc2 : cnt t = cnt pc) : em_Snd p l e R s m args below meth c D cl dA σ A nL cnt Pr Z Q pc (o_ifgt t n) := by
  intro k hk ls st hp h ρ arr H locs hr hl hP hD hS
  subst hn
  unfold o_ifgt at h
  split at h
  · refine lv_if_gt C.1 C.2.1 hd ht (fun z => ?_) (fun z => ?_)
    · have h9 := hk _ _ _ _ (h.1 z) ρ arr H locs hr hl hP hD hS
      rw [hc2] at h9
      exact h9
    · have h9 := hk _ _ _ _ (h.2 z) ρ arr H locs hr hl hP hD hS
      rw [hc] at h9
      exact h9
  · exact h.elim
def o_ifle (t n : Nat) : em_Op := fun _ k ls st hp => match st with | .int x :: r => (x ≤ 0 → k t ls r hp) ∧ (¬ x ≤ 0 → k n ls r hp) | _ => False
theorem s_ifle (C : em_Cx p s m args c D cl A nL tys cc own) {pc t n : Nat} {off : Int} (hd : decode cc pc = .ok (.ifCond .le off, 3)) (ht : (pc : Int) + off = (t : Int)) (hn : pc + 3 = n) (hc : cnt n = cnt pc) (hc2 : cnt t = cnt pc) : em_Snd p l e R s m args below meth c D cl dA σ A nL cnt Pr Z Q pc (o_ifle t n) := by
  intro k hk ls st hp h ρ arr H locs hr hl hP hD hS
  subst hn
  unfold o_ifle at h
  split at h
  · refine lv_if_le C.1 C.2.1 hd ht (fun z => ?_) (fun z => ?_)
    · have h9 := hk _ _ _ _ (h.1 z) ρ arr H locs hr hl hP hD hS
      rw [hc2] at h9
      exact h9
    · have h9 := hk _ _ _ _ (h.2 z) ρ arr H locs hr hl hP hD hS
      rw [hc] at h9
      exact h9
  · exact h.elim
def o_icmpeq (t n : Nat) : em_Op := fun _ k ls st hp => match st with | .int y :: .int x :: r => (x = y → k t ls r hp) ∧ (¬ x = y → k n ls r hp) | _ => False
theorem s_icmpeq (C : em_Cx p s m args c D cl A nL tys cc own) {pc t n : Nat} {off : Int} (hd : decode cc pc = .ok (.if_icmp .eq off, 3)) (ht : (pc : Int) + off = (t : Int)) (hn : pc + 3 = n) (hc : cnt n = cnt pc) (hc2 : cnt t = cnt pc) : em_Snd p l e R s m args below meth c D cl dA σ A nL cnt Pr Z Q pc (o_icmpeq t n) := by
  intro k hk ls st hp h ρ arr H locs hr hl hP hD hS
  subst hn
  unfold o_icmpeq at h
  split at h
  · refine lv_icmp_eq C.1 C.2.1 hd ht (fun z => ?_) (fun z => ?_)
    · have h9 := hk _ _ _ _ (h.1 z) ρ arr H locs hr hl hP hD hS
      rw [hc2] at h9
      exact h9
    · have h9 := hk _ _ _ _ (h.2 z) ρ arr H locs hr hl hP hD hS
      rw [hc] at h9
      exact h9
  · exact h.elim
def o_icmpne (t n : Nat) : em_Op := fun _ k ls st hp => match st with | .int y :: .int x :: r => (¬ x = y → k t ls r hp) ∧ (x = y → k n ls r hp) | _ => False
theorem s_icmpne (C : em_Cx p s m args c D cl A nL tys cc own) {pc t n : Nat} {off : Int} (hd : decode cc pc = .ok (.if_icmp .ne off, 3)) (ht : (pc : Int) + off = (t : Int)) (hn : pc + 3 = n) (hc : cnt n = cnt pc) (hc2 : cnt t = cnt pc) : em_Snd p l e R s m args below meth c D cl dA σ A nL cnt Pr Z Q pc (o_icmpne t n) := by
  intro k hk ls st hp h ρ arr H locs hr hl hP hD hS
  subst hn
  unfold o_icmpne at h
  split at h
  · refine lv_icmp_ne C.1 C.2.1 hd ht (fun z => ?_) (fun z => ?_)
    · have h9 := hk _ _ _ _ (h.1 z) ρ arr H locs hr hl hP hD hS
      rw [hc2] at h9
      exact h9
    · have h9 := hk _ _ _ _ (h.2 z) ρ arr H locs hr hl hP hD hS
      rw [hc] at h9
      exact h9
  · exact h.elim
def o_icmplt (t n : Nat) : em_Op := fun _ k ls st hp => match st with | .int y :: .int x :: r => (x < y → k t ls r hp) ∧ (¬ x < y → k n ls r hp) | _ => False
theorem s_icmplt (C : em_Cx p s m args c D cl A nL tys cc own) {pc t n : Nat} {off : Int} (hd : decode cc pc = .ok (.if_icmp .lt off, 3)) (ht : (pc : Int) + off = (t : Int)) (hn : pc + 3 = n) (hc : cnt n = cnt pc) (hc2 : cnt t = cnt pc) : em_Snd p l e R s m args below meth c D cl dA σ A nL cnt Pr Z Q pc (o_icmplt t n) := by
  intro k hk ls st hp h ρ arr H locs hr hl hP hD hS
  subst hn
  unfold o_icmplt at h
  split at h
  · refine lv_icmp_lt C.1 C.2.1 hd ht (fun z => ?_) (fun z => ?_)
    · have h9 := hk _ _ _ _ (h.1 z) ρ arr H locs hr hl hP hD hS
      rw [hc2] at h9
      exact h9
    · have h9 := hk _ _ _ _ (h.2 z) ρ arr H locs hr hl hP hD hS
      rw [hc] at h9
      exact h9
  · exact h.elim
def o_icmpge (t n : Nat) : em_Op := fun _ k ls st hp => match st with | .int y :: .int x :: r => (y ≤ x → k t ls r hp) ∧ (¬ y ≤ x → k n ls r hp) | _ => False
theorem s_icmpge (C : em_Cx p s m args c D cl A nL tys cc own) {pc t n : Nat} {off : Int} (hd : decode cc pc = .ok (.if_icmp .ge off, 3)) (ht : (pc : Int) + off = (t : Int)) (hn : pc + 3 = n) (hc : cnt n = cnt pc) (hc2 : cnt t = cnt pc) : em_Snd p l e R s m args below meth c D cl dA σ A nL cnt Pr Z Q pc (o_icmpge t n) := by
  intro k hk ls st hp h ρ arr H locs hr hl hP hD hS
  subst hn
  unfold o_icmpge at h
  split at h
  · refine lv_icmp_ge C.1 C.2.1 hd ht (fun z => ?_) (fun z => ?_)
    · have h9 := hk _ _ _ _ (h.1 z) ρ arr H locs hr hl hP hD hS
      rw [hc2] at h9
      exact h9
    · have h9 := hk _ _ _ _ (h.2 z) ρ arr H locs hr hl hP hD hS
      rw [hc] at h9
      exact h9
  · exact h.elim
def o_icmpgt (t n : Nat) : em_Op := fun _ k ls st hp => match st with | .int y :: .int x :: r => (y < x → k t ls r hp) ∧ (¬ y < x → k n ls r hp) | _ => False
theorem s_icmpgt (C : em_Cx p s m args c D cl A nL tys cc own) {pc t n : Nat} {off : Int} (hd : decode cc pc = .ok (.if_icmp .gt off, 3)) (ht : (pc : Int) + off = (t : Int)) (hn : pc + 3 = n) (hc : cnt n = cnt pc) (hc2 : cnt t = cnt pc) : em_Snd p l e R s m args below meth c D cl dA σ A nL cnt Pr Z Q pc (o_icmpgt t n) := by
  intro k hk ls st hp h ρ arr H locs hr hl hP hD hS
  subst hn
  unfold o_icmpgt at h
  split at h
  · refine lv_icmp_gt C.1 C.2.1 hd ht (fun z => ?_) (fun z => ?_)
    · have h9 := hk _ _ _ _ (h.1 z) ρ arr H locs hr hl hP hD hS
      rw [hc2] at h9
      exact h9
    · have h9 := hk _ _ _ _ (h.2 z) ρ arr H locs hr hl hP hD hS
      rw [hc] at h9
      exact h9
  · exact h.elim
def o_icmple (t n : Nat) : em_Op := fun _ k ls st hp => match st with | .int y :: .int x :: r => (x ≤ y → k t ls r hp) ∧ (¬ x ≤ y → k n ls r hp) | _ => False
theorem s_icmple (C : em_Cx p s m args c D cl A nL tys cc own) {pc t n : Nat} {off : Int} (hd : decode cc pc = .ok (.if_icmp .le off, 3)) (ht : (pc : Int) + off = (t : Int)) (hn : pc + 3 = n) (hc : cnt n = cnt pc) (hc2 : cnt t = cnt pc) : em_Snd p l e R s m args below meth c D cl dA σ A nL cnt Pr Z Q pc (o_icmple t n) := by
  intro k hk ls st hp h ρ arr H locs hr hl hP hD hS
  subst hn
  unfold o_icmple at h
  split at h
  · refine lv_icmp_le C.1 C.2.1 hd ht (fun z => ?_) (fun z => ?_)
    · have h9 := hk _ _ _ _ (h.1 z) ρ arr H locs hr hl hP hD hS
      rw [hc2] at h9
      exact h9
    · have h9 := hk _ _ _ _ (h.2 z) ρ arr H locs hr hl hP hD hS
      rw [hc] at h9
      exact h9
  · exact h.elim
def o_goto (t : Nat) : em_Op := fun _ k ls st hp => k t ls st hp
theorem s_goto (C : em_Cx p s m args c D cl A nL tys cc own) {pc t : Nat} {off : Int} (hd : decode cc pc = .ok (.goto off, 3)) (ht : (pc : Int) + off = (t : Int)) (hc : cnt t = cnt pc) : em_Snd p l e R s m args below meth c D cl dA σ A nL cnt Pr Z Q pc (o_goto t) := by
  intro k hk ls st hp h ρ arr H locs hr hl hP hD hS
  have h9 := hk _ _ _ _ h ρ arr H locs hr hl hP hD hS
  rw [hc] at h9
  exact lv_goto C.1 C.2.1 hd ht h9
def em_sw (k : Nat → Prop) (d : Nat) (x : Int32) : List (Int32 × Nat) → Prop
  | [] => k d
  | (v, t) :: r => (x = v → k t) ∧ (¬ x = v → em_sw k d x r)
theorem em_sw_to {k : Nat → Prop} {d : Nat} {x : Int32} : ∀ {L : List (Int32 × Nat)}, em_sw k d x L → (∃ (i : Nat) (q : Int32 × Nat), L[i]? = some q ∧ x = q.1 ∧ k q.2) ∨ ((∀ q ∈ L, x ≠ q.1) ∧ k d)
  | [], h => Or.inr ⟨fun q hq => (by cases hq), h⟩
  | (v, t) :: r, h => by
    by_cases hx : x = v
    · exact Or.inl ⟨0, (v, t), rfl, hx, h.1 hx⟩
    · rcases em_sw_to (h.2 hx) with ⟨i, q, h1, h2, h3⟩ | ⟨h1, h2⟩
      · exact Or.inl ⟨i + 1, q, h1, h2, h3⟩
      · refine Or.inr ⟨fun q hq => ?_, h2⟩
        rcases List.mem_cons.mp hq with rfl | hq
        · exact hx
        · exact h1 q hq
def o_sw (L : List (Int32 × Nat)) (d : Nat) : em_Op := fun _ k ls st hp => match st with | .int x :: r => em_sw (fun t => k t ls r hp) d x L | _ => False
theorem s_sw (C : em_Cx p s m args c D cl A nL tys cc own) {pc d len : Nat} {L : List (Int32 × Nat)} {dflt lo hi : Int} {offs : Array Int} (hd : decode cc pc = .ok (.tableswitch dflt lo hi offs, len)) (hL : L = offs.toList.mapIdx (fun i o => (Int32.ofInt (lo + i), ((pc : Int) + o).toNat))) (hz : hi = lo + offs.size - 1 ∧ -1000 ≤ lo ∧ hi ≤ 1000 ∧ (∀ o ∈ offs.toList, (0 : Int) ≤ (pc : Int) + o)) (ht : (pc : Int) + dflt = (d : Int)) (hc : ∀ t, cnt t = cnt pc) : em_Snd p l e R s m args below meth c D cl dA σ A nL cnt Pr Z Q pc (o_sw L d) := by
  intro k hk ls st hp h ρ arr H locs hr hl hP hD hS
  unfold o_sw at h
  split at h
  · rename_i x r
    rcases em_sw_to h with ⟨i, q, h1, h2, h3⟩ | ⟨h1, h2⟩
    · have h9 := hk _ _ _ _ h3 ρ arr H locs hr hl hP hD hS
      rw [hc] at h9
      rw [hL, List.getElem?_mapIdx] at h1
      have hlt : i < offs.toList.length := by
        rcases Nat.lt_or_ge i offs.toList.length with z | z
        · exact z
        · rw [List.getElem?_eq_none z] at h1; cases h1
      rw [List.getElem?_eq_getElem hlt] at h1
      cases h1
      have hsz : offs.toList.length = offs.size := by simp
      have hx : x.toInt = lo + i := by
        rw [h2]
        have a1 : (i : Int) < offs.size := by omega
        rw [Int32.toInt_ofInt_of_le (by omega) (by omega)]
      have e1 : (x.toInt - lo).toNat = i := by omega
      have hmem := hz.2.2.2 _ (List.getElem_mem hlt)
      refine lv_tableIn (off := offs.toList[i]) (tgt := ((pc : Int) + offs.toList[i]).toNat) C.1 C.2.1 hd (by omega) (by omega) ?_ (by omega) h9
      rw [e1]
      rw [← Array.getElem?_toList, List.getElem?_eq_getElem hlt]
    · have h9 := hk _ _ _ _ h2 ρ arr H locs hr hl hP hD hS
      rw [hc] at h9
      refine lv_tableOut C.1 C.2.1 hd ?_ ht h9
      rcases Int.lt_or_le x.toInt lo with z | z
      · exact Or.inl z
      · rcases Int.lt_or_le hi x.toInt with z2 | z2
        · exact Or.inr z2
        · exfalso
          have hsz : offs.toList.length = offs.size := by simp
          have hlt : (x.toInt - lo).toNat < offs.toList.length := by omega
          refine h1 (Int32.ofInt (lo + (x.toInt - lo).toNat), ((pc : Int) + offs.toList[(x.toInt - lo).toNat]).toNat) ?_ ?_
          · rw [hL]
            refine List.mem_of_getElem? (i := (x.toInt - lo).toNat) ?_
            rw [List.getElem?_mapIdx, List.getElem?_eq_getElem hlt]
            rfl
          · show x = Int32.ofInt (lo + (x.toInt - lo).toNat)
            rw [show lo + ((x.toInt - lo).toNat : Int) = x.toInt by omega]
            simp
  · exact h.elim
end EMA
