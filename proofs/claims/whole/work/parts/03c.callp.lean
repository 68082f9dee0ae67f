
/-! ===== a part of the world, by places ===== -/
def em_idx (g : Nat) : List Nat → Nat → Option Nat
  | [], _ => none
  | x :: r, i => bif Nat.beq x g then some i else em_idx g r (i + 1)
def em_iv (pk : List Nat) : Value → Option Value
  | .ref g => match em_idx g pk 0 with
    | some i => some (.ref i)
    | none => none
  | v => some v
def em_ivs (pk : List Nat) : List Value → Option (List Value)
  | [] => some []
  | v :: r => match em_iv pk v with
    | some v' => (match em_ivs pk r with
      | some r' => some (v' :: r')
      | none => none)
    | none => none
def em_iE (pk : List Nat) : va_E → Option va_E
  | .inr (c, fs) => match em_ivs pk fs with
    | some fs' => some (.inr (c, fs'))
    | none => none
  | .inl (t, n, .inl f) => some (.inl (t, n, .inl f))
  | .inl (t, n, .inr (.inl f)) => some (.inl (t, n, .inr (.inl f)))
  | _ => none
def em_iW (pk : List Nat) (hp : em_H) : List Nat → Option em_H
  | [] => some []
  | i :: r => match em_hn hp i with
    | some x => (match em_iE pk x with
      | some y => (match em_iW pk hp r with
        | some l => some (y :: l)
        | none => none)
      | none => none)
    | none => none
def em_at : List Nat → Nat → Nat
  | [], _ => 0
  | x :: _, 0 => x
  | _ :: r, i + 1 => em_at r i
def em_atK : List Nat → Nat → (Nat → Prop) → Prop
  | [], _, k => k 0
  | x :: _, 0, k => k x
  | _ :: r, i + 1, k => em_atK r i k
theorem em_atK_eq : ∀ (l : List Nat) (i : Nat) (k : Nat → Prop), em_atK l i k = k (em_at l i)
  | [], i, k => by cases i <;> rfl
  | x :: _, 0, k => rfl
  | _ :: r, i + 1, k => em_atK_eq r i k
def em_rv (pk : List Nat) : Value → Value
  | .ref i => .ref (em_at pk i)
  | v => v
def em_rvsK (pk : List Nat) : List Value → (List Value → Prop) → Prop
  | [], k => k []
  | .ref i :: r, k => em_atK pk i (fun j => em_rvsK pk r (fun r' => k (.ref j :: r')))
  | v :: r, k => em_rvsK pk r (fun r' => k (v :: r'))
theorem em_rvsK_eq (pk : List Nat) : ∀ (l : List Value) (k : List Value → Prop), em_rvsK pk l k = k (l.map (em_rv pk))
  | [], k => rfl
  | v :: r, k => by
    cases v <;> first
      | (show em_atK pk _ _ = _; rw [em_atK_eq]; show em_rvsK pk r _ = _; rw [em_rvsK_eq pk r]; rfl)
      | (show em_rvsK pk r _ = _; rw [em_rvsK_eq pk r]; rfl)
def em_rE (pk : List Nat) : va_E → va_E
  | .inr (c, fs) => .inr (c, fs.map (em_rv pk))
  | .inl (t, n, .inr (.inr (.inr (.inr f)))) => .inl (t, n, .inr (.inr (.inr (.inr (fun i => (f i).map (em_at pk))))))
  | x => x
def em_rEK (pk : List Nat) : va_E → (va_E → Prop) → Prop
  | .inr (c, fs), k => em_rvsK pk fs (fun fs' => k (.inr (c, fs')))
  | .inl (t, n, .inr (.inr (.inr (.inr f)))), k => k (.inl (t, n, .inr (.inr (.inr (.inr (fun i => (f i).map (em_at pk)))))))
  | x, k => k x
theorem em_rEK_eq (pk : List Nat) (x : va_E) (k : va_E → Prop) : em_rEK pk x k = k (em_rE pk x) := by
  match x with
  | .inr (c, fs) => show em_rvsK pk fs _ = _; rw [em_rvsK_eq]; rfl
  | .inl (t, n, .inl f) => rfl
  | .inl (t, n, .inr (.inl f)) => rfl
  | .inl (t, n, .inr (.inr (.inl f))) => rfl
  | .inl (t, n, .inr (.inr (.inr (.inl f)))) => rfl
  | .inl (t, n, .inr (.inr (.inr (.inr f)))) => rfl
def em_putK (pk0 : List Nat) : em_H → List Nat → em_H → (em_H → Prop) → Prop
  | hp, [], _, k => k hp
  | hp, i :: is, x :: xs, k => em_rEK pk0 x (fun y => em_hs hp i y (fun hp2 => em_putK pk0 hp2 is xs k))
  | _, _ :: _, [], _ => False
theorem em_putK_to (pk0 : List Nat) : ∀ (is : List Nat) (hp xs : em_H) (k : em_H → Prop), va_nd is = true → em_putK pk0 hp is xs k →
    ∃ hp2 : em_H, k hp2 ∧ hp2.length = hp.length ∧ (∀ j, j ∉ is → hp2[j]? = hp[j]?) ∧ ∀ (i g : Nat), is[i]? = some g → g < hp.length → ∃ x, xs[i]? = some x ∧ hp2[g]? = some (em_rE pk0 x)
  | [], hp, xs, k, _, h => ⟨hp, (by cases xs <;> exact h), rfl, fun _ _ => rfl, fun i g hi => by cases hi⟩
  | g0 :: is, hp, [], k, _, h => h.elim
  | g0 :: is, hp, x :: xs, k, hn, h => by
    have h : em_rEK pk0 x (fun y => em_hs hp g0 y (fun hp2 => em_putK pk0 hp2 is xs k)) := h
    rw [em_rEK_eq, em_hs_eq] at h
    simp only [va_nd, Bool.and_eq_true, decide_eq_true_eq] at hn
    obtain ⟨hp2, h1, h2, h3, h4⟩ := em_putK_to pk0 is _ xs k hn.2 h
    rw [List.length_set] at h2
    refine ⟨hp2, h1, h2, fun j hj => ?_, fun i g hi hg => ?_⟩
    · rw [h3 j (fun z => hj (List.mem_cons_of_mem _ z)), List.getElem?_set_ne (fun z => hj (by rw [z]; exact List.mem_cons_self))]
    · cases i with
      | zero =>
        rw [List.getElem?_cons_zero] at hi
        cases hi
        refine ⟨x, rfl, ?_⟩
        rw [h3 _ hn.1, List.getElem?_set_self hg]
      | succ i =>
        rw [List.getElem?_cons_succ] at hi
        obtain ⟨y, hy1, hy2⟩ := h4 i g hi (by rw [List.length_set]; exact hg)
        exact ⟨y, by rw [List.getElem?_cons_succ]; exact hy1, hy2⟩
theorem em_idx_at {g : Nat} : ∀ {pk : List Nat} {o i : Nat}, em_idx g pk o = some i → o ≤ i ∧ em_at pk (i - o) = g
  | [], o, i, h => by cases h
  | x :: r, o, i, h => by
    unfold em_idx at h
    cases hb : Nat.beq x g with
    | true =>
      rw [hb] at h
      cases h
      have := Nat.eq_of_beq_eq_true hb
      subst this
      exact ⟨Nat.le_refl _, by rw [Nat.sub_self]; rfl⟩
    | false =>
      rw [hb] at h
      obtain ⟨h1, h2⟩ := em_idx_at (pk := r) h
      refine ⟨by omega, ?_⟩
      rw [show i - o = (i - (o + 1)) + 1 by omega]
      exact h2
theorem em_iv_v {σ ρ : Nat → Nat} {pk : List Nat} {v v' : Value} (h : em_iv pk v = some v') : em_v σ (fun i => ρ (em_at pk i)) v' = em_v σ ρ v := by
  cases v with
  | ref g =>
    simp only [em_iv] at h
    split at h
    · rename_i i hi
      cases h
      obtain ⟨-, h2⟩ := em_idx_at hi
      rw [Nat.sub_zero] at h2
      show Value.ref (ρ (em_at pk i)) = Value.ref (ρ g)
      rw [h2]
    · cases h
  | _ => cases h; rfl
theorem em_ivs_v {σ ρ : Nat → Nat} {pk : List Nat} : ∀ {l l' : List Value}, em_ivs pk l = some l' → l'.map (em_v σ (fun i => ρ (em_at pk i))) = l.map (em_v σ ρ)
  | [], l', h => by cases h; rfl
  | v :: r, l', h => by
    simp only [em_ivs] at h
    split at h
    · rename_i v' hv
      split at h
      · rename_i r' hr
        cases h
        rw [List.map_cons, List.map_cons, em_iv_v hv, em_ivs_v hr]
      · cases h
    · cases h
theorem em_iE_e {σ ρ : Nat → Nat} {dA : Nat → ClassId} {pk : List Nat} {x y : va_E} (h : em_iE pk x = some y) : em_e σ dA (fun i => ρ (em_at pk i)) y = em_e σ dA ρ x := by
  match x, h with
  | .inr (c, fs), h =>
    simp only [em_iE] at h
    split at h
    · rename_i fs' hf
      cases h
      show Sum.inr (c, _) = Sum.inr (c, _)
      rw [em_ivs_v hf]
    · cases h
  | .inl (t, n, .inl f), h => cases h; rfl
  | .inl (t, n, .inr (.inl f)), h => cases h; rfl
theorem em_iW_get {pk : List Nat} {hp : em_H} : ∀ {is : List Nat} {lw : em_H}, em_iW pk hp is = some lw → lw.length = is.length ∧ ∀ (i : Nat) (y : va_E), lw[i]? = some y → ∃ g x, is[i]? = some g ∧ em_hn hp g = some x ∧ em_iE pk x = some y
  | [], lw, h => by cases h; exact ⟨rfl, fun i y hy => by cases hy⟩
  | g :: r, lw, h => by
    simp only [em_iW] at h
    split at h
    · rename_i x hx
      split at h
      · rename_i y hy
        split at h
        · rename_i l hl
          cases h
          obtain ⟨h1, h2⟩ := em_iW_get hl
          refine ⟨by simp [h1], fun i z hz => ?_⟩
          cases i with
          | zero => cases hz; exact ⟨g, x, rfl, hx, hy⟩
          | succ i =>
            rw [List.getElem?_cons_succ] at hz
            obtain ⟨g', x', e1, e2, e3⟩ := h2 i z hz
            exact ⟨g', x', by rw [List.getElem?_cons_succ]; exact e1, e2, e3⟩
        · cases h
      · cases h
    · cases h
theorem em_at_get : ∀ {pk : List Nat} {i g : Nat}, pk[i]? = some g → em_at pk i = g
  | [], i, g, h => by cases h
  | x :: r, 0, g, h => by cases h; rfl
  | x :: r, i + 1, g, h => by rw [List.getElem?_cons_succ] at h; exact em_at_get (pk := r) h
theorem em_rv_v {σ ρ : Nat → Nat} {pk : List Nat} (v : Value) : em_v σ ρ (em_rv pk v) = em_v σ (fun i => ρ (em_at pk i)) v := by cases v <;> rfl
theorem em_rE_e {σ ρ : Nat → Nat} {dA : Nat → ClassId} {pk : List Nat} (x : va_E) : em_e σ dA ρ (em_rE pk x) = em_e σ dA (fun i => ρ (em_at pk i)) x := by
  match x with
  | .inr (c, fs) =>
    show Sum.inr (c, _) = Sum.inr (c, _)
    rw [List.map_map]
    congr 2
    exact List.map_congr_left (fun v _ => em_rv_v v)
  | .inl (t, n, .inl f) => rfl
  | .inl (t, n, .inr (.inl f)) => rfl
  | .inl (t, n, .inr (.inr (.inl f))) => rfl
  | .inl (t, n, .inr (.inr (.inr (.inl f)))) => rfl
  | .inl (t, n, .inr (.inr (.inr (.inr f)))) =>
    show Sum.inl (dA t, n, _) = Sum.inl (dA t, n, _)
    congr 7
    funext i
    show Option.map ρ (Option.map (em_at pk) (f i)) = _
    cases f i <;> rfl
theorem em_iW_w {σ ρ : Nat → Nat} {dA : Nat → ClassId} {pk : List Nat} {hp lw : em_H} (h : em_iW pk hp pk = some lw) : pk.map (fun i => (em_w σ dA ρ hp)[i]?) = (em_w σ dA (fun i => ρ (em_at pk i)) lw).map some := by
  obtain ⟨h1, h2⟩ := em_iW_get h
  apply List.ext_getElem?
  intro i
  rw [List.getElem?_map, List.getElem?_map]
  by_cases hi : i < lw.length
  · obtain ⟨g, x, e1, e2, e3⟩ := h2 i lw[i] (List.getElem?_eq_getElem hi)
    rw [e1]
    have e4 : em_hn lw i = some lw[i] := by rw [em_hn_eq]; exact List.getElem?_eq_getElem hi
    rw [Option.map_some, em_w_get e2, em_w_get e4, Option.map_some, em_at_get e1, em_iE_e e3]
  · rw [List.getElem?_eq_none (by omega), List.getElem?_eq_none (by rw [em_w_len]; omega)]
    rfl
theorem em_D_addr {A : Nat → Prop} {w1 w2 : va_W} (h : va_D A w1) (hk : ∀ (k : Nat) (q : Nat × va_E), w2[k]? = some q → ∃ q0, w1[k]? = some q0 ∧ q0.1 = q.1) : va_D A w2 := by
  refine ⟨fun i j x y hi hj hxy => ?_, fun k q hq => ?_⟩
  · obtain ⟨x0, a1, a2⟩ := hk i x hi
    obtain ⟨y0, b1, b2⟩ := hk j y hj
    exact h.1 i j x0 y0 a1 b1 (a2.trans (hxy.trans b2.symm))
  · obtain ⟨q0, a1, a2⟩ := hk k q hq
    rw [← a2]
    exact h.2 k q0 a1
theorem em_w_at {σ ρ : Nat → Nat} {dA : Nat → ClassId} {hp : em_H} {k : Nat} {q : Nat × va_E} (h : (em_w σ dA ρ hp)[k]? = some q) : ∃ x, em_hn hp k = some x ∧ q = (ρ k, em_e σ dA ρ x) := by
  rw [em_w, List.getElem?_mapIdx] at h
  rw [em_hn_eq]
  cases hx : hp[k]? with
  | none => rw [hx] at h; cases h
  | some x => rw [hx] at h; cases h; exact ⟨x, rfl, rfl⟩
/-- the whole world behind a call over a part of it -/
theorem em_joinP {σ ρ : Nat → Nat} {dA : Nat → ClassId} {D : va_G} {cl : List vw_C} {A : Nat → Prop} {pk : List Nat} {hp lw hp' hp2 : em_H} {H H1 : Heap} (hlw : em_iW pk hp pk = some lw) (hP : va_P D cl (em_w σ dA ρ hp) H) (hD : va_D A (em_w σ dA ρ hp))
    (hk : ∀ q : Nat, q < H.size → ¬ va_A (em_w σ dA (fun i => ρ (em_at pk i)) lw) H.size q → H1[q]? = H[q]?) (hP1 : va_P D cl (em_w σ dA (fun i => ρ (em_at pk i)) hp') H1)
    (hlen : hp2.length = hp.length) (h3 : ∀ j, j ∉ pk → hp2[j]? = hp[j]?) (h4 : ∀ (i g : Nat), pk[i]? = some g → g < hp.length → ∃ x, hp'[i]? = some x ∧ hp2[g]? = some (em_rE pk x)) :
    va_P D cl (em_w σ dA ρ hp2) H1 ∧ va_D A (em_w σ dA ρ hp2) := by
  obtain ⟨hl1, hl2⟩ := em_iW_get hlw
  refine ⟨fun k q hq => ?_, em_D_addr hD (fun k q hq => ?_)⟩
  · obtain ⟨x2, hx2, rfl⟩ := em_w_at hq
    have hkl : k < hp.length := by
      rw [em_hn_eq] at hx2
      rw [← hlen]
      exact (List.getElem?_eq_some_iff.mp hx2).1
    by_cases hm : k ∈ pk
    · obtain ⟨i, hi⟩ := List.getElem?_of_mem hm
      obtain ⟨x, e1, e2⟩ := h4 i k hi hkl
      rw [em_hn_eq, e2] at hx2
      cases hx2
      have hx' : em_hn hp' i = some x := by rw [em_hn_eq]; exact e1
      have := hP1 i _ (em_w_get hx')
      rw [em_at_get hi] at this
      rw [em_rE_e]
      exact this
    · rw [em_hn_eq, h3 k hm, ← em_hn_eq] at hx2
      have h0 := em_w_get (σ := σ) (dA := dA) (ρ := ρ) hx2
      have hat := hP k _ h0
      refine hat.kept (hk _ hat.lt ?_)
      rintro (⟨i, e, hi⟩ | hge)
      · obtain ⟨y, hy, heq⟩ := em_w_at hi
        rw [em_hn_eq] at hy
        obtain ⟨g, x, e1, e2, e3⟩ := hl2 i y hy
        have h5 := em_w_get (σ := σ) (dA := dA) (ρ := ρ) e2
        have hkg : k = g := hD.1 k g _ _ h0 h5 (by
          have := congrArg Prod.fst heq
          show ρ k = ρ g
          rw [← em_at_get e1]
          exact this)
        subst hkg
        exact hm (List.mem_of_getElem? e1)
      · have := hat.lt
        exact absurd hge (Nat.not_le.mpr this)
  · obtain ⟨x2, hx2, rfl⟩ := em_w_at hq
    have hkl : k < hp.length := by
      rw [em_hn_eq] at hx2
      rw [← hlen]
      exact (List.getElem?_eq_some_iff.mp hx2).1
    have e4 : em_hn hp k = some hp[k] := by rw [em_hn_eq]; exact List.getElem?_eq_getElem hkl
    exact ⟨_, em_w_get e4, rfl⟩
def o_callP (a : Nat) (rc : Option Nat) (pk : List Nat) (sp : em_Sp) (n : Nat) : em_Op := fun _ K ls st hp => em_popn a st [] (fun av r => bif Nat.ble (em_cat r) 8 then (match em_ivs pk av, em_iW pk hp pk with
  | some av', some lw => em_rcv rc av' lw (sp av' lw (fun v hp' => em_putK pk hp pk hp' (em_ret K n ls r v)))
  | _, _ => False) else False)
section EMD
variable {p : Program} {l : Launch} {e : Env} {R : Room} {s : State} {m : MethodId} {args : Array Value} {below : List Frame} {meth : Method} {c : Code} {D : va_G} {cl : List vw_C} {dA : Nat → ClassId} {σ : Nat → Nat} {A : Nat → Prop} {nL : Nat} {cnt : Nat → Nat × Nat} {Pr : (Nat → Nat) → Prop} {Z : State → Prop}
variable {cc : ByteArray} {Q : em_Q} {own : String}
theorem em_backP {ρ : Nat → Nat} {pk : List Nat} {hp lw : em_H} {H : Heap} {locs : List Loc} {K : em_K} {n pc : Nat} {ls : em_L} {arr : Array Slot} {r st : List Value} {a : Array Value} (hk : ∀ pc' ls st hp, K pc' ls st hp → em_Ok p l e R s m args below meth c D cl dA σ A nL cnt Pr Z pc' ls st hp) (hn : pc + 3 = n) (hc : cnt n = cnt pc) (hr : Pr ρ) (hl : em_LH σ ρ arr nL ls) (hS : va_S A s.heap H locs) (hP : va_P D cl (em_w σ dA ρ hp) H) (hD : va_D A (em_w σ dA ρ hp)) (hnd : va_nd pk = true) (hlw : em_iW pk hp pk = some lw)
    (hFc : ∀ q, va_A (em_w σ dA (fun i => ρ (em_at pk i)) lw) H.size q → A q)
    (hrun : va_Run p l e R s m args below meth c H locs (cnt pc).1 (cnt pc).2 0 0 (F0 m pc arr st) (r.map (em_v σ ρ)) (em_Qc D cl dA σ (fun ρ' => ρ' = (fun i => ρ (em_at pk i))) (fun v hp' => em_putK pk hp pk hp' (em_ret K n ls r v)) (va_A (em_w σ dA (fun i => ρ (em_at pk i)) lw) H.size) a) (va_A (em_w σ dA (fun i => ρ (em_at pk i)) lw) H.size)) :
    W p l e R s m args below meth c H locs (cnt pc).1 (cnt pc).2 Z (F0 m pc arr st) := by
  intro T hT X
  obtain ⟨v, st₀, t, T', L, h0, X', hL, e1, e2, ⟨⟨v2, ρ', hp', hv, hpv, hQ, hρ, hP', hD'⟩, hz, hq9⟩, st⟩ := hrun T hT X
  cases hv
  subst hρ
  rw [h0] at hz hq9
  obtain ⟨hp2, hQ2, hlen, h3, h4⟩ := em_putK_to pk pk hp hp' _ hnd hQ
  have hS' : va_S A s.heap T'.heap (locs ++ L) := ⟨Nat.le_trans hS.1 (by rw [e1]; exact hz), fun q h1 h2 => by rw [e1, hq9 q (Nat.lt_of_lt_of_le h1 hS.1) (fun z => h2 (hFc q z))]; exact hS.2.1 q h1 h2, fun q hq => by
      rcases List.mem_append.mp hq with h | h
      · exact hS.2.2 q h
      · exact hFc _ (hL q h)⟩
  obtain ⟨hP9, hD9⟩ := em_joinP (H1 := T'.heap) hlw hP hD (fun q h1 h2 => by rw [e1]; exact hq9 q h1 h2) (by rw [e1]; exact hP') hlen h3 h4
  subst hn
  cases v with
  | none =>
    have h9 := hk _ _ _ _ hQ2 ρ arr T'.heap (locs ++ L) hr hl hP9 hD9 hS'
    rw [hc] at h9
    obtain ⟨t2, a1, b1⟩ := h9 T' rfl X'
    exact ⟨t2, st t2 a1, b1⟩
  | some x =>
    have h9 := hk _ _ _ _ hQ2 ρ arr T'.heap (locs ++ L) hr hl hP9 hD9 hS'
    rw [hc, List.map_cons, em_pv_v hpv] at h9
    obtain ⟨t2, a1, b1⟩ := h9 T' rfl X'
    exact ⟨t2, st t2 a1, b1⟩

theorem s_callPS (C : em_Cx p s m args c D cl A nL (em_tys dA) cc own) {pc n index a maxL : Nat} {F : em_FT} {y : MethodName} {bytes : ByteArray} {ret : Option FieldType} {rm : Room} {sp : em_Sp} {pk : List Nat} (hFok : em_Fok F) (hF : F A s s.heap) (hM : em_CT l D cl dA σ F y bytes maxL ret rm sp) (hrm : rm.cells = 0 ∧ rm.slots = 0) (hw1 : Cond.code y bytes maxL ret ∈ em_tb) (hwl : Cond.methodLink own index y ∈ em_tb) (hws : Cond.static y ∈ em_tb) (hwi : Cond.initialized y.cls ∈ em_tb) (hd2 : y.cls ≠ "java/lang/invoke/MethodHandle" ∧ y.cls ≠ "java/lang/invoke/VarHandle" ∧ (parseMethodDescriptor y.desc).map (fun d => d.parameters.length) = some a) (hR : rm.frames + 1 ≤ R.frames ∧ 8 + (maxL + 11) + rm.locals ≤ R.locals) (hd : decode cc pc = .ok (.invokestatic index, 3)) (hn : pc + 3 = n) (hc : cnt n = cnt pc) (hcr : (cnt pc).1 + 0 ≤ R.cells ∧ (cnt pc).2 + 0 ≤ R.slots) (hnd : va_nd pk = true) : em_Snd p l e R s m args below meth c D cl dA σ A nL cnt Pr Z Q pc (o_callP a none pk sp n) := by
  intro k hk ls st hp h ρ arr H locs hr hl hP hD hS
  unfold o_callP at h
  obtain ⟨av, r, hst, hav, h⟩ := em_popn_to _ _ _ _ h
  rw [List.append_nil] at h
  cases hb8 : Nat.ble (em_cat r) 8 with
  | false => rw [hb8] at h; exact h.elim
  | true =>
    rw [hb8] at h
    have h8 := Nat.le_of_ble_eq_true hb8
    cases hav2 : em_ivs pk av with
    | none => rw [hav2] at h; exact h.elim
    | some av' =>
      cases hlw : em_iW pk hp pk with
      | none => rw [hav2, hlw] at h; exact h.elim
      | some lw =>
        rw [hav2, hlw] at h
        have h : em_rcv none av' lw (sp av' lw (fun v hp' => em_putK pk hp pk hp' (em_ret k n ls r v))) := h
        obtain ⟨h, hrc⟩ := em_rcv_to h
        have hmap := em_ivs_v (σ := σ) (ρ := ρ) hav2
        have hCw := em_iW_w (σ := σ) (dA := dA) (ρ := ρ) hlw
        have hPl : va_P D cl (em_w σ dA (fun i => ρ (em_at pk i)) lw) H := by
          refine hP.sub pk ?_
          have e : (pk.map (fun i => (em_w σ dA ρ hp)[i]?)).filterMap id = ((em_w σ dA (fun i => ρ (em_at pk i)) lw).map some).filterMap id := by rw [hCw]
          simpa [List.filterMap_map] using e
        have hDl : va_D A (em_w σ dA (fun i => ρ (em_at pk i)) lw) := hD.sub pk hnd hCw
        obtain ⟨hbl, hpr, hFc⟩ := em_pre (av := av') C hFok hF hPl hDl hS
        have hG : GoodIn em_tb (Cond.code y bytes maxL ret :: em_tb) := fun w hw => by
          rcases List.mem_cons.mp hw with rfl | hw
          · exact em_tb_good _ hw1
          · exact em_tb_good _ hw
        have hlen' : av'.length = av.length := by
          have := congrArg List.length hmap
          simpa using this
        have hstk : st.map (em_v σ ρ) = (av'.map (em_v σ (fun i => ρ (em_at pk i)))).reverse ++ r.map (em_v σ ρ) := by rw [hst, List.map_append, List.map_reverse, hmap]
        have cb := callB_of (R := R) (s := s) (args := args) (own := own) (index := index) (y := y) (bytes := bytes) (maxL := maxL) (ret := ret) (rm := rm) a C.2.2.2.2.1 hG rfl hrm.1 hrm.2 (C.2.2.2.2.1 _ hwi) (C.2.2.2.2.1 _ hwl) hd2 hR
        refine em_backP hk hn hc hr hl hS hP hD hnd hlw hFc (r := r) (a := ((av'.map (em_v σ (fun i => ρ (em_at pk i)))).toArray)) ?_
        exact va_runS (As := av'.map (em_v σ (fun i => ρ (em_at pk i)))) (rest := r.map (em_v σ ρ)) ⟨C.1, C.2.1, C.2.2.1, C.2.2.2.1, C.2.2.2.2.1⟩ (hM _ lw H.size av' _ h) ⟨cb, C.2.2.2.2.1 _ hws⟩ ⟨hbl, hpr⟩ rfl (by rw [List.length_map, hlen']; exact hav) hl.2.1 hstk (lv_room (by rw [em_cat_eq]; exact h8)) hd hcr
theorem s_callPSN (C : em_Cx p s m args c D cl A nL (em_tys dA) cc own) {pc n index a maxL : Nat} {F : em_FT} {y : MethodName} {bytes : ByteArray} {ret : Option FieldType} {rm : Room} {sp : em_Sp} {pk : List Nat} (hFok : em_Fok F) (hF : F A s s.heap) (hM : em_CT l D cl dA σ F y bytes maxL ret rm sp) (hrm : rm.cells = 0 ∧ rm.slots = 0) (hw1 : Cond.code y bytes maxL ret ∈ em_tb) {host : String} (hnl : va_Nw (.methodLinkNest own index y host) s) (hws : Cond.static y ∈ em_tb) (hwi : Cond.initialized y.cls ∈ em_tb) (hd2 : y.cls ≠ "java/lang/invoke/MethodHandle" ∧ y.cls ≠ "java/lang/invoke/VarHandle" ∧ (parseMethodDescriptor y.desc).map (fun d => d.parameters.length) = some a) (hR : rm.frames + 1 ≤ R.frames ∧ 8 + (maxL + 11) + rm.locals ≤ R.locals) (hd : decode cc pc = .ok (.invokestatic index, 3)) (hn : pc + 3 = n) (hc : cnt n = cnt pc) (hcr : (cnt pc).1 + 0 ≤ R.cells ∧ (cnt pc).2 + 0 ≤ R.slots) (hnd : va_nd pk = true) : em_Snd p l e R s m args below meth c D cl dA σ A nL cnt Pr Z Q pc (o_callP a none pk sp n) := by
  intro k hk ls st hp h ρ arr H locs hr hl hP hD hS
  unfold o_callP at h
  obtain ⟨av, r, hst, hav, h⟩ := em_popn_to _ _ _ _ h
  rw [List.append_nil] at h
  cases hb8 : Nat.ble (em_cat r) 8 with
  | false => rw [hb8] at h; exact h.elim
  | true =>
    rw [hb8] at h
    have h8 := Nat.le_of_ble_eq_true hb8
    cases hav2 : em_ivs pk av with
    | none => rw [hav2] at h; exact h.elim
    | some av' =>
      cases hlw : em_iW pk hp pk with
      | none => rw [hav2, hlw] at h; exact h.elim
      | some lw =>
        rw [hav2, hlw] at h
        have h : em_rcv none av' lw (sp av' lw (fun v hp' => em_putK pk hp pk hp' (em_ret k n ls r v))) := h
        obtain ⟨h, hrc⟩ := em_rcv_to h
        have hmap := em_ivs_v (σ := σ) (ρ := ρ) hav2
        have hCw := em_iW_w (σ := σ) (dA := dA) (ρ := ρ) hlw
        have hPl : va_P D cl (em_w σ dA (fun i => ρ (em_at pk i)) lw) H := by
          refine hP.sub pk ?_
          have e : (pk.map (fun i => (em_w σ dA ρ hp)[i]?)).filterMap id = ((em_w σ dA (fun i => ρ (em_at pk i)) lw).map some).filterMap id := by rw [hCw]
          simpa [List.filterMap_map] using e
        have hDl : va_D A (em_w σ dA (fun i => ρ (em_at pk i)) lw) := hD.sub pk hnd hCw
        obtain ⟨hbl, hpr, hFc⟩ := em_pre (av := av') C hFok hF hPl hDl hS
        have hG : GoodIn em_tb (Cond.code y bytes maxL ret :: em_tb) := fun w hw => by
          rcases List.mem_cons.mp hw with rfl | hw
          · exact em_tb_good _ hw1
          · exact em_tb_good _ hw
        have hlen' : av'.length = av.length := by
          have := congrArg List.length hmap
          simpa using this
        have hstk : st.map (em_v σ ρ) = (av'.map (em_v σ (fun i => ρ (em_at pk i)))).reverse ++ r.map (em_v σ ρ) := by rw [hst, List.map_append, List.map_reverse, hmap]
        have cb := va_cnB (R := R) (own := own) (index := index) (y := y) (bytes := bytes) (maxL := maxL) (ret := ret) (rm := rm) a C.2.2.2.2.1 hG rfl hrm.1 hrm.2 hnl (C.2.2.2.2.1 _ hwi) hd2 hR
        refine em_backP hk hn hc hr hl hS hP hD hnd hlw hFc (r := r) (a := ((av'.map (em_v σ (fun i => ρ (em_at pk i)))).toArray)) ?_
        exact va_runSN (As := av'.map (em_v σ (fun i => ρ (em_at pk i)))) (rest := r.map (em_v σ ρ)) ⟨C.1, C.2.1, C.2.2.1, C.2.2.2.1, C.2.2.2.2.1⟩ (hM _ lw H.size av' _ h) ⟨cb, C.2.2.2.2.1 _ hws, trivial⟩ ⟨hbl, hpr⟩ rfl (by rw [List.length_map, hlen']; exact hav) hl.2.1 hstk (lv_room (by rw [em_cat_eq]; exact h8)) hd hcr
theorem s_callPV (C : em_Cx p s m args c D cl A nL (em_tys dA) cc own) {pc n index a maxL : Nat} {F : em_FT} {y : MethodName} {bytes : ByteArray} {ret : Option FieldType} {rm : Room} {sp : em_Sp} {pk : List Nat} (hFok : em_Fok F) (hF : F A s s.heap) (hM : em_CT l D cl dA σ F y bytes maxL ret rm sp) (hrm : rm.cells = 0 ∧ rm.slots = 0) (hw1 : Cond.code y bytes maxL ret ∈ em_tb) {ci : Nat} {T : u_T} {N : Nat} (hcl : em_Cl cl ci y.cls T N) (hwl : Cond.methodLink own index y ∈ em_tb) (hws : Cond.instanceMethod y ∈ em_tb) (hwe : Cond.selects y.cls y y ∈ em_tb) (hwi : Cond.initialized y.cls ∈ em_tb) (hd2 : y.cls ≠ "java/lang/invoke/MethodHandle" ∧ y.cls ≠ "java/lang/invoke/VarHandle" ∧ (parseMethodDescriptor y.desc).map (fun d => d.parameters.length) = some a) (hR : rm.frames + 1 ≤ R.frames ∧ 8 + (maxL + 11) + rm.locals ≤ R.locals) (hd : decode cc pc = .ok (.invokevirtual index, 3)) (hn : pc + 3 = n) (hc : cnt n = cnt pc) (hcr : (cnt pc).1 + 0 ≤ R.cells ∧ (cnt pc).2 + 0 ≤ R.slots) (hnd : va_nd pk = true) : em_Snd p l e R s m args below meth c D cl dA σ A nL cnt Pr Z Q pc (o_callP (a + 1) (some ci) pk sp n) := by
  intro k hk ls st hp h ρ arr H locs hr hl hP hD hS
  unfold o_callP at h
  obtain ⟨av, r, hst, hav, h⟩ := em_popn_to _ _ _ _ h
  rw [List.append_nil] at h
  cases hb8 : Nat.ble (em_cat r) 8 with
  | false => rw [hb8] at h; exact h.elim
  | true =>
    rw [hb8] at h
    have h8 := Nat.le_of_ble_eq_true hb8
    cases hav2 : em_ivs pk av with
    | none => rw [hav2] at h; exact h.elim
    | some av' =>
      cases hlw : em_iW pk hp pk with
      | none => rw [hav2, hlw] at h; exact h.elim
      | some lw =>
        rw [hav2, hlw] at h
        have h : em_rcv (some ci) av' lw (sp av' lw (fun v hp' => em_putK pk hp pk hp' (em_ret k n ls r v))) := h
        obtain ⟨h, hrc⟩ := em_rcv_to h
        have hmap := em_ivs_v (σ := σ) (ρ := ρ) hav2
        have hCw := em_iW_w (σ := σ) (dA := dA) (ρ := ρ) hlw
        have hPl : va_P D cl (em_w σ dA (fun i => ρ (em_at pk i)) lw) H := by
          refine hP.sub pk ?_
          have e : (pk.map (fun i => (em_w σ dA ρ hp)[i]?)).filterMap id = ((em_w σ dA (fun i => ρ (em_at pk i)) lw).map some).filterMap id := by rw [hCw]
          simpa [List.filterMap_map] using e
        have hDl : va_D A (em_w σ dA (fun i => ρ (em_at pk i)) lw) := hD.sub pk hnd hCw
        obtain ⟨hbl, hpr, hFc⟩ := em_pre (av := av') C hFok hF hPl hDl hS
        have hG : GoodIn em_tb (Cond.code y bytes maxL ret :: em_tb) := fun w hw => by
          rcases List.mem_cons.mp hw with rfl | hw
          · exact em_tb_good _ hw1
          · exact em_tb_good _ hw
        have hlen' : av'.length = av.length := by
          have := congrArg List.length hmap
          simpa using this
        have hstk : st.map (em_v σ ρ) = (av'.map (em_v σ (fun i => ρ (em_at pk i)))).reverse ++ r.map (em_v σ ρ) := by rw [hst, List.map_append, List.map_reverse, hmap]
        obtain ⟨b, vs, fs, rfl, he⟩ := hrc ci rfl
        have cb := callB_of (R := R) (s := s) (args := args) (own := own) (index := index) (y := y) (bytes := bytes) (maxL := maxL) (ret := ret) (rm := rm) a C.2.2.2.2.1 hG rfl hrm.1 hrm.2 (C.2.2.2.2.1 _ hwi) (C.2.2.2.2.1 _ hwl) hd2 hR
        refine em_backP hk hn hc hr hl hS hP hD hnd hlw hFc (r := r) (a := (((Value.ref b :: vs).map (em_v σ (fun i => ρ (em_at pk i)))).toArray)) ?_
        exact va_runV (C := y.cls) (b := ρ (em_at pk b)) (As := vs.map (em_v σ (fun i => ρ (em_at pk i)))) (rest := r.map (em_v σ ρ)) ⟨C.1, C.2.1, C.2.2.1, C.2.2.2.1, C.2.2.2.2.1⟩ (hM _ lw H.size _ _ h) ⟨cb, C.2.2.2.2.1 _ hws, C.2.2.2.2.1 _ hwe⟩ ⟨hbl, va_recv C.2.2.2.2.2.1 hPl hcl.1 (em_w_get he), hpr⟩ rfl (by rw [List.length_map]; simp only [List.length_cons] at hlen'; omega) hl.2.1 (by rw [hstk]; simp [em_v]) (lv_room (by rw [em_cat_eq]; exact h8)) hd hcr
end EMD
