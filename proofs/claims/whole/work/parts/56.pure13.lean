/-! ===== numbers as rows of digits; the first best row, step by step ===== -/
def dg (b k c p : Nat) : Nat := c / b ^ (k - 1 - p) % b
theorem dg_lt {b k c p : Nat} (hb : 0 < b) : dg b k c p < b := Nat.mod_lt _ hb
/-- the number that the first p digits spell -/
theorem pre_eq {b k c d : Nat} (hc : c < b ^ k) (hd : d < b ^ k) : ∀ p, p ≤ k → (∀ q, q < p → dg b k c q = dg b k d q) → c / b ^ (k - p) = d / b ^ (k - p)
  | 0, _, _ => by
    rw [Nat.sub_zero, Nat.div_eq_of_lt hc, Nat.div_eq_of_lt hd]
  | p + 1, hp, h => by
    have ih := pre_eq hc hd p (by omega) (fun q hq => h q (by omega))
    have hpp := h p (by omega)
    unfold dg at hpp
    have e : k - p = (k - (p + 1)) + 1 := by omega
    have e2 : k - 1 - p = k - (p + 1) := by omega
    rw [e2] at hpp
    rw [e, Nat.pow_succ, ← Nat.div_div_eq_div_mul, ← Nat.div_div_eq_div_mul] at ih
    have h1 := Nat.div_add_mod (c / b ^ (k - (p + 1))) b
    have h2 := Nat.div_add_mod (d / b ^ (k - (p + 1))) b
    rw [ih, hpp] at h1
    omega
theorem lex_lt {b k c d p : Nat} (hc : c < b ^ k) (hd : d < b ^ k) (hp : p < k) (h : ∀ q, q < p → dg b k c q = dg b k d q) (hl : dg b k c p < dg b k d p) : c < d := by
  rcases Nat.lt_or_ge c d with q | q
  · exact q
  · exfalso
    have e := pre_eq hc hd p (by omega) h
    have hdiv : d / b ^ (k - (p + 1)) ≤ c / b ^ (k - (p + 1)) := Nat.div_le_div_right q
    unfold dg at hl
    rw [show k - 1 - p = k - (p + 1) by omega] at hl
    rw [show k - p = (k - (p + 1)) + 1 by omega, Nat.pow_succ, ← Nat.div_div_eq_div_mul, ← Nat.div_div_eq_div_mul] at e
    have h1 := Nat.div_add_mod (c / b ^ (k - (p + 1))) b
    have h2 := Nat.div_add_mod (d / b ^ (k - (p + 1))) b
    rw [e] at h1
    omega
def enc (b : Nat) (f : Nat → Nat) : Nat → Nat
  | 0 => 0
  | k + 1 => enc b f k * b + f k
theorem enc_lt {b : Nat} {f : Nat → Nat} (h : ∀ p, f p < b) : ∀ k, enc b f k < b ^ k
  | 0 => by rw [enc]; exact Nat.one_pos
  | k + 1 => by
    have ih := enc_lt h k
    have := h k
    have h2 : enc b f k * b + b ≤ b ^ k * b := by
      have : (enc b f k + 1) * b ≤ b ^ k * b := Nat.mul_le_mul_right b ih
      rw [Nat.add_mul, Nat.one_mul] at this
      exact this
    rw [enc, Nat.pow_succ]
    omega
theorem enc_div {b : Nat} {f : Nat → Nat} (h : ∀ p, f p < b) (m : Nat) : ∀ j, enc b f (m + j) / b ^ j = enc b f m
  | 0 => by rw [Nat.pow_zero, Nat.div_one]; rfl
  | j + 1 => by
    have hb : 0 < b := Nat.lt_of_le_of_lt (Nat.zero_le _) (h 0)
    rw [← Nat.add_assoc, enc, Nat.pow_succ, Nat.mul_comm (b ^ j) b, ← Nat.div_div_eq_div_mul, Nat.add_comm, Nat.add_mul_div_right _ _ hb, Nat.div_eq_of_lt (h (m + j)), Nat.zero_add]
    exact enc_div h m j
theorem enc_dg {b : Nat} {f : Nat → Nat} (h : ∀ p, f p < b) {k p : Nat} (hp : p < k) : dg b k (enc b f k) p = f p := by
  unfold dg
  have := enc_div h (p + 1) (k - 1 - p)
  rw [show p + 1 + (k - 1 - p) = k by omega] at this
  rw [this, enc, Nat.add_comm, Nat.add_mul_mod_self_right]
  exact Nat.mod_eq_of_lt (h p)
section FB
variable {S : Type} {step : Nat → S → Nat → Option S} {V : Nat → Nat → S → Option Nat} {val : S → Nat} {G : Nat → Nat → S → Nat} {I : Nat → S → Prop} {b k : Nat}
/-- r steps by the digits of a row, from place p on -/
def fbR (step : Nat → S → Nat → Option S) (x : Nat → Nat) : Nat → Nat → S → Option S
  | 0, _, s => some s
  | r + 1, p, s => match step p s (x p) with
    | none => none
    | some s' => fbR step x r (p + 1) s'
theorem fbR_c {x y : Nat → Nat} : ∀ (r p : Nat) (s : S), (∀ q, p ≤ q → q < p + r → x q = y q) → fbR step x r p s = fbR step y r p s
  | 0, _, _, _ => rfl
  | r + 1, p, s, h => by
    rw [fbR, fbR, h p (Nat.le_refl _) (by omega)]
    cases step p s (y p) with
    | none => rfl
    | some s' => exact fbR_c r (p + 1) s' (fun q h1 h2 => h q (by omega) (by omega))
theorem fbR_add {x : Nat → Nat} : ∀ (r j p : Nat) (s : S), fbR step x (r + j) p s = match fbR step x r p s with
    | none => none
    | some s' => fbR step x j (p + r) s'
  | 0, j, p, s => by rw [Nat.zero_add]; rfl
  | r + 1, j, p, s => by
    rw [show r + 1 + j = (r + j) + 1 by omega, fbR, fbR]
    cases step p s (x p) with
    | none => rfl
    | some s' =>
      dsimp only
      rw [fbR_add r j (p + 1) s', show p + 1 + r = p + (r + 1) by omega]
/-- what the best is by, and the choice that reaches it first -/
def fbH (step : Nat → S → Nat → Option S) (V : Nat → Nat → S → Option Nat) (val : S → Nat) (G : Nat → Nat → S → Nat) (I : Nat → S → Prop) (b k : Nat) : Prop :=
  (∀ p s d s', p < k → I p s → d < b → step p s d = some s' → I (p + 1) s') ∧
  (∀ s, I k s → V 0 k s = some (val s)) ∧
  (∀ r p s d s' v, p + (r + 1) = k → I p s → d < b → step p s d = some s' → V r (p + 1) s' = some v → ∃ w, V (r + 1) p s = some w ∧ v ≤ w) ∧
  (∀ r p s w, p + (r + 1) = k → I p s → V (r + 1) p s = some w → G r p s < b ∧ ∃ s', step p s (G r p s) = some s' ∧ V r (p + 1) s' = some w ∧ ∀ d s'', d < G r p s → step p s d = some s'' → V r (p + 1) s'' ≠ some w)
theorem fb_ub (h : fbH step V val G I b k) {x : Nat → Nat} (hx : ∀ q, x q < b) : ∀ (r p : Nat) (s sf : S), p + r = k → I p s → fbR step x r p s = some sf → ∃ w, V r p s = some w ∧ val sf ≤ w
  | 0, p, s, sf, hp, hI, e => by
    have hp : p = k := by omega
    subst hp
    cases e
    exact ⟨_, h.2.1 _ hI, Nat.le_refl _⟩
  | r + 1, p, s, sf, hp, hI, e => by
    rw [fbR] at e
    cases hs : step p s (x p) with
    | none => rw [hs] at e; cases e
    | some s' =>
      rw [hs] at e
      obtain ⟨v, hv, hle⟩ := fb_ub h hx r (p + 1) s' sf (by omega) (h.1 p s _ s' (by omega) hI (hx p) hs) e
      obtain ⟨w, hw, hle2⟩ := h.2.2.1 r p s _ s' v (by omega) hI (hx p) hs hv
      exact ⟨w, hw, Nat.le_trans hle hle2⟩
theorem fb_at (h : fbH step V val G I b k) (hb : 0 < b) : ∀ (r p : Nat) (s : S) (w : Nat), p + r = k → I p s → V r p s = some w → ∃ (y : Nat → Nat) (sf : S), (∀ q, y q < b) ∧ fbR step y r p s = some sf ∧ val sf = w ∧ ∀ r', r = r' + 1 → y p = G r' p s
  | 0, p, s, w, hp, hI, e => by
    have hp : p = k := by omega
    subst hp
    rw [h.2.1 s hI] at e
    exact ⟨fun _ => 0, s, fun _ => hb, rfl, Option.some.inj e, fun r' q => by omega⟩
  | r + 1, p, s, w, hp, hI, e => by
    obtain ⟨hg, s', hs, hv, -⟩ := h.2.2.2 r p s w hp hI e
    obtain ⟨y, sf, h1, h2, h3, -⟩ := fb_at h hb r (p + 1) s' w (by omega) (h.1 p s _ s' (by omega) hI hg hs) hv
    refine ⟨fun q => if q = p then G r p s else y q, sf, fun q => ?_, ?_, h3, fun r' hr => ?_⟩
    · show (if q = p then G r p s else y q) < b
      by_cases hq : q = p
      · rw [if_pos hq]; exact hg
      · rw [if_neg hq]; exact h1 q
    · rw [fbR, if_pos rfl, hs]
      dsimp only
      rw [fbR_c (y := y) r (p + 1) s' (fun q a1 a2 => if_neg (by omega))]
      exact h2
    · have : r' = r := by omega
      subst this
      exact if_pos rfl
/-- the first best row is the one that the choices make -/
theorem fb_first (h : fbH step V val G I b k) (hb : 0 < b) {s0 sf : S} {d : Nat} (hI : I 0 s0) (hd : d < b ^ k) (hr : fbR step (dg b k d) k 0 s0 = some sf) (hm : ∀ c, c < b ^ k → ∀ s', fbR step (dg b k c) k 0 s0 = some s' → val s' ≤ val sf ∧ (c < d → val s' < val sf)) :
    V k 0 s0 = some (val sf) ∧ ∀ p, p ≤ k → ∃ s, fbR step (dg b k d) p 0 s0 = some s ∧ I p s ∧ V (k - p) p s = some (val sf) ∧ (p < k → dg b k d p = G (k - p - 1) p s) := by
  have key : ∀ p, p ≤ k → ∀ (s : S) (w : Nat), fbR step (dg b k d) p 0 s0 = some s → I p s → V (k - p) p s = some w → w = val sf ∧ (p < k → dg b k d p = G (k - p - 1) p s ∧ ∃ s', step p s (dg b k d p) = some s' ∧ I (p + 1) s' ∧ V (k - (p + 1)) (p + 1) s' = some w) := by
    intro p hp s w hs hIp hV
    obtain ⟨y, sy, y1, y2, y3, y4⟩ := fb_at h hb (k - p) p s w (by omega) hIp hV
    -- the row that goes on by the choices
    obtain ⟨f, hf⟩ : ∃ f : Nat → Nat, f = fun q => if q < p then dg b k d q else y q := ⟨_, rfl⟩
    have f1 : ∀ q, f q < b := fun q => by
      rw [hf]
      show (if q < p then dg b k d q else y q) < b
      split
      · exact dg_lt hb
      · exact y1 q
    have flo : ∀ q, q < p → f q = dg b k d q := fun q hq => by rw [hf]; exact if_pos hq
    have fhi : ∀ q, p ≤ q → f q = y q := fun q hq => by rw [hf]; exact if_neg (by omega)
    have hc := enc_lt f1 k
    have hcd : ∀ q, q < k → dg b k (enc b f k) q = f q := fun q hq => enc_dg f1 hq
    have hrun : fbR step (dg b k (enc b f k)) k 0 s0 = some sy := by
      rw [fbR_c (y := f) k 0 s0 (fun q _ h2 => hcd q (by omega))]
      have := fbR_add (step := step) (x := f) p (k - p) 0 s0
      rw [show p + (k - p) = k by omega] at this
      rw [this, fbR_c (y := dg b k d) p 0 s0 (fun q _ h2 => flo q (by omega)), hs]
      dsimp only
      rw [Nat.zero_add, fbR_c (y := y) (k - p) p s (fun q h1 _ => fhi q h1)]
      exact y2
    obtain ⟨m1, m2⟩ := hm _ hc _ hrun
    rw [y3] at m1 m2
    have hrest : fbR step (dg b k d) (k - p) p s = some sf := by
      have := fbR_add (step := step) (x := dg b k d) p (k - p) 0 s0
      rw [show p + (k - p) = k by omega, hr, hs] at this
      dsimp only at this
      rw [Nat.zero_add] at this
      exact this.symm
    obtain ⟨w', hw', hle⟩ := fb_ub h (fun q => dg_lt hb) (k - p) p s sf (by omega) hIp hrest
    rw [hV] at hw'
    have hw' := Option.some.inj hw'
    have hwe : w = val sf := by omega
    refine ⟨hwe, fun hpk => ?_⟩
    obtain ⟨r, hr9⟩ : ∃ r, k - p = r + 1 := ⟨k - p - 1, by omega⟩
    have e1 : k - p - 1 = r := by omega
    have e2 : k - (p + 1) = r := by omega
    rw [hr9] at hV hrest
    rw [e1, e2]
    have hy := y4 r hr9
    obtain ⟨g1, sg, g2, g3, g4⟩ := h.2.2.2 r p s w (by omega) hIp hV
    rw [fbR] at hrest
    cases hst : step p s (dg b k d p) with
    | none => rw [hst] at hrest; cases hrest
    | some s1 =>
      rw [hst] at hrest
      have hI1 := h.1 p s _ s1 hpk hIp (dg_lt hb) hst
      obtain ⟨v, hv, hle2⟩ := fb_ub h (fun q => dg_lt hb) r (p + 1) s1 sf (by omega) hI1 hrest
      obtain ⟨w2, hw2, hle3⟩ := h.2.2.1 r p s _ s1 v (by omega) hIp (dg_lt hb) hst hv
      rw [hV] at hw2
      have hw2 := Option.some.inj hw2
      have hvw : v = w := by omega
      subst hvw
      have heq : dg b k d p = G r p s := by
        rcases Nat.lt_trichotomy (dg b k d p) (G r p s) with q | q | q
        · exact absurd hv (g4 _ s1 q hst)
        · exact q
        · exfalso
          have hlt : enc b f k < d := lex_lt hc hd hpk (fun q' hq' => by rw [hcd q' (by omega), flo q' hq']) (by rw [hcd p hpk, fhi p (Nat.le_refl _), hy]; exact q)
          have := m2 hlt
          omega
      exact ⟨heq, s1, rfl, hI1, hv⟩
  have all : ∀ p, p ≤ k → ∃ s, fbR step (dg b k d) p 0 s0 = some s ∧ I p s ∧ V (k - p) p s = some (val sf) := by
    intro p
    induction p with
    | zero =>
      intro _
      obtain ⟨w, hw, -⟩ := fb_ub h (fun q => dg_lt hb) k 0 s0 sf (by omega) hI hr
      obtain ⟨e, -⟩ := key 0 (Nat.zero_le _) s0 w rfl hI hw
      exact ⟨s0, rfl, hI, by rw [← e]; exact hw⟩
    | succ p ih =>
      intro hp
      obtain ⟨s, h1, h2, h3⟩ := ih (by omega)
      obtain ⟨-, h4⟩ := key p (by omega) s _ h1 h2 h3
      obtain ⟨h5, s', h6, h7, h8⟩ := h4 (by omega)
      refine ⟨s', ?_, h7, h8⟩
      rw [fbR_add p 1 0 s0, h1]
      dsimp only
      rw [Nat.zero_add, fbR, h6]; rfl
  refine ⟨?_, fun p hp => ?_⟩
  · obtain ⟨s, h1, h2, h3⟩ := all 0 (Nat.zero_le _)
    cases h1
    exact h3
  · obtain ⟨s, h1, h2, h3⟩ := all p hp
    exact ⟨s, h1, h2, h3, fun hpk => ((key p hp s _ h1 h2 h3).2 hpk).1⟩
/-- none is best: none is there -/
theorem fb_none (h : fbH step V val G I b k) (hb : 0 < b) {s0 : S} (hI : I 0 s0) (hV : V k 0 s0 = none) (c : Nat) : fbR step (dg b k c) k 0 s0 = none := by
  cases e : fbR step (dg b k c) k 0 s0 with
  | none => rfl
  | some sf =>
    obtain ⟨w, hw, -⟩ := fb_ub h (fun q => dg_lt hb) k 0 s0 sf (by omega) hI e
    rw [hV] at hw
    cases hw
end FB
/-- the first best number, tried one behind the other -/
def bsF (ok : Nat → Bool) (v : Nat → Nat) : Nat → Option Nat
  | 0 => none
  | c + 1 => match bsF ok v c with
    | none => if ok c = true then some c else none
    | some d => if (ok c && decide (v d < v c)) = true then some c else some d
theorem bsF_spec {ok : Nat → Bool} {v : Nat → Nat} : ∀ n, (∀ d, bsF ok v n = some d → d < n ∧ ok d = true ∧ ∀ c, c < n → ok c = true → v c ≤ v d ∧ (c < d → v c < v d)) ∧ (bsF ok v n = none → ∀ c, c < n → ok c = false)
  | 0 => ⟨fun d h => (nomatch h), fun _ c hc => (by omega)⟩
  | n + 1 => by
    obtain ⟨h1, h2⟩ := bsF_spec (ok := ok) (v := v) n
    rw [bsF]
    cases e : bsF ok v n with
    | none =>
      have h2 := h2 e
      dsimp only
      cases ho : ok n with
      | false =>
        refine ⟨fun d h => (by rw [if_neg Bool.false_ne_true] at h; exact nomatch h), fun _ c hc => ?_⟩
        by_cases q : c = n
        · rw [q]; exact ho
        · exact h2 c (by omega)
      | true =>
        refine ⟨fun d h => ?_, fun h => (by rw [if_pos rfl] at h; exact nomatch h)⟩
        rw [if_pos rfl] at h
        have h := Option.some.inj h
        subst h
        refine ⟨by omega, ho, fun c hc hoc => ?_⟩
        by_cases q : c = n
        · subst q; exact ⟨Nat.le_refl _, fun z => by omega⟩
        · rw [h2 c (by omega)] at hoc; cases hoc
    | some d0 =>
      obtain ⟨a1, a2, a3⟩ := h1 d0 e
      dsimp only
      by_cases hc0 : (ok n && decide (v d0 < v n)) = true
      · refine ⟨fun d h => ?_, fun h => (by rw [if_pos hc0] at h; exact nomatch h)⟩
        rw [if_pos hc0] at h
        have h := Option.some.inj h
        subst h
        have hh := Bool.and_eq_true_iff.mp hc0
        have hlt := of_decide_eq_true hh.2
        refine ⟨by omega, hh.1, fun c hc hoc => ?_⟩
        by_cases q : c = n
        · subst q; exact ⟨Nat.le_refl _, fun z => by omega⟩
        · have := (a3 c (by omega) hoc).1
          exact ⟨by omega, fun _ => by omega⟩
      · refine ⟨fun d h => ?_, fun h => (by rw [if_neg hc0] at h; exact nomatch h)⟩
        rw [if_neg hc0] at h
        have h := Option.some.inj h
        subst h
        refine ⟨by omega, a2, fun c hc hoc => ?_⟩
        by_cases q : c = n
        · subst q
          have : ¬ v d0 < v c := fun z => hc0 (by rw [hoc, decide_eq_true z]; rfl)
          exact ⟨by omega, fun z => by omega⟩
        · exact a3 c (by omega) hoc
