/-! ===== dinners ===== -/
theorem bt2_pm {B S : Nat → Nat} {ki : Nat → Int32} {a b : Nat} (h : CR B ki) (hS : SOK S) (ha : a < B 0) (hb : b < B 0) (hab : a ≠ b) : btN (B 0) ki (nI (B 5)) (pm S) a b = pm (tlN B S a b) := by
  rw [btN, if_pos ⟨ha, hb, hab⟩]
  exact btN_pm h hS ha hb hab
theorem tl_ok {B S : Nat → Nat} {ki : Nat → Int32} {a b : Nat} (h : CR B ki) (hS : SOK S) (ha : a < B 0) (hb : b < B 0) : SOK (tlN B S a b) := by
  have h0 := h.1.1
  exact tlN_ok (by omega) (by omega) hS
theorem dine_pm {B S : Nat → Nat} {ki : Nat → Int32} {a b d : Nat} (h : CR B ki) (hS : SOK S) (ha : a < B 0) (hb : b < B 0) (hab : a ≠ b) : rwB (B 0) a b (nI (B 5)) (nI (B 6)) (nI (B 7)) (fun d => bdn (B 0) ki (nI (B 5)) a b d (pm (tlN B S a b))) d = (dine B a b S d).isSome ∧ ∀ S', dine B a b S d = some S' → bdn (B 0) ki (nI (B 5)) a b d (pm (tlN B S a b)) = pm S' ∧ SOK S' := by
  have h0 := h.1.1
  have h6 := h.1.2.2.2.1
  have h7 := h.1.2.2.2.2.1
  have hT := tl_ok h hS ha hb
  obtain ⟨T, eT⟩ : ∃ T, T = tlN B S a b := ⟨_, rfl⟩
  rw [← eT] at hT ⊢
  have hsel : (if 6 < d then b else a) = (if d ≤ 6 then a else b) := by
    by_cases q : d ≤ 6
    · rw [if_pos q, if_neg (by omega)]
    · rw [if_neg q, if_pos (by omega)]
  unfold dine rwB cbB
  rw [← eT]
  by_cases hd : d = 0
  · rw [if_pos hd, decide_eq_true (Or.inl hd), Bool.true_and]
    have e1 : bdn (B 0) ki (nI (B 5)) a b d (pm T) = pm T := by rw [bdn, if_pos hd]
    dsimp only
    rw [e1, mwB_pm h6 h7 hT (by omega) (by omega)]
    cases hl : isL B T a b with
    | true =>
      rw [if_pos rfl]
      exact ⟨rfl, fun S' e => by rw [← Option.some.inj e]; exact ⟨rfl, hT⟩⟩
    | false =>
      rw [if_neg Bool.false_ne_true]
      exact ⟨rfl, fun S' e => nomatch e⟩
  · rw [if_neg hd]
    by_cases hc : (d - 1) % 6 < B 0 ∧ (d - 1) % 6 ≠ a ∧ (d - 1) % 6 ≠ b
    · rw [if_pos hc, decide_eq_true (Or.inr hc), Bool.true_and, hsel]
      have hw : (if d ≤ 6 then a else b) < B 0 := by split <;> assumption
      have hwn : (if d ≤ 6 then a else b) ≠ (d - 1) % 6 := by
        split
        · exact fun q => hc.2.1 q.symm
        · exact fun q => hc.2.2 q.symm
      have e1 : bdn (B 0) ki (nI (B 5)) a b d (pm T) = pm (tlN B T (if d ≤ 6 then a else b) ((d - 1) % 6)) := by
        rw [bdn, if_neg hd, bt2_pm h hT hw hc.1 hwn]
      have hU := tl_ok h hT hw hc.1
      dsimp only
      rw [e1, mwB_pm h6 h7 hU (by omega) (by omega)]
      cases hl : isL B (tlN B T (if d ≤ 6 then a else b) ((d - 1) % 6)) a b with
      | true =>
        rw [if_pos rfl]
        exact ⟨rfl, fun S' e => by rw [← Option.some.inj e]; exact ⟨rfl, hU⟩⟩
      | false =>
        rw [if_neg Bool.false_ne_true]
        exact ⟨rfl, fun S' e => nomatch e⟩
    · rw [if_neg hc, decide_eq_false (fun q => q.elim hd hc), Bool.false_and]
      exact ⟨rfl, fun S' e => nomatch e⟩
def sm (f : Nat → Nat) : Nat → Nat
  | 0 => 0
  | k + 1 => sm f k + f k
theorem sm_c {f g : Nat → Nat} : ∀ n, (∀ j, j < n → f j = g j) → sm f n = sm g n
  | 0, _ => rfl
  | n + 1, h => by rw [sm, sm, sm_c n (fun j hj => h j (by omega)), h n (by omega)]
theorem sm_pos {f : Nat → Nat} : ∀ n, 0 < sm f n ↔ ∃ j, j < n ∧ 0 < f j
  | 0 => ⟨fun h => absurd h (Nat.lt_irrefl 0), fun ⟨j, hj, _⟩ => absurd hj (Nat.not_lt_zero j)⟩
  | n + 1 => by
    rw [sm]
    have ih := sm_pos (f := f) n
    constructor
    · intro h
      by_cases q : 0 < sm f n
      · obtain ⟨j, h1, h2⟩ := ih.mp q
        exact ⟨j, by omega, h2⟩
      · exact ⟨n, by omega, by omega⟩
    · intro h
      obtain ⟨j, h1, h2⟩ := h
      by_cases q : j = n
      · subst q; omega
      · have := ih.mpr ⟨j, by omega, h2⟩
        omega
/-- how many rows of r dinners -/
def rwS (B : Nat → Nat) (a b : Nat) : Nat → (Nat → Nat) → Nat
  | 0, _ => 1
  | r + 1, S => sm (fun d => match dine B a b S d with
    | none => 0
    | some S' => rwS B a b r S') 13
theorem rws_pm {B : Nat → Nat} {ki : Nat → Int32} {a b : Nat} (h : CR B ki) (ha : a < B 0) (hb : b < B 0) (hab : a ≠ b) : ∀ (r : Nat) (S : Nat → Nat), SOK S → rws (B 0) ki (nI (B 5)) (nI (B 6)) (nI (B 7)) a b r (pm S) = rwS B a b r S
  | 0, S, _ => rfl
  | r + 1, S, hS => by
    rw [rws, rwS, bt2_pm h hS ha hb hab]
    have key : ∀ k, rwL (B 0) a b (nI (B 5)) (nI (B 6)) (nI (B 7)) (fun d => bdn (B 0) ki (nI (B 5)) a b d (pm (tlN B S a b))) (rws (B 0) ki (nI (B 5)) (nI (B 6)) (nI (B 7)) a b r) k = sm (fun d => match dine B a b S d with
        | none => 0
        | some S' => rwS B a b r S') k := by
      intro k
      induction k with
      | zero => rfl
      | succ k ih =>
        rw [rwL, sm, ih]
        congr 1
        obtain ⟨d1, d2⟩ := dine_pm (d := k) h hS ha hb hab
        rw [d1]
        cases hd : dine B a b S k with
        | none => rfl
        | some S' =>
          obtain ⟨e1, e2⟩ := d2 S' hd
          dsimp only
          rw [show (some S').isSome = true from rfl, if_pos rfl, e1]
          exact rws_pm h ha hb hab r S' e2
    exact key 13
theorem cU_mul {P : Nat → Bool} {N : Nat} : ∀ m, cU P (m * N) = sm (fun q => cU (fun r => P (q * N + r)) N) m
  | 0 => by rw [Nat.zero_mul]; rfl
  | m + 1 => by rw [Nat.add_mul, Nat.one_mul, cU_add, sm, cU_mul m]
theorem dg_top {b k q r : Nat} (hq : q < b) (hr : r < b ^ k) : dg b (k + 1) (q * b ^ k + r) 0 = q := by
  unfold dg
  have hp : 0 < b ^ k := by omega
  rw [show k + 1 - 1 - 0 = k by omega, Nat.add_comm, Nat.add_mul_div_right _ _ hp, Nat.div_eq_of_lt hr, Nat.zero_add]
  exact Nat.mod_eq_of_lt hq
theorem dg_sub {b k q r p : Nat} (hb : 0 < b) (hp : p < k) : dg b (k + 1) (q * b ^ k + r) (p + 1) = dg b k r p := by
  unfold dg
  obtain ⟨j, hj⟩ : ∃ j, j = k - 1 - p := ⟨_, rfl⟩
  rw [show k + 1 - 1 - (p + 1) = j by omega, ← hj]
  have hk : b ^ k = b ^ p * b * b ^ j := by rw [← Nat.pow_succ, ← Nat.pow_add]; congr 1; omega
  have hz : 0 < b ^ j := Nat.pow_pos hb
  rw [hk, ← Nat.mul_assoc, Nat.add_comm, Nat.add_mul_div_right _ _ hz, ← Nat.mul_assoc, Nat.add_mul_mod_self_right]
def dst9 (B : Nat → Nat) (a b : Nat) : Nat → (Nat → Nat) → Nat → Option (Nat → Nat) := fun _ S d => dine B a b S d
theorem dst9_e {B : Nat → Nat} {a b p d : Nat} {S : Nat → Nat} : dst9 B a b p S d = dine B a b S d := rfl
theorem fbR_dn {B : Nat → Nat} {a b : Nat} {x : Nat → Nat} : ∀ k, dnR B a b x k = fbR (dst9 B a b) x k 0 (nw B)
  | 0 => rfl
  | k + 1 => by
    rw [dnR, fbR_dn k, fbR_add k 1 0]
    cases fbR (dst9 B a b) x k 0 (nw B) with
    | none => rfl
    | some S =>
      dsimp only
      rw [Nat.zero_add, fbR, dst9_e]
      cases dine B a b S (x k) <;> rfl
theorem fbR_sh {B : Nat → Nat} {a b : Nat} {x : Nat → Nat} : ∀ (r p : Nat) (S : Nat → Nat), fbR (dst9 B a b) x r (p + 1) S = fbR (dst9 B a b) (fun q => x (q + 1)) r p S
  | 0, _, _ => rfl
  | r + 1, p, S => by
    rw [fbR, fbR, dst9_e, dst9_e]
    cases dine B a b S (x (p + 1)) with
    | none => rfl
    | some s' => exact fbR_sh r (p + 1) s'
theorem dn_cnt {B : Nat → Nat} {a b : Nat} : ∀ (k : Nat) (S : Nat → Nat), cU (fun c => (fbR (dst9 B a b) (dg 13 k c) k 0 S).isSome) (13 ^ k) = rwS B a b k S
  | 0, S => rfl
  | k + 1, S => by
    rw [Nat.pow_succ, Nat.mul_comm, cU_mul, rwS]
    refine sm_c 13 (fun q hq => ?_)
    cases hd : dine B a b S q with
    | none =>
      dsimp only
      refine cU_none (fun r hr => ?_)
      rw [fbR, dg_top hq hr, dst9_e, hd]; rfl
    | some S' =>
      dsimp only
      rw [← dn_cnt k S']
      refine cU_congr _ (fun r hr => ?_)
      rw [fbR, dg_top hq hr, dst9_e, hd]
      dsimp only
      rw [fbR_sh, fbR_c (y := dg 13 k r) k 0 S' (fun p _ hp => dg_sub (by omega) (by omega))]
theorem din_cnt {B : Nat → Nat} {ki : Nat → Int32} {a b k : Nat} (h : CR B ki) (ha : a < B 0) (hb : b < B 0) (hab : a ≠ b) : rws (B 0) ki (nI (B 5)) (nI (B 6)) (nI (B 7)) a b k (pm (nw B)) = cU (dnP B a b k) (13 ^ k) := by
  rw [rws_pm h ha hb hab k (nw B) (nw_ok h.1), ← dn_cnt k (nw B)]
  refine cU_congr _ (fun c _ => ?_)
  show (fbR (dst9 B a b) (dg 13 k c) k 0 (nw B)).isSome = (dnR B a b (drw k c) k).isSome
  rw [fbR_dn]
  rfl
theorem frL_sp {P : Nat → Bool} : ∀ r, r ≤ 13 → (∀ d, frL P r = some d → 13 - r ≤ d ∧ d ≤ 12 ∧ P d = true ∧ ∀ d', 13 - r ≤ d' → d' < d → P d' = false) ∧ (frL P r = none → ∀ d', 13 - r ≤ d' → d' ≤ 12 → P d' = false)
  | 0, _ => ⟨fun d h => (nomatch h), fun _ d' h1 h2 => (by omega)⟩
  | r + 1, hr => by
    obtain ⟨i1, i2⟩ := frL_sp (P := P) r (by omega)
    rw [frL]
    cases hp : P (12 - r) with
    | true =>
      rw [if_pos rfl]
      refine ⟨fun d h => ?_, fun h => (nomatch h)⟩
      have h := Option.some.inj h
      subst h
      exact ⟨by omega, by omega, hp, fun d' h1 h2 => by omega⟩
    | false =>
      rw [if_neg Bool.false_ne_true]
      refine ⟨fun d h => ?_, fun h d' h1 h2 => ?_⟩
      · obtain ⟨a1, a2, a3, a4⟩ := i1 d h
        refine ⟨by omega, a2, a3, fun d' h1 h2 => ?_⟩
        by_cases q : d' = 12 - r
        · rw [q]; exact hp
        · exact a4 d' (by omega) h2
      · by_cases q : d' = 12 - r
        · rw [q]; exact hp
        · exact i2 h d' (by omega) h2
theorem fsU_sp {P : Nat → Bool} : ∀ n f, fsU P n = some f → f < n ∧ P f = true ∧ ∀ c, c < f → P c = false
  | 0, f, h => (nomatch h)
  | n + 1, f, h => by
    rw [fsU] at h
    cases e : fsU P n with
    | some x =>
      rw [e] at h
      have h := Option.some.inj h
      subst h
      obtain ⟨a1, a2, a3⟩ := fsU_sp n x e
      exact ⟨by omega, a2, a3⟩
    | none =>
      rw [e] at h
      dsimp only at h
      by_cases hp : P n = true
      · rw [if_pos hp] at h
        have h := Option.some.inj h
        subst h
        have h0 := (fsU_cU (P := P) n).mp e
        refine ⟨by omega, hp, fun c hc => ?_⟩
        cases hpc : P c with
        | false => rfl
        | true =>
          have := cU_pos (P := P) c hc hpc
          omega
      · rw [if_neg hp] at h
        cases h
def gP9 (B : Nat → Nat) (a b r : Nat) (S : Nat → Nat) (d : Nat) : Bool := match dine B a b S d with
  | none => false
  | some S' => decide (0 < rwS B a b r S')
theorem gP9_iff {B : Nat → Nat} {a b r d : Nat} {S : Nat → Nat} : gP9 B a b r S d = true ↔ ∃ S', dine B a b S d = some S' ∧ 0 < rwS B a b r S' := by
  unfold gP9
  cases dine B a b S d with
  | none => exact ⟨fun h => (nomatch h), fun ⟨_, h, _⟩ => (nomatch h)⟩
  | some S' =>
    dsimp only
    rw [decide_eq_true_eq]
    exact ⟨fun h => ⟨S', rfl, h⟩, fun ⟨S'', h1, h2⟩ => by rw [Option.some.inj h1]; exact h2⟩
theorem frB_pm {B S : Nat → Nat} {ki : Nat → Int32} {a b r : Nat} (h : CR B ki) (hS : SOK S) (ha : a < B 0) (hb : b < B 0) (hab : a ≠ b) (d : Nat) : frB (B 0) ki (nI (B 5)) (nI (B 6)) (nI (B 7)) a b r (btN (B 0) ki (nI (B 5)) (pm S) a b) d = gP9 B a b r S d := by
  rw [bt2_pm h hS ha hb hab]
  obtain ⟨d1, d2⟩ := dine_pm (d := d) h hS ha hb hab
  unfold frB gP9
  rw [d1]
  cases hd : dine B a b S d with
  | none => rfl
  | some S' =>
    obtain ⟨e1, e2⟩ := d2 S' hd
    rw [e1, rws_pm h ha hb hab r S' e2]
    rfl
theorem frL_c {P P' : Nat → Bool} (h : ∀ d, P d = P' d) : ∀ r, frL P r = frL P' r
  | 0 => rfl
  | r + 1 => by rw [frL, frL, h, frL_c h r]
def vP9 (B : Nat → Nat) (a b r : Nat) (_ : Nat) (S : Nat → Nat) : Option Nat := if 0 < rwS B a b r S then some 0 else none
def gD9 (B : Nat → Nat) (a b r : Nat) (_ : Nat) (S : Nat → Nat) : Nat := (frL (gP9 B a b r S) 13).getD 0
theorem vP9_t {B : Nat → Nat} {a b r p : Nat} {S : Nat → Nat} (h : 0 < rwS B a b r S) : vP9 B a b r p S = some 0 := if_pos h
theorem vP9_s {B : Nat → Nat} {a b r p w : Nat} {S : Nat → Nat} (h : vP9 B a b r p S = some w) : w = 0 ∧ 0 < rwS B a b r S := by
  unfold vP9 at h
  by_cases q : 0 < rwS B a b r S
  · rw [if_pos q] at h; exact ⟨(Option.some.inj h).symm, q⟩
  · rw [if_neg q] at h; cases h
theorem din_H {B : Nat → Nat} {ki : Nat → Int32} {a b k : Nat} (h : CR B ki) (ha : a < B 0) (hb : b < B 0) (hab : a ≠ b) : fbH (dst9 B a b) (vP9 B a b) (fun _ => 0) (gD9 B a b) (fun _ S => SOK S) 13 k := by
  refine ⟨fun p S d S' hp hS hd e => ?_, fun S hS => ?_, fun r p S d S' v hp hS hd e hv => ?_, fun r p S w hp hS hV => ?_⟩
  · exact ((dine_pm (d := d) h hS ha hb hab).2 S' e).2
  · exact vP9_t (by rw [rwS]; omega)
  · obtain ⟨hv, q⟩ := vP9_s hv
    refine ⟨0, vP9_t ?_, by omega⟩
    rw [rwS]
    refine (sm_pos 13).mpr ⟨d, hd, ?_⟩
    rw [dst9_e] at e
    rw [e]; exact q
  · obtain ⟨hV, q⟩ := vP9_s hV
    subst hV
    rw [rwS] at q
    obtain ⟨j, hj, hpos⟩ := (sm_pos 13).mp q
    have hgj : gP9 B a b r S j = true := by
      refine gP9_iff.mpr ?_
      cases hd : dine B a b S j with
      | none => rw [hd] at hpos; exact absurd hpos (Nat.lt_irrefl 0)
      | some S' => rw [hd] at hpos; exact ⟨S', rfl, hpos⟩
    obtain ⟨f1, f2⟩ := frL_sp (P := gP9 B a b r S) 13 (Nat.le_refl _)
    cases hf : frL (gP9 B a b r S) 13 with
    | none =>
      have := f2 hf j (by omega) (by omega)
      rw [hgj] at this
      cases this
    | some g =>
      obtain ⟨a1, a2, a3, a4⟩ := f1 g hf
      obtain ⟨S', e1, e2⟩ := gP9_iff.mp a3
      have eg : gD9 B a b r p S = g := by unfold gD9; rw [hf]; rfl
      rw [eg]
      refine ⟨by omega, S', by rw [dst9_e]; exact e1, vP9_t e2, fun d S'' hd e h0 => ?_⟩
      have := a4 d (by omega) hd
      rw [dst9_e] at e
      rw [gP9_iff.mpr ⟨S'', e, (vP9_s h0).2⟩] at this
      cases this
theorem din_row {B : Nat → Nat} {ki : Nat → Int32} {a b k : Nat} {i : Int32} (h : CR B ki) (ha : a < B 0) (hb : b < B 0) (hab : a ≠ b) (hk : 1 ≤ k) (hk4 : k ≤ 4) (hi : (-1) ≤ i) (hi1 : ¬ i = -1) : ofr (B 0) ki (nI (B 5)) (nI (B 6)) (nI (B 7)) a b k i k (pm (nw B)) = dnI k (fsU (dnP B a b k) (13 ^ k)) i := by
  obtain ⟨j, hj, rfl⟩ := le_m1 hi hi1
  have hnw := nw_ok h.1
  have hH := din_H (k := k) h ha hb hab
  have hP : ∀ c, dnP B a b k c = (fbR (dst9 B a b) (dg 13 k c) k 0 (nw B)).isSome := fun c => by
    show (dnR B a b (drw k c) k).isSome = _
    rw [fbR_dn]; rfl
  have hstep : ∀ (r : Nat) (S : Nat → Nat), SOK S → frL (frB (B 0) ki (nI (B 5)) (nI (B 6)) (nI (B 7)) a b r (btN (B 0) ki (nI (B 5)) (pm S) a b)) 13 = frL (gP9 B a b r S) 13 := fun r S hS => frL_c (frB_pm h hS ha hb hab) 13
  cases hf : fsU (dnP B a b k) (13 ^ k) with
  | none =>
    have h0 := (fsU_cU (P := dnP B a b k) (13 ^ k)).mp hf
    rw [← din_cnt h ha hb hab, rws_pm h ha hb hab k (nw B) hnw] at h0
    obtain ⟨r, rfl⟩ : ∃ r, k = r + 1 := ⟨k - 1, by omega⟩
    rw [ofr, hstep r (nw B) hnw]
    obtain ⟨f1, f2⟩ := frL_sp (P := gP9 B a b r (nw B)) 13 (Nat.le_refl _)
    cases hg : frL (gP9 B a b r (nw B)) 13 with
    | none => rfl
    | some g =>
      exfalso
      obtain ⟨a1, a2, a3, a4⟩ := f1 g hg
      obtain ⟨S', e1, e2⟩ := gP9_iff.mp a3
      have : 0 < rwS B a b (r + 1) (nw B) := by
        rw [rwS]
        exact (sm_pos 13).mpr ⟨g, by omega, by rw [e1]; exact e2⟩
      omega
  | some f =>
    obtain ⟨f1, f2, f3⟩ := fsU_sp _ f hf
    rw [hP] at f2
    obtain ⟨sf, hsf⟩ := Option.isSome_iff_exists.mp f2
    obtain ⟨hV, hst⟩ := fb_first hH (by omega) (s0 := nw B) (sf := sf) (d := f) hnw f1 hsf (fun c hc s' e => ⟨Nat.le_refl _, fun q => by
      have := f3 c q
      rw [hP, e] at this
      cases this⟩)
    have loop : ∀ r p, p + r = k → ∀ S, fbR (dst9 B a b) (dg 13 k f) p 0 (nw B) = some S → ofr (B 0) ki (nI (B 5)) (nI (B 6)) (nI (B 7)) a b k (nI j) r (pm S) = if j < p then -5 else if j < k then nI (dg 13 k f j) else -5 := by
      intro r
      induction r with
      | zero =>
        intro p hp S hS
        rw [ofr]
        by_cases q : j < p
        · rw [if_pos q]
        · rw [if_neg q, if_neg (by omega)]
      | succ r ih =>
        intro p hp S hS
        obtain ⟨S2, s1, s2, s3, s4⟩ := hst p (by omega)
        rw [hS] at s1
        have s1 := Option.some.inj s1
        subst s1
        have s4 := s4 (by omega)
        have s2 : SOK S := s2
        rw [show k - p - 1 = r by omega] at s4
        rw [show k - p = r + 1 by omega] at s3
        obtain ⟨g1, S', g2, g3, -⟩ := hH.2.2.2 r p S _ (by omega) s2 s3
        have hgp : gP9 B a b r S (gD9 B a b r p S) = true := gP9_iff.mpr ⟨S', g2, (vP9_s g3).2⟩
        rw [dst9_e] at g2
        unfold gD9 at g2 s4 hgp
        rw [ofr, hstep r S s2]
        cases hg : frL (gP9 B a b r S) 13 with
        | none =>
          exfalso
          have := (frL_sp (P := gP9 B a b r S) 13 (Nat.le_refl _)).2 hg 0 (by omega) (by omega)
          rw [hg] at hgp
          have hgp : gP9 B a b r S 0 = true := hgp
          rw [hgp] at this
          cases this
        | some g =>
          rw [hg] at g2 s4
          have g2 : dine B a b S g = some S' := g2
          have s4 : dg 13 k f p = g := s4
          obtain ⟨e1, e2⟩ := (dine_pm (d := g) h s2 ha hb hab).2 S' g2
          dsimp only
          rw [show k - (r + 1) = p by omega]
          by_cases q : p = j
          · subst q
            rw [if_pos rfl, if_neg (Nat.lt_irrefl p), if_pos (by omega), s4]
          · have qn : ¬ nI p = nI j := fun z => q ((nI_eq (by omega) hj).mp z)
            rw [if_neg qn, bt2_pm h s2 ha hb hab, e1]
            have := ih (p + 1) (by omega) S' (by
              rw [fbR_add p 1 0, hS]
              dsimp only
              rw [Nat.zero_add, fbR, s4, dst9_e, g2]; rfl)
            rw [this]
            by_cases q2 : j < p
            · rw [if_pos q2, if_pos (by omega)]
            · rw [if_neg q2, if_neg (by omega)]
    rw [loop k 0 (by omega) (nw B) rfl, if_neg (Nat.not_lt_zero j)]
    unfold dnI
    dsimp only
    by_cases q : j < k
    · have qn : ¬ nI k ≤ nI j := fun z => by
        have := (nI_leI (by omega) hj).mp z
        omega
      rw [if_pos q, if_neg qn, nI_toInt hj]
      rfl
    · rw [if_neg q, if_pos (nI_le (by omega) hj)]
