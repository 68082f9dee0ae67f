/-! ===== seats ===== -/
theorem cU_one {P P' : Nat → Bool} {d : Nat} (hp : P d = true) (hp' : P' d = false) (h : ∀ j, j ≠ d → P j = P' j) : ∀ n, d < n → cU P n = cU P' n + 1
  | 0, hd => by omega
  | n + 1, hd => by
    rw [cU, cU]
    by_cases q : d = n
    · subst q
      rw [hp, hp', cU_congr d (fun j hj => h j (by omega)), if_pos rfl, if_neg Bool.false_ne_true]
    · rw [cU_one hp hp' h n (by omega), h n (fun z => q z.symm)]
      omega
theorem cU_all {P : Nat → Bool} : ∀ n, cU P n = n ↔ ∀ j, j < n → P j = true
  | 0 => ⟨fun _ j hj => absurd hj (Nat.not_lt_zero j), fun _ => rfl⟩
  | n + 1 => by
    have ih := cU_all (P := P) n
    have hl := cU_le (P := P) (n := n)
    rw [cU]
    constructor
    · intro h j hj
      cases hp : P n with
      | false => rw [hp, if_neg Bool.false_ne_true] at h; omega
      | true =>
        rw [hp, if_pos rfl] at h
        by_cases q : j = n
        · rw [q]; exact hp
        · exact ih.mp (by omega) j (by omega)
    · intro h
      rw [h n (by omega), if_pos rfl, ih.mpr (fun j hj => h j (by omega))]
theorem cU_ex {P : Nat → Bool} {n : Nat} (h : 0 < cU P n) : ∃ j, j < n ∧ P j = true := by
  apply Classical.byContradiction
  intro hn
  have : cU P n = 0 := cU_none (fun j hj => by
    cases hp : P j with
    | false => rfl
    | true => exact absurd ⟨j, hj, hp⟩ hn)
  omega
def mxN (f : Nat → Nat) : Nat → Nat
  | 0 => 0
  | k + 1 => if mxN f k < f k then f k else mxN f k
theorem mxN_le {f : Nat → Nat} : ∀ n j, j < n → f j ≤ mxN f n
  | 0, j, h => by omega
  | n + 1, j, h => by
    have ih := mxN_le (f := f) n
    rw [mxN]
    by_cases q : j = n
    · subst q; split <;> omega
    · have := ih j (by omega)
      split <;> omega
theorem mxN_at {f : Nat → Nat} : ∀ n, 0 < mxN f n → ∃ j, j < n ∧ f j = mxN f n
  | 0, h => by rw [mxN] at h; omega
  | n + 1, h => by
    rw [mxN] at h ⊢
    by_cases q : mxN f n < f n
    · rw [if_pos q]; exact ⟨n, by omega, rfl⟩
    · rw [if_neg q] at h ⊢
      obtain ⟨j, h1, h2⟩ := mxN_at n h
      exact ⟨j, by omega, h2⟩
theorem mxN_b {f : Nat → Nat} {b : Nat} (h : ∀ j, f j ≤ b) : ∀ n, mxN f n ≤ b
  | 0 => Nat.zero_le _
  | n + 1 => by
    have := mxN_b h n
    have := h n
    rw [mxN]; split <;> omega
theorem or_tb {u d q : Nat} : (u ||| 2 ^ d).testBit q = (u.testBit q || decide (d = q)) := by
  rw [Nat.testBit_or, p2_tb]
/-- what is sat and talked: what all think, who sits, who sat last -/
def stS (B : Nat → Nat) : Nat → ((Nat → Nat) × Nat × Nat) → Nat → Option ((Nat → Nat) × Nat × Nat) := fun _ s d => if s.2.1.testBit d = true then none else some (tlN B s.1 s.2.2 d, s.2.1 ||| 2 ^ d, d)
theorem stS_e {B : Nat → Nat} {p d : Nat} {s : (Nat → Nat) × Nat × Nat} : stS B p s d = if s.2.1.testBit d = true then none else some (tlN B s.1 s.2.2 d, s.2.1 ||| 2 ^ d, d) := rfl
def vaS (B : Nat → Nat) (n : Nat) (s : (Nat → Nat) × Nat × Nat) : Nat := lpM B (if s.2.2 = 0 then s.1 else tlN B s.1 s.2.2 0) n
def tbN (B : Nat → Nat) (n : Nat) : Nat → ((Nat → Nat) × Nat × Nat) → Nat
  | 0, s => vaS B n s
  | r + 1, s => mxN (fun d => if s.2.1.testBit d = true then 0 else tbN B n r (tlN B s.1 s.2.2 d, s.2.1 ||| 2 ^ d, d)) n
theorem tbN_le {B : Nat → Nat} {n : Nat} (hn : n ≤ 6) : ∀ r s, tbN B n r s ≤ 36
  | 0, s => by
    have := lpM_le (B := B) (S := if s.2.2 = 0 then s.1 else tlN B s.1 s.2.2 0) n hn
    rw [tbN, vaS]; omega
  | r + 1, s => by
    rw [tbN]
    refine mxN_b (fun j => ?_) n
    split
    · omega
    · exact tbN_le hn r _
def iS9 (n : Nat) (p : Nat) (s : (Nat → Nat) × Nat × Nat) : Prop := SOK s.1 ∧ s.2.1.testBit 0 = true ∧ s.2.1 < 64 ∧ s.2.1.testBit s.2.2 = true ∧ s.2.2 < n ∧ cU (fun q => !s.2.1.testBit q) n + p + 1 = n ∧ (s.2.2 = 0 ↔ p = 0)
theorem iS9_s {B : Nat → Nat} {ki : Nat → Int32} {p d : Nat} {s : (Nat → Nat) × Nat × Nat} (h : CR B ki) (hI : iS9 (B 0) p s) (hd : d < B 0) (hu : s.2.1.testBit d = false) : iS9 (B 0) (p + 1) (tlN B s.1 s.2.2 d, s.2.1 ||| 2 ^ d, d) := by
  obtain ⟨S, u, l⟩ := s
  obtain ⟨a1, a2, a3, a4, a5, a6, a7⟩ := hI
  dsimp only at *
  have h0 := h.1.1
  refine ⟨tl_ok h a1 a5 hd, by rw [or_tb, a2]; rfl, Nat.or_lt_two_pow (n := 6) a3 (Nat.pow_lt_pow_right (by omega) (by omega)), by rw [or_tb, decide_eq_true rfl, Bool.or_true], hd, ?_, ?_⟩
  · have := cU_one (P := fun q => !u.testBit q) (P' := fun q => !(u ||| 2 ^ d).testBit q) (d := d) (by show (!u.testBit d) = true; rw [hu]; rfl) (by show (!(u ||| 2 ^ d).testBit d) = false; rw [or_tb, decide_eq_true rfl, Bool.or_true]; rfl) (fun j hj => by show (!u.testBit j) = !(u ||| 2 ^ d).testBit j; rw [or_tb, decide_eq_false (fun z => hj z.symm), Bool.or_false]) (B 0) hd
    show cU (fun q => !(u ||| 2 ^ d).testBit q) (B 0) + (p + 1) + 1 = B 0
    omega
  · constructor
    · intro z
      have z : d = 0 := z
      subst z
      rw [a2] at hu; cases hu
    · intro z; omega
def gS9 (B : Nat → Nat) (n r : Nat) (_ : Nat) (s : (Nat → Nat) × Nat × Nat) : Nat := (fsU (fun d => !s.2.1.testBit d && decide (tbN B n r (tlN B s.1 s.2.2 d, s.2.1 ||| 2 ^ d, d) = tbN B n (r + 1) s)) n).getD 0
theorem gS9_sp {B : Nat → Nat} {n r p : Nat} {s : (Nat → Nat) × Nat × Nat} (hI : iS9 n p s) (hp : p + (r + 1) + 1 = n) : gS9 B n r p s < n ∧ s.2.1.testBit (gS9 B n r p s) = false ∧ tbN B n r (tlN B s.1 s.2.2 (gS9 B n r p s), s.2.1 ||| 2 ^ gS9 B n r p s, gS9 B n r p s) = tbN B n (r + 1) s ∧ ∀ d, d < gS9 B n r p s → s.2.1.testBit d = false → tbN B n r (tlN B s.1 s.2.2 d, s.2.1 ||| 2 ^ d, d) ≠ tbN B n (r + 1) s := by
  obtain ⟨S, u, l⟩ := s
  obtain ⟨a1, a2, a3, a4, a5, a6, a7⟩ := hI
  dsimp only at *
  have hex : ∃ d, d < n ∧ u.testBit d = false ∧ tbN B n r (tlN B S l d, u ||| 2 ^ d, d) = tbN B n (r + 1) (S, u, l) := by
    obtain ⟨d0, h1, h2⟩ := cU_ex (P := fun q => !u.testBit q) (n := n) (by omega)
    have h2 : u.testBit d0 = false := by
      cases q : u.testBit d0 with
      | false => rfl
      | true => have h2 : (!u.testBit d0) = true := h2; rw [q] at h2; cases h2
    obtain ⟨f, hf⟩ : ∃ f : Nat → Nat, f = fun d => if u.testBit d = true then 0 else tbN B n r (tlN B S l d, u ||| 2 ^ d, d) := ⟨_, rfl⟩
    have e : tbN B n (r + 1) (S, u, l) = mxN f n := by rw [tbN, hf]
    have hfd : ∀ d, u.testBit d = false → f d = tbN B n r (tlN B S l d, u ||| 2 ^ d, d) := fun d hd => by
      rw [hf]; exact if_neg (by rw [hd]; exact Bool.false_ne_true)
    rw [e]
    rcases Nat.eq_zero_or_pos (mxN f n) with z | z
    · refine ⟨d0, h1, h2, ?_⟩
      have := mxN_le (f := f) n d0 h1
      rw [hfd d0 h2] at this
      omega
    · obtain ⟨j, j1, j2⟩ := mxN_at n z
      have hj : u.testBit j = false := by
        cases q : u.testBit j with
        | false => rfl
        | true =>
          rw [hf] at j2
          have j2 : (if u.testBit j = true then 0 else tbN B n r (tlN B S l j, u ||| 2 ^ j, j)) = _ := j2
          rw [if_pos q] at j2
          rw [← hf] at j2
          omega
      exact ⟨j, j1, hj, by rw [← hfd j hj]; exact j2⟩
  obtain ⟨d, d1, d2, d3⟩ := hex
  obtain ⟨P, hP⟩ : ∃ P : Nat → Bool, P = fun d => !u.testBit d && decide (tbN B n r (tlN B S l d, u ||| 2 ^ d, d) = tbN B n (r + 1) (S, u, l)) := ⟨_, rfl⟩
  have hPi : ∀ d, P d = true ↔ (u.testBit d = false ∧ tbN B n r (tlN B S l d, u ||| 2 ^ d, d) = tbN B n (r + 1) (S, u, l)) := fun d => by
    rw [hP]
    dsimp only
    rw [Bool.and_eq_true, decide_eq_true_eq, Bool.not_eq_true']
  cases hf : fsU P n with
  | none =>
    have h0 := (fsU_cU (P := P) n).mp hf
    have := cU_pos (P := P) d d1 ((hPi d).mpr ⟨d2, d3⟩)
    omega
  | some g =>
    have eg : gS9 B n r p (S, u, l) = g := by
      unfold gS9
      dsimp only
      rw [← hP, hf]; rfl
    obtain ⟨g1, g2, g3⟩ := fsU_sp n g hf
    obtain ⟨g4, g5⟩ := (hPi g).mp g2
    rw [eg]
    refine ⟨g1, g4, g5, fun d hd hu he => ?_⟩
    have := g3 d hd
    rw [(hPi d).mpr ⟨hu, he⟩] at this
    cases this
theorem sea_H {B : Nat → Nat} {ki : Nat → Int32} (h : CR B ki) (h1 : 1 ≤ B 0) : fbH (stS B) (fun r _ s => some (tbN B (B 0) r s)) (vaS B (B 0)) (gS9 B (B 0)) (iS9 (B 0)) (B 0) (B 0 - 1) := by
  refine ⟨fun p s d s' hp hI hd e => ?_, fun s hI => rfl, fun r p s d s' v hp hI hd e hv => ?_, fun r p s w hp hI hV => ?_⟩
  · rw [stS_e] at e
    cases hu : s.2.1.testBit d with
    | true => rw [hu, if_pos rfl] at e; cases e
    | false =>
      rw [hu, if_neg Bool.false_ne_true] at e
      rw [← Option.some.inj e]
      exact iS9_s h hI hd hu
  · rw [stS_e] at e
    cases hu : s.2.1.testBit d with
    | true => rw [hu, if_pos rfl] at e; cases e
    | false =>
      rw [hu, if_neg Bool.false_ne_true] at e
      have e := Option.some.inj e
      subst e
      have hv := Option.some.inj hv
      refine ⟨_, rfl, ?_⟩
      rw [← hv]
      have := mxN_le (f := fun d => if s.2.1.testBit d = true then 0 else tbN B (B 0) r (tlN B s.1 s.2.2 d, s.2.1 ||| 2 ^ d, d)) (B 0) d hd
      rw [hu, if_neg Bool.false_ne_true] at this
      rw [tbN]
      exact this
  · have hV := Option.some.inj hV
    obtain ⟨g1, g2, g3, g4⟩ := gS9_sp (B := B) (r := r) hI (by omega)
    refine ⟨g1, _, by rw [stS_e, g2]; exact if_neg Bool.false_ne_true, congrArg some (g3.trans hV), fun d s'' hd e => ?_⟩
    rw [stS_e] at e
    cases hu : s.2.1.testBit d with
    | true => rw [hu, if_pos rfl] at e; cases e
    | false =>
      rw [hu, if_neg Bool.false_ne_true] at e
      have e := Option.some.inj e
      subst e
      intro q
      have q := Option.some.inj q
      exact g4 d hd hu (by rw [q, hV])
/-! the class's search -/
theorem mxI_nI {a b : Nat} (ha : a < 1000) (hb : b < 1000) : mxI (nI a) (nI b) = nI (if a < b then b else a) := by
  unfold mxI
  by_cases q : a < b
  · rw [if_pos q, if_pos (nI_lt q (by omega))]
  · rw [if_neg q, if_neg (nI_nlt (by omega) (by omega))]
theorem bor_nI {u d : Nat} (hd : d < 31) : bor (nI u) d = nI (u ||| 2 ^ d) := by
  unfold bor
  rw [shl_nI d hd, nI_or]
theorem tbm_pm {B : Nat → Nat} {ki : Nat → Int32} (h : CR B ki) : ∀ (r p : Nat) (s : (Nat → Nat) × Nat × Nat), p + r + 1 = B 0 → iS9 (B 0) p s → tbm (B 0) ki (nI (B 5)) (nI (B 6)) (nI (B 7)) r (nI s.2.1) s.2.2 (pm s.1) = nI (tbN B (B 0) r s)
  | 0, p, s, hp, hI => by
    obtain ⟨S, u, l⟩ := s
    obtain ⟨a1, a2, a3, a4, a5, a6, a7⟩ := hI
    dsimp only at *
    have h6 := h.1.2.2.2.1
    have h7 := h.1.2.2.2.2.1
    have h0 := h.1.1
    rw [tbm, tbN, vaS]
    dsimp only
    have hm : btN (B 0) ki (nI (B 5)) (pm S) l 0 = pm (if l = 0 then S else tlN B S l 0) ∧ SOK (if l = 0 then S else tlN B S l 0) := by
      by_cases q : l = 0
      · rw [if_pos q, btN, if_neg (fun z => z.2.2 q)]
        exact ⟨rfl, a1⟩
      · rw [if_neg q, bt2_pm h a1 a5 (by omega) q]
        exact ⟨rfl, tl_ok h a1 a5 (by omega)⟩
    rw [hm.1, lp_pm (S := if l = 0 then S else tlN B S l 0) (B 0) (fun a b ha hb => mwB_pm h6 h7 hm.2 (by omega) (by omega))]
  | r + 1, p, s, hp, hI => by
    obtain ⟨S, u, l⟩ := s
    have hI0 := hI
    obtain ⟨a1, a2, a3, a4, a5, a6, a7⟩ := hI
    have h0 := h.1.1
    rw [tbm, tbN]
    dsimp only at *
    obtain ⟨f, hf⟩ : ∃ f : Nat → Nat, f = fun d => if u.testBit d = true then 0 else tbN B (B 0) r (tlN B S l d, u ||| 2 ^ d, d) := ⟨_, rfl⟩
    have hfl : ∀ d, f d ≤ 36 := fun d => by
      rw [hf]; dsimp only; split
      · omega
      · exact tbN_le h0 r _
    rw [← hf]
    have key : ∀ k, k + 1 ≤ B 0 → tbL (B 0) (nI u) (fun x => tbm (B 0) ki (nI (B 5)) (nI (B 6)) (nI (B 7)) r (bor (nI u) x) x (btN (B 0) ki (nI (B 5)) (pm S) l x)) k = nI (mxN f (k + 1)) := by
      intro k
      induction k with
      | zero =>
        intro _
        have : f 0 = 0 := by rw [hf]; exact if_pos a2
        rw [tbL, mxN, mxN, this]
        rfl
      | succ k ih =>
        intro hk
        rw [tbL, mxN, ih (by omega)]
        have hb := bit0 (o := u) (m := k + 1) (by omega) (by omega)
        cases hu : u.testBit (k + 1) with
        | true =>
          have : f (k + 1) = 0 := by rw [hf]; exact if_pos hu
          rw [this, if_neg (Nat.not_lt_zero _), if_neg (fun z => by rw [hb.mp z] at hu; cases hu)]
        | false =>
          have hfk : f (k + 1) = tbN B (B 0) r (tlN B S l (k + 1), u ||| 2 ^ (k + 1), k + 1) := by
            rw [hf]; exact if_neg (by rw [hu]; exact Bool.false_ne_true)
          have hlk : l ≠ k + 1 := fun z => by rw [← z, a4] at hu; cases hu
          have ih2 := tbm_pm h r (p + 1) (tlN B S l (k + 1), u ||| 2 ^ (k + 1), k + 1) (by omega) (iS9_s h hI0 (by omega) hu)
          dsimp only at ih2
          rw [if_pos (hb.mpr hu), bor_nI (by omega), bt2_pm h a1 a5 (by omega) hlk, ih2, hfk, mxI_nI]
          · have := mxN_b hfl (k + 1); omega
          · have := tbN_le (B := B) h0 r (tlN B S l (k + 1), u ||| 2 ^ (k + 1), k + 1); omega
    have := key (B 0 - 1) (by omega)
    rw [show B 0 - 1 + 1 = B 0 by omega] at this
    exact this
theorem tfL_sp {n g0 : Nat} {s : Int32} {g : Nat → Int32} {best : Int32} : ∀ r, r ≤ n → n - r ≤ g0 → g0 < n → ((s >>> (nI g0 &&& 31)) &&& 1 = 0 ∧ g g0 = best) → (∀ x, n - r ≤ x → x < g0 → ¬ ((s >>> (nI x &&& 31)) &&& 1 = 0 ∧ g x = best)) → tfL n s g best r = g0
  | 0, hr, h1, h2, _, _ => by omega
  | r + 1, hr, h1, h2, h3, h4 => by
    rw [tfL]
    by_cases q : g0 = n - (r + 1)
    · rw [if_pos (by rw [← q]; exact h3), q]
    · rw [if_neg (h4 _ (Nat.le_refl _) (by omega))]
      exact tfL_sp r (by omega) (by omega) h2 h3 (fun x hx1 hx2 => h4 x (by omega) hx2)
theorem tfc_pm {B : Nat → Nat} {ki : Nat → Int32} {r p : Nat} {s : (Nat → Nat) × Nat × Nat} (h : CR B ki) (hp : p + (r + 1) + 1 = B 0) (hI : iS9 (B 0) p s) : tfc (B 0) ki (nI (B 5)) (nI (B 6)) (nI (B 7)) r (nI s.2.1) s.2.2 (pm s.1) = gS9 B (B 0) r p s := by
  have h0 := h.1.1
  have hbest := tbm_pm h (r + 1) p s (by omega) hI
  obtain ⟨g1, g2, g3, g4⟩ := gS9_sp (B := B) (r := r) hI hp
  generalize hgg : gS9 B (B 0) r p s = g0 at *
  obtain ⟨S, u, l⟩ := s
  have hI0 := hI
  obtain ⟨a1, a2, a3, a4, a5, a6, a7⟩ := hI
  unfold tfc
  dsimp only at *
  have val : ∀ x, x < B 0 → u.testBit x = false → tbm (B 0) ki (nI (B 5)) (nI (B 6)) (nI (B 7)) r (bor (nI u) x) x (btN (B 0) ki (nI (B 5)) (pm S) l x) = nI (tbN B (B 0) r (tlN B S l x, u ||| 2 ^ x, x)) := fun x hx hu => by
    have hlx : l ≠ x := fun z => by rw [← z, a4] at hu; cases hu
    have ih2 := tbm_pm h r (p + 1) (tlN B S l x, u ||| 2 ^ x, x) (by omega) (iS9_s h hI0 hx hu)
    dsimp only at ih2
    rw [bor_nI (by omega), bt2_pm h a1 a5 hx hlx, ih2]
  have hg0 : g0 ≠ 0 := fun z => by rw [z, a2] at g2; cases g2
  refine tfL_sp (B 0 - 1) (by omega) (by omega) g1 ⟨(bit0 (by omega) (by omega)).mpr g2, ?_⟩ (fun x hx1 hx2 hx => ?_)
  · rw [hbest]
    show tbm _ _ _ _ _ r (bor (nI u) g0) g0 (btN (B 0) ki (nI (B 5)) (pm S) l g0) = _
    rw [val g0 g1 g2, g3]
  · have hu := (bit0 (o := u) (m := x) (by omega) (by omega)).mp hx.1
    have he := hx.2
    rw [hbest] at he
    have he : tbm (B 0) ki (nI (B 5)) (nI (B 6)) (nI (B 7)) r (bor (nI u) x) x (btN (B 0) ki (nI (B 5)) (pm S) l x) = _ := he
    rw [val x (by omega) hu] at he
    have l1 := tbN_le (B := B) h0 r (tlN B S l x, u ||| 2 ^ x, x)
    have l2 := tbN_le (B := B) h0 (r + 1) (S, u, l)
    exact g4 x hx2 hu ((nI_eq (by omega) (by omega)).mp he)
/-! the reference's rows -/
def uuR (n c : Nat) : Nat → Nat
  | 0 => 1
  | p + 1 => uuR n c p ||| 2 ^ sdg n c (p + 1)
def okp (n c : Nat) : Nat → Bool
  | 0 => true
  | p + 1 => okp n c p && !(uuR n c p).testBit (sdg n c (p + 1))
theorem sdg_dg {n c p : Nat} : dg n (n - 1) c p = sdg n c (p + 1) := by
  unfold dg sdg
  rw [if_neg (by omega), show n - 1 - (p + 1) = n - 1 - 1 - p by omega]
theorem sea_run {B : Nat → Nat} {n c : Nat} : ∀ p, p + 1 ≤ n → fbR (stS B) (dg n (n - 1) c) p 0 (nw B, 1, 0) = if okp n c p = true then some (stR B n c p, uuR n c p, sdg n c p) else none
  | 0, _ => by
    rw [okp, if_pos rfl]
    rfl
  | p + 1, hp => by
    rw [fbR_add p 1 0, sea_run p (by omega), okp]
    cases ho : okp n c p with
    | false => rfl
    | true =>
      rw [if_pos rfl]
      dsimp only
      rw [Nat.zero_add, fbR, stS_e, sdg_dg]
      dsimp only
      cases hu : (uuR n c p).testBit (sdg n c (p + 1)) with
      | true => rfl
      | false =>
        rw [if_neg Bool.false_ne_true]
        dsimp only
        rw [stR, Nat.mod_eq_of_lt (show p + 1 < n by omega), uuR]
        rfl
theorem usR_tb {n c i : Nat} : ∀ m, (usR n c m).testBit i = true ↔ ∃ q, q < m ∧ sdg n c (n - 1 - q) = i
  | 0 => by
    rw [usR, Nat.zero_testBit]
    exact ⟨fun h => (nomatch h), fun ⟨q, hq, _⟩ => absurd hq (Nat.not_lt_zero q)⟩
  | m + 1 => by
    rw [usR, or_tb, Bool.or_eq_true, usR_tb m, decide_eq_true_eq]
    constructor
    · rintro (⟨q, h1, h2⟩ | h)
      · exact ⟨q, by omega, h2⟩
      · exact ⟨m, by omega, h⟩
    · rintro ⟨q, h1, h2⟩
      by_cases e : q = m
      · subst e; exact Or.inr h2
      · exact Or.inl ⟨q, by omega, h2⟩
theorem uuR_tb {n c i : Nat} : ∀ p, (uuR n c p).testBit i = true ↔ ∃ q, q ≤ p ∧ sdg n c q = i
  | 0 => by
    have e : (uuR n c 0).testBit i = decide (0 = i) := by
      show (1 : Nat).testBit i = _
      rw [show (1 : Nat) = 2 ^ 0 from rfl, p2_tb]
    rw [e, decide_eq_true_eq]
    constructor
    · intro h; exact ⟨0, Nat.le_refl 0, by rw [← h]; exact if_pos rfl⟩
    · rintro ⟨q, h1, h2⟩
      have : q = 0 := by omega
      subst this
      rw [← h2]
      exact (if_pos rfl : sdg n c 0 = 0).symm
  | p + 1 => by
    rw [uuR, or_tb, Bool.or_eq_true, uuR_tb p, decide_eq_true_eq]
    constructor
    · rintro (⟨q, h1, h2⟩ | h)
      · exact ⟨q, by omega, h2⟩
      · exact ⟨p + 1, Nat.le_refl _, h⟩
    · rintro ⟨q, h1, h2⟩
      by_cases e : q = p + 1
      · subst e; exact Or.inr h2
      · exact Or.inl ⟨q, by omega, h2⟩
theorem okp_cnt {n c : Nat} (hn : 0 < n) : ∀ p, (okp n c p = true → cU (fun q => (uuR n c p).testBit q) n = p + 1) ∧ (okp n c p = false → cU (fun q => (uuR n c p).testBit q) n ≤ p)
  | 0 => by
    refine ⟨fun _ => ?_, fun h => (nomatch h)⟩
    have := cU_one (P := fun q => (uuR n c 0).testBit q) (P' := fun _ => false) (d := 0) (show (1 : Nat).testBit 0 = true by decide) rfl (fun j hj => by
      show (1 : Nat).testBit j = false
      rw [show (1 : Nat) = 2 ^ 0 from rfl, p2_tb]
      exact decide_eq_false (fun z => hj z.symm)) n hn
    rw [this, cU_none (fun _ _ => rfl)]
  | p + 1 => by
    obtain ⟨i1, i2⟩ := okp_cnt (c := c) hn p
    have hs := sdg_lt (c := c) (k := p + 1) hn
    have inc : cU (fun q => (uuR n c (p + 1)).testBit q) n = cU (fun q => (uuR n c p).testBit q) n + (if (uuR n c p).testBit (sdg n c (p + 1)) = true then 0 else 1) := by
      cases hu : (uuR n c p).testBit (sdg n c (p + 1)) with
      | true =>
        rw [if_pos rfl, Nat.add_zero]
        refine cU_congr n (fun j _ => ?_)
        show (uuR n c p ||| 2 ^ sdg n c (p + 1)).testBit j = _
        rw [or_tb]
        by_cases e : sdg n c (p + 1) = j
        · rw [← e, hu]; rfl
        · rw [decide_eq_false e, Bool.or_false]
      | false =>
        rw [if_neg Bool.false_ne_true]
        refine cU_one (d := sdg n c (p + 1)) ?_ hu (fun j hj => ?_) n hs
        · show (uuR n c p ||| 2 ^ sdg n c (p + 1)).testBit _ = true
          rw [or_tb, decide_eq_true rfl, Bool.or_true]
        · show (uuR n c p ||| 2 ^ sdg n c (p + 1)).testBit j = _
          rw [or_tb, decide_eq_false (fun z => hj z.symm), Bool.or_false]
    rw [inc, okp]
    cases ho : okp n c p with
    | false =>
      have := i2 ho
      refine ⟨fun h => (nomatch h), fun _ => ?_⟩
      split <;> omega
    | true =>
      have := i1 ho
      cases hu : (uuR n c p).testBit (sdg n c (p + 1)) with
      | true => exact ⟨fun h => (nomatch h), fun _ => by rw [if_pos rfl]; omega⟩
      | false => exact ⟨fun _ => by rw [if_neg Bool.false_ne_true]; omega, fun h => (nomatch h)⟩
theorem okU_iff {n c : Nat} (hn : 0 < n) : okU n c = okp n c (n - 1) := by
  have tb : ∀ i, (usR n c n).testBit i = (uuR n c (n - 1)).testBit i := fun i => by
    rw [Bool.eq_iff_iff, usR_tb n, uuR_tb (n - 1)]
    constructor
    · rintro ⟨q, h1, h2⟩; exact ⟨n - 1 - q, by omega, h2⟩
    · rintro ⟨q, h1, h2⟩; exact ⟨n - 1 - q, by omega, by rw [show n - 1 - (n - 1 - q) = q by omega]; exact h2⟩
  have all : usR n c n = 2 ^ n - 1 ↔ ∀ j, j < n → (uuR n c (n - 1)).testBit j = true := by
    constructor
    · intro h j hj
      rw [← tb, h, Nat.testBit_two_pow_sub_one]
      exact decide_eq_true hj
    · intro h
      apply Nat.eq_of_testBit_eq
      intro i
      rw [Nat.testBit_two_pow_sub_one]
      by_cases hi : i < n
      · rw [tb, h i hi, decide_eq_true hi]
      · rw [decide_eq_false hi]
        cases hu : (usR n c n).testBit i with
        | false => rfl
        | true =>
          obtain ⟨q, h1, h2⟩ := (usR_tb n).mp hu
          have := sdg_lt (c := c) (k := n - 1 - q) hn
          omega
  obtain ⟨k1, k2⟩ := okp_cnt (c := c) hn (n - 1)
  have hc := cU_all (P := fun q => (uuR n c (n - 1)).testBit q) n
  unfold okU
  cases ho : okp n c (n - 1) with
  | true =>
    refine decide_eq_true (all.mpr (hc.mp ?_))
    have := k1 ho
    omega
  | false =>
    refine decide_eq_false (fun q => ?_)
    have := hc.mpr (all.mp q)
    have := k2 ho
    omega
theorem bsS_F {B : Nat → Nat} {n : Nat} : ∀ c, bsS B n c = bsF (okU n) (spN B n) c
  | 0 => rfl
  | c + 1 => by
    rw [bsS, bsF, bsS_F c]
    cases bsF (okU n) (spN B n) c <;> rfl
theorem sea_val {B : Nat → Nat} {n c : Nat} (hn : 0 < n) (h0 : n = 1 ∨ sdg n c (n - 1) ≠ 0) : vaS B n (stR B n c (n - 1), uuR n c (n - 1), sdg n c (n - 1)) = spN B n c := by
  unfold vaS spN seN
  dsimp only
  by_cases q : n ≤ 1
  · have : n = 1 := by omega
    subst this
    rw [if_pos (Nat.le_refl 1)]
    rfl
  · rw [if_neg q, if_neg (h0.elim (fun z => absurd z (by omega)) id)]
    obtain ⟨m, rfl⟩ : ∃ m, n = m + 2 := ⟨n - 2, by omega⟩
    rw [show m + 2 - 1 = m + 1 by omega]
    have e : stR B (m + 2) c (m + 2) = tlN B (stR B (m + 2) c (m + 1)) (sdg (m + 2) c (m + 1)) 0 := by
      rw [stR, show (m + 1 + 1) % (m + 2) = 0 from Nat.mod_self _]
      rfl
    rw [e]
/-- the most pairs; who sits where -/
theorem seats_pm {B : Nat → Nat} {ki : Nat → Int32} (h : CR B ki) (h1 : 1 ≤ B 0) : ∃ d, bsS B (B 0) (B 0 ^ (B 0 - 1)) = some d ∧ tbm (B 0) ki (nI (B 5)) (nI (B 6)) (nI (B 7)) (B 0 - 1) 1 0 (pm (nw B)) = nI (spN B (B 0) d) ∧ ∀ j, j < B 0 → tsi (B 0) ki (nI (B 5)) (nI (B 6)) (nI (B 7)) j j 1 0 (pm (nw B)) = sdg (B 0) d j := by
  have h0 := h.1.1
  have hH := sea_H h h1
  have hI0 : iS9 (B 0) 0 (nw B, 1, 0) := by
    refine ⟨nw_ok h.1, (show (1 : Nat).testBit 0 = true by decide), (show 1 < 64 by decide), (show (1 : Nat).testBit 0 = true by decide), h1, ?_, ⟨fun _ => rfl, fun _ => rfl⟩⟩
    have := cU_one (P := fun _ => true) (P' := fun q => !(1 : Nat).testBit q) (d := 0) rfl (show (!(1 : Nat).testBit 0) = false by decide) (fun j hj => by
      show true = !(1 : Nat).testBit j
      rw [show (1 : Nat) = 2 ^ 0 from rfl, p2_tb, decide_eq_false (fun z => hj z.symm)]; rfl) (B 0) h1
    have h2 := (cU_all (P := fun _ => true) (B 0)).mpr (fun _ _ => rfl)
    show cU (fun q => !(1 : Nat).testBit q) (B 0) + 0 + 1 = B 0
    omega
  have hrun : ∀ c, fbR (stS B) (dg (B 0) (B 0 - 1) c) (B 0 - 1) 0 (nw B, 1, 0) = if okU (B 0) c = true then some (stR B (B 0) c (B 0 - 1), uuR (B 0) c (B 0 - 1), sdg (B 0) c (B 0 - 1)) else none := fun c => by
    rw [okU_iff h1]
    exact sea_run (B 0 - 1) (by omega)
  have hinv : ∀ (x : Nat → Nat), (∀ q, x q < B 0) → ∀ p, p ≤ B 0 - 1 → ∀ s, fbR (stS B) x p 0 (nw B, 1, 0) = some s → iS9 (B 0) p s := by
    intro x hx p
    induction p with
    | zero => intro _ s e; cases e; exact hI0
    | succ p ih =>
      intro hp s e
      rw [fbR_add p 1 0] at e
      cases e1 : fbR (stS B) x p 0 (nw B, 1, 0) with
      | none => rw [e1] at e; cases e
      | some s1 =>
        rw [e1] at e
        dsimp only at e
        rw [Nat.zero_add, fbR] at e
        cases e2 : stS B p s1 (x p) with
        | none => rw [e2] at e; cases e
        | some s2 =>
          rw [e2] at e
          cases e
          exact hH.1 p s1 (x p) s (by omega) (ih (by omega) s1 e1) (hx p) e2
  have hval : ∀ c, okU (B 0) c = true → vaS B (B 0) (stR B (B 0) c (B 0 - 1), uuR (B 0) c (B 0 - 1), sdg (B 0) c (B 0 - 1)) = spN B (B 0) c := fun c hc => by
    have e := hrun c
    rw [if_pos hc] at e
    have := hinv (dg (B 0) (B 0 - 1) c) (fun q => dg_lt (by omega)) (B 0 - 1) (Nat.le_refl _) _ e
    refine sea_val (by omega) ?_
    by_cases q : B 0 = 1
    · exact Or.inl q
    · refine Or.inr (fun z => ?_)
      have := this.2.2.2.2.2.2.mp z
      omega
  rw [bsS_F]
  obtain ⟨f1, f2⟩ := bsF_spec (ok := okU (B 0)) (v := spN B (B 0)) (B 0 ^ (B 0 - 1))
  cases hb : bsF (okU (B 0)) (spN B (B 0)) (B 0 ^ (B 0 - 1)) with
  | none =>
    exfalso
    obtain ⟨y, sf, y1, y2, y3, y4⟩ := fb_at hH (by omega) (B 0 - 1) 0 (nw B, 1, 0) _ (by omega) hI0 rfl
    have hc := enc_lt y1 (B 0 - 1)
    have := f2 hb _ hc
    have e := hrun (enc (B 0) y (B 0 - 1))
    rw [fbR_c (y := y) (B 0 - 1) 0 _ (fun q _ hq => enc_dg y1 (by omega)), y2, this, if_neg Bool.false_ne_true] at e
    cases e
  | some d =>
    obtain ⟨d1, d2, d3⟩ := f1 d hb
    have e := hrun d
    rw [if_pos d2] at e
    obtain ⟨hV, hst⟩ := fb_first hH (by omega) hI0 d1 e (fun c hc s' e' => by
      rw [hrun c] at e'
      cases hoc : okU (B 0) c with
      | false => rw [hoc, if_neg Bool.false_ne_true] at e'; cases e'
      | true =>
        rw [hoc, if_pos rfl] at e'
        have e' := Option.some.inj e'
        subst e'
        rw [hval c hoc, hval d d2]
        exact d3 c hc hoc)
    have hV := Option.some.inj hV
    rw [hval d d2] at hV
    refine ⟨d, rfl, ?_, fun j hj => ?_⟩
    · have := tbm_pm h (B 0 - 1) 0 (nw B, 1, 0) (by omega) hI0
      dsimp only at this
      rw [hV] at this
      exact this
    · have loop : ∀ r p, p + r = j → ∀ s, fbR (stS B) (dg (B 0) (B 0 - 1) d) p 0 (nw B, 1, 0) = some s → tsi (B 0) ki (nI (B 5)) (nI (B 6)) (nI (B 7)) j r (nI s.2.1) s.2.2 (pm s.1) = sdg (B 0) d j := by
        intro r
        induction r with
        | zero =>
          intro p hp s hs
          have hp : p = j := by omega
          subst hp
          rw [tsi]
          rw [sea_run p (by omega)] at hs
          by_cases ho : okp (B 0) d p = true
          · rw [if_pos ho] at hs
            rw [← Option.some.inj hs]
          · rw [if_neg ho] at hs; cases hs
        | succ r ih =>
          intro p hp s hs
          obtain ⟨s2, t1, t2, t3, t4⟩ := hst p (by omega)
          rw [hs] at t1
          have t1 := Option.some.inj t1
          subst t1
          have t4 := t4 (by omega)
          obtain ⟨r2, hr2⟩ : ∃ r2, B 0 - 1 - p - 1 = r2 := ⟨_, rfl⟩
          rw [hr2] at t4
          have hfc := tfc_pm (r := r2) (p := p) h (by omega) t2
          rw [tsi, show B 0 - (j - r) - 1 = r2 by omega, hfc, ← t4]
          obtain ⟨g1, g2, g3, g4⟩ := gS9_sp (B := B) (r := r2) t2 (by omega)
          rw [← t4] at g1 g2
          have hln : s.2.2 ≠ dg (B 0) (B 0 - 1) d p := fun z => by
            rw [← z, t2.2.2.2.1] at g2; cases g2
          rw [bor_nI (by omega), bt2_pm h t2.1 t2.2.2.2.2.1 g1 hln]
          refine ih (p + 1) (by omega) (tlN B s.1 s.2.2 (dg (B 0) (B 0 - 1) d p), s.2.1 ||| 2 ^ dg (B 0) (B 0 - 1) d p, dg (B 0) (B 0 - 1) d p) ?_
          rw [fbR_add p 1 0, hs]
          dsimp only
          rw [Nat.zero_add, fbR, stS_e, g2, if_neg Bool.false_ne_true]
          rfl
      exact loop j 0 (by omega) (nw B, 1, 0) rfl
