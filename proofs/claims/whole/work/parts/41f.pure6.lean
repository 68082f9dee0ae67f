/-! ===== again ===== -/
theorem ffd_skip {F : Nat → Bool} {N : Nat} : ∀ r r', r' ≤ r → r ≤ N → (∀ e, N - r ≤ e → e < N - r' → F e = false) → ffd F N r = ffd F N r'
  | 0, r', h, _, _ => by rw [show r' = 0 by omega]
  | r + 1, r', h, hN, hF => by
    by_cases e : r' = r + 1
    · rw [e]
    · rw [ffd, if_neg (by rw [hF (N - (r + 1)) (by omega) (by omega)]; exact Bool.false_ne_true)]
      exact ffd_skip r r' (by omega) (by omega) (fun e h1 h2 => hF e (by omega) h2)
theorem mod_gap {L d g : Nat} (h : d % L = 0) (hg : 0 < g) (hgL : g < L) (hd : g ≤ d) : ¬ (d - g) % L = 0 := by
  intro q
  obtain ⟨a, ha⟩ := Nat.dvd_of_mod_eq_zero h
  obtain ⟨b, hb⟩ := Nat.dvd_of_mod_eq_zero q
  have h1 : L * a = L * b + g := by omega
  have h2 : b < a := by
    rcases Nat.lt_or_ge b a with w | w
    · exact w
    · have := Nat.mul_le_mul_left L w; omega
  have h3 : L * (b + 1) ≤ L * a := Nat.mul_le_mul_left L h2
  rw [Nat.mul_add, Nat.mul_one] at h3
  omega
theorem asI_ffd {P : Nat → Nat → Bool} {t L : Nat} (hL : 0 < L) : ∀ f s, (t ≤ s ∨ (t - s) % L = 0) → t ≤ s + f * L → asI P t L f s = ffd (fun e => decide ((t - e) % L = 0 ∧ P e t = true)) t (t - s)
  | 0, s, _, h2 => by rw [asI, show t - s = 0 by omega]; rfl
  | f + 1, s, h1, h2 => by
    rw [asI]
    by_cases hs : s < t
    · rw [if_pos hs]
      have hm : (t - s) % L = 0 := h1.elim (fun q => by omega) id
      obtain ⟨r, hr⟩ : ∃ r, t - s = r + 1 := ⟨t - s - 1, by omega⟩
      have hts : t - (r + 1) = s := by omega
      by_cases hp : P s t = true
      · rw [if_pos hp, hr, ffd, if_pos (by rw [hts]; exact decide_eq_true ⟨hm, hp⟩), hts]
      · rw [if_neg hp, hr, ffd, if_neg (by rw [hts, decide_eq_true_eq]; exact fun q => hp q.2)]
        have hgap : ∀ e, s < e → e < s + L → e < t → ¬ (t - e) % L = 0 := fun e a b c => by
          have := mod_gap (g := e - s) hm (by omega) (by omega) (by omega)
          rw [show t - s - (e - s) = t - e by omega] at this
          exact this
        have hn : t ≤ s + L ∨ (t - (s + L)) % L = 0 := by
          by_cases q : t ≤ s + L
          · exact Or.inl q
          · refine Or.inr ?_
            rw [show t - s = (t - (s + L)) + L by omega, Nat.add_mod_right] at hm
            exact hm
        rw [asI_ffd hL f (s + L) hn (by rw [Nat.add_mul] at h2; omega)]
        exact (ffd_skip r (t - (s + L)) (by omega) (by omega) (fun e a b => decide_eq_false (fun q => hgap e (by omega) (by omega) (by omega) q.1))).symm
    · rw [if_neg hs, show t - s = 0 by omega]; rfl
theorem asI_start {P : Nat → Nat → Bool} {t L : Nat} (hL : 0 < L) (ht : t ≤ 200) : asI P t L 201 (t % L) = ffd (fun e => decide ((t - e) % L = 0 ∧ P e t = true)) t t := by
  have hle : t % L ≤ t := Nat.mod_le t L
  have hlt := Nat.mod_lt t hL
  have hm : (t - t % L) % L = 0 := by
    have := Nat.div_add_mod t L
    rw [show t - t % L = L * (t / L) by omega]
    exact Nat.mul_mod_right _ _
  have h201 : 201 * 1 ≤ 201 * L := Nat.mul_le_mul_left 201 hL
  rw [asI_ffd hL 201 (t % L) (Or.inr hm) (by omega)]
  refine (ffd_skip t (t - t % L) (by omega) (Nat.le_refl _) (fun e a b => decide_eq_false (fun q => ?_))).symm
  have hb : e < t % L := by omega
  have e1 : t - e = (t % L - e) + (t - t % L) := by omega
  have h3 := q.1
  rw [e1, Nat.add_mod, hm, Nat.add_zero, Nat.mod_mod, Nat.mod_eq_of_lt (by omega)] at h3
  omega
def pkB (S : Nat → Nat) : Nat → Nat
  | 0 => 0
  | p + 1 => 1024 * pkB S p + S p
theorem pkB_lt {S : Nat → Nat} (hS : SOK S) : ∀ n, n ≤ 6 → pkB S n < 1024 ^ n
  | 0, _ => by rw [pkB]; omega
  | n + 1, h => by
    have := pkB_lt hS n (by omega)
    have := hS n (by omega)
    rw [pkB, Nat.pow_succ]; omega
theorem pkL_B {S : Nat → Nat} (hS : SOK S) : ∀ n, n ≤ 6 → pkL S n = nL (pkB S n)
  | 0, _ => rfl
  | n + 1, h => by
    have := hS n (by omega)
    rw [pkL, pkB, pkL_B hS n (by omega), nI_L (by omega)]
    unfold nL
    rw [Int64.ofNat_add, Int64.ofNat_mul]
    rfl
theorem pkB_inj {S T : Nat → Nat} (hS : SOK S) (hT : SOK T) : ∀ n, n ≤ 6 → (pkB S n = pkB T n ↔ ∀ p, p < n → S p = T p)
  | 0, _ => ⟨fun _ p hp => by omega, fun _ => rfl⟩
  | n + 1, h => by
    have a := hS n (by omega)
    have b := hT n (by omega)
    have ih := pkB_inj hS hT n (by omega)
    rw [pkB, pkB]
    constructor
    · intro q p hp
      by_cases e : p = n
      · rw [e]; omega
      · exact ih.mp (by omega) p (by omega)
    · intro q
      rw [ih.mpr (fun p hp => q p (by omega)), q n (by omega)]
theorem nL_inj {a b : Nat} (ha : a < 2 ^ 62) (hb : b < 2 ^ 62) : nL a = nL b ↔ a = b := by
  constructor
  · intro h
    have := congrArg Int64.toInt h
    rw [nL_toInt (by omega), nL_toInt (by omega)] at this
    omega
  · intro h; rw [h]
theorem agP_pm {B : Nat → Nat} {ki : Nat → Int32} (h : CR B ki) (s t : Nat) : (agP B s t = true) ↔ pm (trN B s) = pm (trN B t) := by
  have hs := trN_ok h.1 s
  have ht := trN_ok h.1 t
  have h0 := h.1.1
  have l1 := pkB_lt hs (B 0) h0
  have l2 := pkB_lt ht (B 0) h0
  have hp : 1024 ^ B 0 ≤ 1024 ^ 6 := Nat.pow_le_pow_right (by omega) h0
  unfold agP
  rw [decide_eq_true_eq, pkL_B hs _ h0, pkL_B ht _ h0, nL_inj (by omega) (by omega), pkB_inj hs ht _ h0]
  constructor
  · intro q
    refine pm_congr (fun p hp => ?_)
    by_cases e : p < B 0
    · exact q p e
    · rw [trN_hi h.2.1 (by omega), trN_hi h.2.1 (by omega)]
  · intro q p hp
    exact pkR_inj hs ht q p (by omega)
theorem ag_pm {B : Nat → Nat} {ki : Nat → Int32} {L : Nat} (h : CR B ki) (hL : 0 < L) : ∀ r, r ≤ 200 → agN (B 1) ki (nI (B 5)) (faB_ B) (fbB_ B) (B 2) (pm (nw B)) L r = agM (agP B) L r
  | 0, _ => rfl
  | r + 1, hr => by
    have ih := ag_pm h hL r (by omega)
    rw [agN, agM, asI_start hL (by omega)]
    have e : ffd (fun s => decide ((200 - r - s) % L = 0 ∧ csm (B 1) ki (nI (B 5)) (faB_ B) (fbB_ B) (B 2) (pm (nw B)) s = csm (B 1) ki (nI (B 5)) (faB_ B) (fbB_ B) (B 2) (pm (nw B)) (200 - r))) (200 - r) (200 - r) = ffd (fun e => decide ((200 - r - e) % L = 0 ∧ agP B e (200 - r) = true)) (200 - r) (200 - r) := by
      refine ffd_congr (fun t ht => decide_eq_decide.mpr ?_) _ (Nat.le_refl _)
      rw [csm_pm h, csm_pm h, agP_pm h]
    rw [e, ih]
    cases ffd (fun e => decide ((200 - r - e) % L = 0 ∧ agP B e (200 - r) = true)) (200 - r) (200 - r) <;> rfl
