/-! ===== evenings: the class's and the reference's ===== -/
/-- who talks with whom, and of what kind all are, as the class keeps it -/
def CR (B : Nat → Nat) (ki : Nat → Int32) : Prop := GK B ∧ (∀ k, k < B 1 → B (26 + 2 * k) < B 0 ∧ B (27 + 2 * k) < B 0 ∧ B (26 + 2 * k) ≠ B (27 + 2 * k)) ∧ (∀ p, p < B 0 → ki p = nI (B (8 + p)))
def faB_ (B : Nat → Nat) (k : Nat) : Nat := B (26 + 2 * k)
def fbB_ (B : Nat → Nat) (k : Nat) : Nat := B (27 + 2 * k)
theorem btN_pm {B S : Nat → Nat} {ki : Nat → Int32} {a b : Nat} (h : CR B ki) (hS : SOK S) (ha : a < B 0) (hb : b < B 0) (hab : a ≠ b) : btk ki (nI (B 5)) (pm S) a b = pm (tlN B S a b) := by
  have h0 := h.1.1
  exact btk_pm (by omega) (by omega) hab hS (h.2.2 a ha) (h.2.2 b hb) h.1.2.2.2.2.2.1
theorem evN_pm {B S : Nat → Nat} {ki : Nat → Int32} {e : Nat} (h : CR B ki) (hS : SOK S) : evN (B 1) ki (nI (B 5)) (faB_ B) (fbB_ B) e (pm S) = pm (goN B S e) := by
  unfold evN goN
  by_cases z : B 1 = 0
  · rw [if_pos z, if_pos z]
  · rw [if_neg z, if_neg z]
    obtain ⟨h1, h2, h3⟩ := h.2.1 (e % B 1) (Nat.mod_lt _ (by omega))
    exact btN_pm h hS h1 h2 h3
theorem csm_pm {B : Nat → Nat} {ki : Nat → Int32} (h : CR B ki) : ∀ t, csm (B 1) ki (nI (B 5)) (faB_ B) (fbB_ B) (B 2) (pm (nw B)) t = pm (trN B t)
  | 0 => rfl
  | t + 1 => by
    rw [csm, csm_pm h t, evN_pm h (trN_ok h.1 t)]
    rfl
theorem dst_nI {w x y : Nat} (hx : x < 1024) (hy : y < 1024) : dst (nI w) (nI x) (nI y) = nI (cn w (x ^^^ y)) := by
  have hd := xor_lt hx hy
  unfold dst cn
  rw [nI_xor, nI_and, bcI_nI _ hd, bcI_nI _ (and_lt hd), nI_add]
theorem lic_nI {a b c : Nat} (ha : a < 100) (hb : b < 100) (hc : c < 100) : (¬ nI c < nI a ∧ ¬ nI b < nI c) ↔ (a ≤ c ∧ c ≤ b) := by
  rw [i_lt, i_lt, nI_toInt (by omega), nI_toInt (by omega), nI_toInt (by omega)]
  omega
theorem mwB_pm {B S : Nat → Nat} {a b : Nat} (h6 : B 6 ≤ 20) (h7 : B 7 ≤ 20) (hS : SOK S) (ha : a < 6) (hb : b < 6) : mwB (nI (B 5)) (nI (B 6)) (nI (B 7)) (pm S) a b = isL B S a b := by
  have hc := cn_le (w := B 5) (x := S a ^^^ S b)
  unfold mwB isL
  rw [mo_pm hS ha, mo_pm hS hb, dst_nI (hS a ha) (hS b hb)]
  exact decide_eq_decide.mpr (lic_nI (by omega) (by omega) (by omega))
theorem lst_pm {B : Nat → Nat} {ki : Nat → Int32} {a b : Nat} (h : CR B ki) (ha : a < 6) (hb : b < 6) : lst9 (B 1) (B 0) ki (nI (B 5)) (nI (B 6)) (nI (B 7)) (faB_ B) (fbB_ B) (B 2) (pm (nw B)) a b = lstN B a b := by
  unfold lst9 lstN
  refine ffd_congr (fun t ht => ?_) 201 (Nat.le_refl _)
  show (!mwB _ _ _ (csm _ _ _ _ _ _ _ t) a b) = !isL B (trN B t) a b
  rw [csm_pm h t, mwB_pm h.1.2.2.2.1 h.1.2.2.2.2.1 (trN_ok h.1 t) ha hb]
theorem onR_iff {S : Nat → Nat} : ∀ k, onR S k = true ↔ ∀ j, 1 ≤ j → j ≤ k → S j = S 0
  | 0 => ⟨fun _ j h1 h2 => by omega, fun _ => rfl⟩
  | k + 1 => by
    rw [onR, Bool.and_eq_true, onR_iff k, decide_eq_true_eq]
    constructor
    · intro h j h1 h2
      by_cases e : j = k + 1
      · rw [e]; exact h.2
      · exact h.1 j h1 (by omega)
    · intro h
      exact ⟨fun j h1 h2 => h j h1 (by omega), h (k + 1) (by omega) (Nat.le_refl _)⟩
theorem alB_pm {B S : Nat → Nat} (h0 : B 0 ≤ 6) (hS : SOK S) : alB (pm S) (B 0) = onB B S := by
  unfold alB onB
  cases hb : onR S (B 0 - 1) with
  | true =>
    have := (onR_iff _).mp hb
    refine decide_eq_true (fun j h1 h2 => ?_)
    rw [show (0 : Int32) = nI 0 from rfl, mo_pm hS (by omega), mo_pm hS (by omega), this j h2 (by omega)]
  | false =>
    refine decide_eq_false (fun q => ?_)
    have : onR S (B 0 - 1) = true := (onR_iff _).mpr (fun j h1 h2 => by
      have := q j (by omega) h1
      rw [show (0 : Int32) = nI 0 from rfl, mo_pm hS (by omega), mo_pm hS (by omega)] at this
      have a := hS j (by omega)
      have b := hS 0 (by omega)
      exact (nI_eq (by omega) (by omega)).mp this)
    rw [hb] at this
    cases this
theorem mnd_pm {B : Nat → Nat} {ki : Nat → Int32} (h : CR B ki) : mnd9 (B 1) (B 0) ki (nI (B 5)) (faB_ B) (fbB_ B) (B 2) (pm (nw B)) = mndN B := by
  unfold mnd9 mndN
  refine ffd_congr (fun t ht => ?_) 201 (Nat.le_refl _)
  show alB (csm _ _ _ _ _ _ _ t) (B 0) = onB B (trN B t)
  rw [csm_pm h t, alB_pm h.1.1 (trN_ok h.1 t)]
theorem CR_stub {B : Nat → Nat} {ki : Nat → Int32} {p : Nat} (h : CR B ki) (hp : p < B 0) : CR (un B (8 + p) 4) (upd ki p 4) := by
  have h0 := h.1.1
  refine ⟨GK_stub h.1 (by omega), fun k hk => ?_, fun q hq => ?_⟩
  · rw [un_n (by omega)] at hk
    rw [un_n (by omega), un_n (by omega), un_n (by omega)]
    exact h.2.1 k hk
  · rw [un_n (by omega)] at hq
    by_cases e : q = p
    · rw [e, pk_us, un_s]; rfl
    · rw [pk_un e, un_n (by omega)]; exact h.2.2 q hq
theorem stp_pm {B : Nat → Nat} {ki : Nat → Int32} (h : CR B ki) : stp9 (B 1) (B 0) ki (nI (B 5)) (faB_ B) (fbB_ B) (B 2) (pm (nw B)) = stpN B := by
  unfold stp9 stpN
  rw [mnd_pm h]
  cases mndN B with
  | none => rfl
  | some d =>
    refine ffd_congr (fun p hp => ?_) (B 0) (Nat.le_refl _)
    have hs := CR_stub h hp
    have e := mnd_pm hs
    have h0 := h.1.1
    have e1 : un B (8 + p) 4 1 = B 1 := un_n (by omega)
    have e0 : un B (8 + p) 4 0 = B 0 := un_n (by omega)
    have e5 : un B (8 + p) 4 5 = B 5 := un_n (by omega)
    have e2 : un B (8 + p) 4 2 = B 2 := un_n (by omega)
    have ea : faB_ (un B (8 + p) 4) = faB_ B := by funext k; exact un_n (by omega)
    have eb : fbB_ (un B (8 + p) 4) = fbB_ B := by funext k; exact un_n (by omega)
    have en : nw (un B (8 + p) 4) = nw B := by
      funext q
      unfold nw
      split
      · exact un_n (by omega)
      · rfl
    rw [e1, e0, e5, e2, ea, eb, en] at e
    rw [e]
