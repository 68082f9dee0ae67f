/-! ===== digest ===== -/
theorem mx_ad {bk f g : Nat → Int32} {h : Int64} {a : Nat} : ∀ k, (∀ j, j < k → f j = bk (a + 2 * j) ∧ g j = bk (a + 2 * j + 1)) → mxM bk h a (2 * k) = adC f g h k
  | 0, _ => rfl
  | k + 1, hk => by
    have ih := mx_ad (bk := bk) (f := f) (g := g) (h := h) (a := a) k (fun j hj => hk j (by omega))
    obtain ⟨h1, h2⟩ := hk k (by omega)
    rw [show 2 * (k + 1) = 2 * k + 1 + 1 by omega, mxM, mxM, ih, adC, h1, h2, Nat.add_assoc]
theorem dp_ad {bk ki : Nat → Int32} {S N : Nat → Nat} {h : Int64} (hS : SOK S) (hN : SOK N) : ∀ k, k ≤ 6 → (∀ j, j < k → ki j = bk (8 + j) ∧ nI (S j) = bk (14 + j) ∧ nI (N j) = bk (20 + j)) → dpM bk h k = adP ki (pm S) (pm N) h k
  | 0, _, _ => rfl
  | k + 1, hk, hj => by
    obtain ⟨h1, h2, h3⟩ := hj k (by omega)
    rw [dpM, adP, dp_ad hS hN k (by omega) (fun j h => hj j (by omega)), mo_pm hS (by omega), mo_pm hN (by omega), h1, h2, h3]
theorem dg_eq {bk : Nat → Int32} {pe pa ev un co ty : Int32} (h0 : bk 0 = pe) (h1 : bk 1 = pa) (h2 : bk 2 = ev) (h3 : bk 3 = un) (h4 : bk 4 = co) : dgM bk ty 6 = dgN pe pa ev un co ty 6 := by
  unfold dgM dgM dgM dgM dgM dgM dgM dgN dgN dgN dgN dgN dgN dgN hmM hmy
  rw [← h0, ← h1, ← h2, ← h3, ← h4]
  rfl
