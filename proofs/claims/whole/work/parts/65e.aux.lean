/-! ===== numbers out of what was asked ===== -/
theorem isk_of {k : Int32} (h : isk k) : ∃ j, j ≤ 5 ∧ k = nI j := nI_of2 (M := 5) (by decide) h.1 (Int32.not_lt.mp h.2)
theorem iss_of {k : Int32} (h : iss k) : ∃ j, j ≤ 1023 ∧ k = nI j := nI_of2 (M := 1023) (by decide) h.1 (Int32.not_lt.mp h.2)
theorem hs_of {n : Nat} {p : Int32} (h : hs (nI n) p) : ∃ j, j < n ∧ p = nI j := nI_at rfl h
theorem hs_in {n j : Nat} (hn : n ≤ 6) (h : j < n) : hs (nI n) (nI j) := ⟨nI_pos (by omega), nI_ge h (by omega)⟩
theorem h2_of {n : Nat} {a b : Int32} (h : h2 (nI n) a b) : ∃ i j, i < n ∧ j < n ∧ i ≠ j ∧ a = nI i ∧ b = nI j := by
  obtain ⟨i, hi, rfl⟩ := hs_of h.1
  obtain ⟨j, hj, rfl⟩ := hs_of h.2.1
  exact ⟨i, j, hi, hj, fun z => h.2.2 (by rw [z]), rfl, rfl⟩
theorem h2_in {n i j : Nat} (hn : n ≤ 6) (hi : i < n) (hj : j < n) (hij : i ≠ j) : h2 (nI n) (nI i) (nI j) := ⟨hs_in hn hi, hs_in hn hj, fun z => hij ((nI_eq (by omega) (by omega)).mp z)⟩
theorem r20_of {x : Int32} (h : rng20 x) : ∃ j, j ≤ 20 ∧ x = nI j := nI_of2 (M := 20) (by decide) h.1 h.2
theorem prm_of {a b : Int32} (h : prm a b) : ∃ i j, i ≤ 20 ∧ j ≤ 20 ∧ i ≤ j ∧ a = nI i ∧ b = nI j := by
  obtain ⟨h1, h2, h3⟩ := h
  have h2 := Int32.not_lt.mp h2
  have hb : ¬ b < 0 := fun z => h1 (Int32.lt_of_le_of_lt h3 z)
  obtain ⟨j, hj, rfl⟩ := nI_of2 (M := 20) (n := 20) (by decide) hb h2
  obtain ⟨i, hi, rfl⟩ := nI_of2 (M := 20) (n := 20) (by decide) h1 (Int32.le_trans h3 h2)
  exact ⟨i, j, hi, hj, (nI_leI (by omega) (by omega)).mp h3, rfl, rfl⟩
theorem inm_of {m : Int32} (h : inm m) : ∃ j, j ≤ 200 ∧ m = nI j := nI_of2 (M := 200) (by decide) h.1 h.2
theorem inw_of {m : Int32} (h : inw m) : ∃ j, j ≤ 40 ∧ m = nI j := nI_of2 (M := 40) (by decide) h.1 h.2
theorem chk_of {m : Int32} (h : chk m) : ∃ j, j ≤ 20 ∧ m = nI j := nI_of2 (M := 20) (by decide) h.1 (Int32.not_lt.mp h.2)
theorem j2_of {k : Int32} (h : ¬ k < 0) (h2 : k ≤ 1) : ∃ j, j < 2 ∧ k = nI j := by
  obtain ⟨j, hj, rfl⟩ := nI_of2 (M := 1) (n := 1) (by decide) h h2
  exact ⟨j, by omega, rfl⟩
theorem mo_at {B : Nat → Nat} {j : Nat} (hN : SOK (nw B)) (hj : j < 6) : mo (pm (nw B)) (nI j) = nI (B (14 + j)) := by rw [mo_pm hN hj, nw_in hj]
theorem mo_sn {B : Nat → Nat} {j : Nat} (hN : SOK (sn B)) (hj : j < 6) : mo (pm (sn B)) (nI j) = nI (B (20 + j)) := by
  rw [mo_pm hN hj]
  unfold sn
  rw [if_pos hj]
theorem nI_inj {a b : Nat} (ha : a < 1000) (hb : b < 1000) (h : nI a = nI b) : a = b := (nI_eq (by omega) (by omega)).mp h
theorem TY_type {by9 : Nat → Int32} {tln : Int32} {C : Nat → Nat} {L c : Nat} (h : TY by9 tln C L) (hc : c < 128) (hL : L < 150) : TY (upd by9 L (nI c)) (nI (L + 1)) (un C L c) (L + 1) := by
  obtain ⟨h1, h2, h3, h4⟩ := h
  refine ⟨fun j hj => ?_, rfl, by omega, fun j => ?_⟩
  · by_cases q : j = L
    · rw [q, upd_s, un_s]
    · rw [upd_n q, un_n q]; exact h1 j (by omega)
  · by_cases q : j = L
    · rw [q, un_s]; exact hc
    · rw [un_n q]; exact h4 j
theorem TX_type {tx : Nat → Int32} {ty : Int32} {C : Nat → Nat} {L c : Nat} (h : TX tx ty C L) (hc : c < 128) (hL : L < 150) : TX (upd tx L (nI c)) (nI (L + 1)) (un C L c) (L + 1) := by
  obtain ⟨h1, h2, h3, h4⟩ := h
  refine ⟨by rw [h1, nB_un], rfl, by omega, fun j => ?_⟩
  by_cases q : j = L
  · rw [q, un_s]; exact hc
  · rw [un_n q]; exact h4 j
theorem TY_0 {by9 : Nat → Int32} {tln : Int32} {C : Nat → Nat} {L : Nat} (h : TY by9 tln C L) : TY by9 0 C 0 := ⟨fun j hj => absurd hj (Nat.not_lt_zero j), rfl, by omega, h.2.2.2⟩
theorem TX_0 {tx : Nat → Int32} {ty : Int32} {C : Nat → Nat} {L : Nat} (h : TX tx ty C L) : TX tx 0 C 0 := ⟨h.1, rfl, by omega, h.2.2.2⟩
theorem c128_of {c : Int32} (h : ¬ c < 0) (h2 : c ≤ 127) : ∃ j, j < 128 ∧ c = nI j := by
  obtain ⟨j, hj, e⟩ := nI_of2 (M := 127) (n := 127) (by decide) h h2
  exact ⟨j, by omega, e⟩
theorem INV_e {nn : Nat} {hp : em_H} {P : em_H → Prop} (h : INV nn hp) (F : ∀ (by9 : Nat → Int32) (tln : Int32) (tst : Int32) (ten : Int32) (mm : Nat → Int64) (fa9 : Int32) (fb9 : Int32) (rf : Nat → Int32) (im : Nat → Option Nat) (ki : Nat → Int32) (fi : Nat → Int32) (sd : Nat → Int32) (ma : Nat → Int64) (ea : Nat → Int32) (ca : Nat → Int32) (clt : Nat → Int32) (pe0 : Int32) (ki0 : Nat → Int32) (mi0 : Int64) (se0 : Int64) (we0 : Int32) (lea0 : Int32) (mst0 : Int32) (pa0 : Int32) (fi0 : Nat → Int32) (sd0 : Nat → Int32) (ev0 : Int32) (un0 : Int32) (ma0 : Nat → Int64) (ea0 : Nat → Int32) (co0 : Int32) (ca0 : Nat → Int32) (clt0 : Nat → Int32) (kp : Nat → Int32) (asd : Nat → Int32) (tx : Nat → Int32) (ty : Int32) (at9 : Int32) (st9 : Int32) (tk : Int32) (vl : Int32) (wd : Int64) (it : Nat → Int32) (mn : Int32) (sb : Nat → Int64) (my : Nat → Int32) (wem : Nat → Int32) (be9 : Nat → Int32) (rw : Nat → Int32) (fr : Nat → Int32) (G : em_H) (B C : Nat → Nat) (L9 : Nat) (S IM : Nat → Nat), (RT nn B (nI (B 0)) ki (pm (nw B)) (pm (sn B)) (nI (B 5)) (nI (B 6)) (nI (B 7)) (nI (B 1)) fi sd (nI (B 2)) (nI (B 3)) ma ea (nI (B 4)) ca clt) → (∀ j, j < 10 → clt0 j = 0 ∨ clt0 j = 1) → TY by9 tln C L9 → TX tx ty C L9 → Z6 S → Z6i my → IMG nn im kp IM G → P (wL by9 tln tst ten mm fa9 fb9 rf im (nI (B 0)) ki (pm (nw B)) (pm (sn B)) (nI (B 5)) (nI (B 6)) (nI (B 7)) (nI (B 1)) fi sd (nI (B 2)) (nI (B 3)) ma ea (nI (B 4)) ca clt pe0 ki0 mi0 se0 we0 lea0 mst0 pa0 fi0 sd0 ev0 un0 ma0 ea0 co0 ca0 clt0 (nB B) (nB IM) kp asd (rf) (0) (fa9.toInt64) (fb9.toInt64) tx ty at9 st9 tk vl wd it mn (nB S) sb my wem be9 rw fr G)) : P hp := by
  obtain ⟨by9, tln, tst, ten, mm, fa9, fb9, rf, im, pe, ki, mi, se, we, lea, mst, pa, fi, sd, ev, un, ma, ea, co, ca, clt, pe0, ki0, mi0, se0, we0, lea0, mst0, pa0, fi0, sd0, ev0, un0, ma0, ea0, co0, ca0, clt0, bk, imm, kp, asd, rfm, qt, ab, be, tx, ty, at9, st9, tk, vl, wd, it, mn, so, sb, my, wem, be9, rw, fr, G, B, C, L9, S, IM, e, hR, hz, hY, hT, e1, e2, e3, e4, e5, e6, e7, hS, hM, hG⟩ := h
  have hpe := hR.1.2.2.1
  have hmi := hR.2.1.2.1
  have hse := hR.2.1.2.2
  have hwe := hR.2.2.1.2.2.2.1
  have hlea := hR.2.2.1.2.2.2.2.1
  have hmst := hR.2.2.1.2.2.2.2.2
  have hpa := hR.2.2.2.1.2.1
  have hev := hR.2.2.2.2.1.2.2.1
  have hun := hR.2.2.2.2.1.2.2.2.1
  have hco := hR.2.2.2.2.2.2.1
  rw [hpe, hmi, hse, hwe, hlea, hmst, hpa, hev, hun, hco] at hR
  rw [e, hpe, hmi, hse, hwe, hlea, hmst, hpa, hev, hun, hco, e1, e2, ← e3, e4, e5, e6, e7]
  exact F _ _ _ _ _ _ _ _ _ _ _ _ _ _ _ _ _ _ _ _ _ _ _ _ _ _ _ _ _ _ _ _ _ _ _ _ _ _ _ _ _ _ _ _ _ _ _ _ _ _ _ B C L9 S IM hR hz hY hT hS hM hG
