/-! ===== the town and the book: what goes with what ===== -/
def Rk (B : Nat → Nat) (pe : Int32) (ki : Nat → Int32) : Prop := B 0 ≤ 6 ∧ (∀ p, p < 6 → B (8 + p) < 6) ∧ pe = nI (B 0) ∧ ∀ p, p < B 0 → ki p = nI (B (8 + p))
def Ro (B : Nat → Nat) (mi se : Int64) : Prop := (∀ p, p < 6 → B (14 + p) < 1024 ∧ B (20 + p) < 1024 ∧ (B 0 ≤ p → B (14 + p) = 0 ∧ B (20 + p) = 0)) ∧ mi = pm (nw B) ∧ se = pm (sn B)
def Rl (B : Nat → Nat) (we lea mst : Int32) : Prop := B 5 < 1024 ∧ B 6 ≤ 20 ∧ B 7 ≤ 20 ∧ we = nI (B 5) ∧ lea = nI (B 6) ∧ mst = nI (B 7)
def Rc (B : Nat → Nat) (pa : Int32) (fi sd : Nat → Int32) : Prop := B 1 ≤ 8 ∧ pa = nI (B 1) ∧ ∀ k, k < B 1 → (B (26 + 2 * k) < B 0 ∧ B (27 + 2 * k) < B 0 ∧ B (26 + 2 * k) ≠ B (27 + 2 * k)) ∧ fi k = nI (B (26 + 2 * k)) ∧ sd k = nI (B (27 + 2 * k))
/-- what all thought, as the k-th row has it -/
def wr (B : Nat → Nat) (k : Nat) : Nat → Nat := fun p => if p < 6 then B (63 + 7 * k + p) else 0
def Re (nn : Nat) (B : Nat → Nat) (ev un9 : Int32) (ma : Nat → Int64) (ea : Nat → Int32) : Prop := B 2 ≤ nn ∧ B 3 ≤ 12 ∧ ev = nI (B 2) ∧ un9 = nI (B 3) ∧ ∀ k, k < B 3 → B (62 + 7 * k) ≤ nn ∧ ea k = nI (B (62 + 7 * k)) ∧ ma k = pm (wr B k) ∧ ∀ p, p < 6 → B (63 + 7 * k + p) < 1024 ∧ (B 0 ≤ p → B (63 + 7 * k + p) = 0)
def Rm (B : Nat → Nat) (co : Int32) (ca clt : Nat → Int32) : Prop := B 4 ≤ 10 ∧ co = nI (B 4) ∧ (∀ k, k < B 4 → B (42 + 2 * k) ≤ 20 ∧ B (43 + 2 * k) ≤ 1 ∧ ca k = nI (B (42 + 2 * k)) ∧ clt k = nI (B (43 + 2 * k))) ∧ ∀ j, j < 10 → clt j = 0 ∨ clt j = 1
def RT (nn : Nat) (B : Nat → Nat) (pe : Int32) (ki : Nat → Int32) (mi se : Int64) (we lea mst pa : Int32) (fi sd : Nat → Int32) (ev un9 : Int32) (ma : Nat → Int64) (ea : Nat → Int32) (co : Int32) (ca clt : Nat → Int32) : Prop := Rk B pe ki ∧ Ro B mi se ∧ Rl B we lea mst ∧ Rc B pa fi sd ∧ Re nn B ev un9 ma ea ∧ Rm B co ca clt
theorem Rk_c {B B' : Nat → Nat} {pe : Int32} {ki : Nat → Int32} (h : Rk B pe ki) (e0 : B' 0 = B 0) (e : ∀ p, p < 6 → B' (8 + p) = B (8 + p)) : Rk B' pe ki := by
  obtain ⟨h1, h2, h3, h4⟩ := h
  refine ⟨by rw [e0]; exact h1, fun p hp => by rw [e p hp]; exact h2 p hp, by rw [e0]; exact h3, fun p hp => ?_⟩
  rw [e0] at hp
  rw [e p (by omega)]
  exact h4 p hp
theorem nw_c {B B' : Nat → Nat} (e : ∀ p, p < 6 → B' (14 + p) = B (14 + p)) : nw B' = nw B := by
  funext p
  unfold nw
  by_cases h : p < 6
  · rw [if_pos h, if_pos h, e p h]
  · rw [if_neg h, if_neg h]
theorem sn_c {B B' : Nat → Nat} (e : ∀ p, p < 6 → B' (20 + p) = B (20 + p)) : sn B' = sn B := by
  funext p
  unfold sn
  by_cases h : p < 6
  · rw [if_pos h, if_pos h, e p h]
  · rw [if_neg h, if_neg h]
theorem Ro_c {B B' : Nat → Nat} {mi se : Int64} (h : Ro B mi se) (e0 : B' 0 = B 0) (e : ∀ j, 14 ≤ j → j < 26 → B' j = B j) : Ro B' mi se := by
  obtain ⟨h1, h2, h3⟩ := h
  refine ⟨fun p hp => ?_, by rw [nw_c (B := B) (fun p hp => e _ (by omega) (by omega))]; exact h2, by rw [sn_c (B := B) (fun p hp => e _ (by omega) (by omega))]; exact h3⟩
  rw [e (14 + p) (by omega) (by omega), e (20 + p) (by omega) (by omega), e0]
  exact h1 p hp
theorem Rl_c {B B' : Nat → Nat} {we lea mst : Int32} (h : Rl B we lea mst) (e5 : B' 5 = B 5) (e6 : B' 6 = B 6) (e7 : B' 7 = B 7) : Rl B' we lea mst := by
  unfold Rl
  rw [e5, e6, e7]
  exact h
theorem Rc_c {B B' : Nat → Nat} {pa : Int32} {fi sd : Nat → Int32} (h : Rc B pa fi sd) (e0 : B 0 ≤ B' 0) (e1 : B' 1 = B 1) (e : ∀ j, 26 ≤ j → j < 42 → B' j = B j) : Rc B' pa fi sd := by
  obtain ⟨h1, h2, h3⟩ := h
  refine ⟨by rw [e1]; exact h1, by rw [e1]; exact h2, fun k hk => ?_⟩
  rw [e1] at hk
  rw [e (26 + 2 * k) (by omega) (by omega), e (27 + 2 * k) (by omega) (by omega)]
  obtain ⟨⟨a, b, c⟩, d⟩ := h3 k hk
  exact ⟨⟨by omega, by omega, c⟩, d⟩
theorem wr_c {B B' : Nat → Nat} {k : Nat} (e : ∀ p, p < 6 → B' (63 + 7 * k + p) = B (63 + 7 * k + p)) : wr B' k = wr B k := by
  funext p
  unfold wr
  by_cases h : p < 6
  · rw [if_pos h, if_pos h, e p h]
  · rw [if_neg h, if_neg h]
theorem Re_c {nn nn' : Nat} {B B' : Nat → Nat} {ev un9 : Int32} {ma : Nat → Int64} {ea : Nat → Int32} (h : Re nn B ev un9 ma ea) (hn : nn ≤ nn') (e0 : B' 0 = B 0) (e2 : B' 2 = B 2) (e3 : B' 3 = B 3) (e : ∀ j, 62 ≤ j → j < 146 → B' j = B j) : Re nn' B' ev un9 ma ea := by
  obtain ⟨h1, h2, h3, h4, h5⟩ := h
  refine ⟨by omega, by omega, by rw [e2]; exact h3, by rw [e3]; exact h4, fun k hk => ?_⟩
  rw [e3] at hk
  obtain ⟨a, b, c, d⟩ := h5 k hk
  rw [e (62 + 7 * k) (by omega) (by omega), wr_c (B := B) (fun p hp => e _ (by omega) (by omega)), e0]
  refine ⟨by omega, b, c, fun p hp => ?_⟩
  rw [e (63 + 7 * k + p) (by omega) (by omega)]
  exact d p hp
/-- with nothing to undo the rows say nothing -/
theorem Re_0 {nn : Nat} {B : Nat → Nat} {ev : Int32} {ma : Nat → Int64} {ea : Nat → Int32} (h2 : B 2 ≤ nn) (h : ev = nI (B 2)) (h3 : B 3 = 0) : Re nn B ev 0 ma ea :=
  ⟨h2, by omega, h, by rw [h3]; rfl, fun k hk => by omega⟩
theorem Rm_c {B B' : Nat → Nat} {co : Int32} {ca clt : Nat → Int32} (h : Rm B co ca clt) (e4 : B' 4 = B 4) (e : ∀ j, 42 ≤ j → j < 62 → B' j = B j) : Rm B' co ca clt := by
  obtain ⟨h1, h2, h3, h4⟩ := h
  refine ⟨by rw [e4]; exact h1, by rw [e4]; exact h2, fun k hk => ?_, h4⟩
  rw [e4] at hk
  rw [e (42 + 2 * k) (by omega) (by omega), e (43 + 2 * k) (by omega) (by omega)]
  exact h3 k hk
theorem nw_ok2 {B : Nat → Nat} {mi se : Int64} (h : Ro B mi se) : SOK (nw B) ∧ SOK (sn B) := by
  refine ⟨fun p hp => ?_, fun p hp => ?_⟩
  · rw [nw_in hp]; exact (h.1 p hp).1
  · unfold sn; rw [if_pos hp]; exact (h.1 p hp).2.1
theorem upd_s {f : Nat → Int32} {k : Nat} {x : Int32} : upd f k x k = x := if_pos rfl
theorem upd_n {f : Nat → Int32} {k j : Nat} {x : Int32} (h : j ≠ k) : upd f k x j = f j := if_neg h
theorem RT_person {nn k o : Nat} {B : Nat → Nat} {pe : Int32} {ki : Nat → Int32} {mi se : Int64} {we lea mst pa : Int32} {fi sd : Nat → Int32} {ev un9 : Int32} {ma : Nat → Int64} {ea : Nat → Int32} {co : Int32} {ca clt : Nat → Int32} (h : (RT nn B pe ki mi se we lea mst pa fi sd ev un9 ma ea co ca clt)) (hk : k ≤ 5) (ho : o ≤ 1023) (hB : B 0 < 6) : (RT nn (un (un (un (un (un B (8 + B 0) k) (14 + B 0) o) (20 + B 0) o) 0 (B 0 + 1)) 3 0) (nI (B 0 + 1)) (upd ki (B 0) (nI k)) (mw mi (nI (B 0)) (nI o)) (mw se (nI (B 0)) (nI o)) we lea mst pa fi sd ev (0) ma ea co ca clt) := by
  obtain ⟨⟨k1, k2, k3, k4⟩, hO, hL, hC, hE, hM⟩ := h
  obtain ⟨ok1, ok2⟩ := nw_ok2 hO
  have e0 : un (un (un (un (un B (8 + B 0) k) (14 + B 0) o) (20 + B 0) o) 0 (B 0 + 1)) 3 0 0 = B 0 + 1 := by rw [un_n (by omega), un_s]
  have e3 : un (un (un (un (un B (8 + B 0) k) (14 + B 0) o) (20 + B 0) o) 0 (B 0 + 1)) 3 0 3 = 0 := un_s
  have en : ∀ j, j ≠ 0 → j ≠ 3 → j ≠ 8 + B 0 → j ≠ 14 + B 0 → j ≠ 20 + B 0 → un (un (un (un (un B (8 + B 0) k) (14 + B 0) o) (20 + B 0) o) 0 (B 0 + 1)) 3 0 j = B j := fun j h0 h3 h8 h14 h20 => by
    rw [un_n h3, un_n h0, un_n h20, un_n h14, un_n h8]
  have e8 : un (un (un (un (un B (8 + B 0) k) (14 + B 0) o) (20 + B 0) o) 0 (B 0 + 1)) 3 0 (8 + B 0) = k := by
    rw [un_n (by omega), un_n (by omega), un_n (by omega), un_n (by omega), un_s]
  have e14 : un (un (un (un (un B (8 + B 0) k) (14 + B 0) o) (20 + B 0) o) 0 (B 0 + 1)) 3 0 (14 + B 0) = o := by
    rw [un_n (by omega), un_n (by omega), un_n (by omega), un_s]
  have e20 : un (un (un (un (un B (8 + B 0) k) (14 + B 0) o) (20 + B 0) o) 0 (B 0 + 1)) 3 0 (20 + B 0) = o := by
    rw [un_n (by omega), un_n (by omega), un_s]
  generalize hB' : un (un (un (un (un B (8 + B 0) k) (14 + B 0) o) (20 + B 0) o) 0 (B 0 + 1)) 3 0 = B' at *
  refine ⟨⟨by omega, fun p hp => ?_, by rw [e0], fun p hp => ?_⟩, ⟨fun p hp => ?_, ?_, ?_⟩, Rl_c hL (en 5 (by omega) (by omega) (by omega) (by omega) (by omega)) (en 6 (by omega) (by omega) (by omega) (by omega) (by omega)) (en 7 (by omega) (by omega) (by omega) (by omega) (by omega)), Rc_c hC (by omega) (en 1 (by omega) (by omega) (by omega) (by omega) (by omega)) (fun j h1 h2 => en j (by omega) (by omega) (by omega) (by omega) (by omega)), ?_, Rm_c hM (en 4 (by omega) (by omega) (by omega) (by omega) (by omega)) (fun j h1 h2 => en j (by omega) (by omega) (by omega) (by omega) (by omega))⟩
  · by_cases q : p = B 0
    · rw [q, e8]; omega
    · rw [en (8 + p) (by omega) (by omega) (by omega) (by omega) (by omega)]; exact k2 p hp
  · by_cases q : p = B 0
    · rw [q, e8, upd_s]
    · rw [en (8 + p) (by omega) (by omega) (by omega) (by omega) (by omega), upd_n q]; exact k4 p (by omega)
  · have := hO.1 p hp
    by_cases q : p = B 0
    · rw [q, e14, e20, e0]; omega
    · rw [en (14 + p) (by omega) (by omega) (by omega) (by omega) (by omega), en (20 + p) (by omega) (by omega) (by omega) (by omega) (by omega), e0]
      exact ⟨this.1, this.2.1, fun z => this.2.2 (by omega)⟩
  · rw [hO.2.1, mw_pm ok1 hB (by omega)]
    refine pm_congr (fun p hp => ?_)
    rw [nw_in hp]
    by_cases q : p = B 0
    · rw [q, un_s, e14]
    · rw [un_n q, nw_in hp, en (14 + p) (by omega) (by omega) (by omega) (by omega) (by omega)]
  · rw [hO.2.2, mw_pm ok2 hB (by omega)]
    refine pm_congr (fun p hp => ?_)
    have es : ∀ D : Nat → Nat, sn D p = D (20 + p) := fun D => if_pos hp
    rw [es]
    by_cases q : p = B 0
    · rw [q, un_s, e20]
    · rw [un_n q, es, en (20 + p) (by omega) (by omega) (by omega) (by omega) (by omega)]
  · have e2 := en 2 (by omega) (by omega) (by omega) (by omega) (by omega)
    exact Re_0 (by rw [e2]; exact hE.1) (by rw [e2]; exact hE.2.2.1) e3
theorem RT_weigh {nn x : Nat} {B : Nat → Nat} {pe : Int32} {ki : Nat → Int32} {mi se : Int64} {we lea mst pa : Int32} {fi sd : Nat → Int32} {ev un9 : Int32} {ma : Nat → Int64} {ea : Nat → Int32} {co : Int32} {ca clt : Nat → Int32} (h : (RT nn B pe ki mi se we lea mst pa fi sd ev un9 ma ea co ca clt)) (hx : x ≤ 1023) : (RT nn (un B 5 x) pe ki mi se (nI x) lea mst pa fi sd ev un9 ma ea co ca clt) := by
  obtain ⟨hK, hO, hL, hC, hE, hM⟩ := h
  have en : ∀ j, j ≠ 5 → un B 5 x j = B j := fun j h => un_n h
  have es : un B 5 x 5 = x := un_s
  generalize un B 5 x = B' at *
  refine ⟨Rk_c hK (en 0 (by omega)) (fun p hp => en _ (by omega)), Ro_c hO (en 0 (by omega)) (fun j h1 h2 => en j (by omega)), ?_, Rc_c hC (Nat.le_of_eq (en 0 (by omega)).symm) (en 1 (by omega)) (fun j h1 h2 => en j (by omega)), Re_c hE (Nat.le_refl _) (en 0 (by omega)) (en 2 (by omega)) (en 3 (by omega)) (fun j h1 h2 => en j (by omega)), Rm_c hM (en 4 (by omega)) (fun j h1 h2 => en j (by omega))⟩
  refine ⟨by omega, by rw [en 6 (by omega)]; exact hL.2.1, by rw [en 7 (by omega)]; exact hL.2.2.1, by rw [es], by rw [en 6 (by omega)]; exact hL.2.2.2.2.1, by rw [en 7 (by omega)]; exact hL.2.2.2.2.2⟩
theorem RT_permit {nn a b : Nat} {B : Nat → Nat} {pe : Int32} {ki : Nat → Int32} {mi se : Int64} {we lea mst pa : Int32} {fi sd : Nat → Int32} {ev un9 : Int32} {ma : Nat → Int64} {ea : Nat → Int32} {co : Int32} {ca clt : Nat → Int32} (h : (RT nn B pe ki mi se we lea mst pa fi sd ev un9 ma ea co ca clt)) (ha : a ≤ b) (hb : b ≤ 20) : (RT nn (un (un B 6 a) 7 b) pe ki mi se we (nI a) (nI b) pa fi sd ev un9 ma ea co ca clt) := by
  obtain ⟨hK, hO, hL, hC, hE, hM⟩ := h
  have en : ∀ j, j ≠ 6 → j ≠ 7 → un (un B 6 a) 7 b j = B j := fun j h h' => by rw [un_n h', un_n h]
  have e6 : un (un B 6 a) 7 b 6 = a := by rw [un_n (by omega), un_s]
  have e7 : un (un B 6 a) 7 b 7 = b := un_s
  generalize un (un B 6 a) 7 b = B' at *
  refine ⟨Rk_c hK (en 0 (by omega) (by omega)) (fun p hp => en _ (by omega) (by omega)), Ro_c hO (en 0 (by omega) (by omega)) (fun j h1 h2 => en j (by omega) (by omega)), ?_, Rc_c hC (Nat.le_of_eq (en 0 (by omega) (by omega)).symm) (en 1 (by omega) (by omega)) (fun j h1 h2 => en j (by omega) (by omega)), Re_c hE (Nat.le_refl _) (en 0 (by omega) (by omega)) (en 2 (by omega) (by omega)) (en 3 (by omega) (by omega)) (fun j h1 h2 => en j (by omega) (by omega)), Rm_c hM (en 4 (by omega) (by omega)) (fun j h1 h2 => en j (by omega) (by omega))⟩
  refine ⟨by rw [en 5 (by omega) (by omega)]; exact hL.1, by omega, by omega, by rw [en 5 (by omega) (by omega)]; exact hL.2.2.2.1, by rw [e6], by rw [e7]⟩
theorem RT_talk {nn a b : Nat} {B : Nat → Nat} {pe : Int32} {ki : Nat → Int32} {mi se : Int64} {we lea mst pa : Int32} {fi sd : Nat → Int32} {ev un9 : Int32} {ma : Nat → Int64} {ea : Nat → Int32} {co : Int32} {ca clt : Nat → Int32} (h : (RT nn B pe ki mi se we lea mst pa fi sd ev un9 ma ea co ca clt)) (ha : a < B 0) (hb : b < B 0) (hab : a ≠ b) (h8 : B 1 < 8) : (RT nn (un (un (un B (26 + 2 * B 1) a) (26 + 2 * B 1 + 1) b) 1 (B 1 + 1)) pe ki mi se we lea mst (nI (B 1 + 1)) (upd fi (B 1) (nI a)) (upd sd (B 1) (nI b)) ev un9 ma ea co ca clt) := by
  obtain ⟨hK, hO, hL, hC, hE, hM⟩ := h
  have en : ∀ j, j ≠ 1 → j ≠ 26 + 2 * B 1 → j ≠ 26 + 2 * B 1 + 1 → un (un (un B (26 + 2 * B 1) a) (26 + 2 * B 1 + 1) b) 1 (B 1 + 1) j = B j := fun j h1 h2 h3 => by rw [un_n h1, un_n h3, un_n h2]
  have e1 : un (un (un B (26 + 2 * B 1) a) (26 + 2 * B 1 + 1) b) 1 (B 1 + 1) 1 = B 1 + 1 := un_s
  have ea : un (un (un B (26 + 2 * B 1) a) (26 + 2 * B 1 + 1) b) 1 (B 1 + 1) (26 + 2 * B 1) = a := by rw [un_n (by omega), un_n (by omega), un_s]
  have eb : un (un (un B (26 + 2 * B 1) a) (26 + 2 * B 1 + 1) b) 1 (B 1 + 1) (27 + 2 * B 1) = b := by
    rw [show 27 + 2 * B 1 = 26 + 2 * B 1 + 1 by omega, un_n (by omega), un_s]
  generalize un (un (un B (26 + 2 * B 1) a) (26 + 2 * B 1 + 1) b) 1 (B 1 + 1) = B' at *
  have e0 : B' 0 = B 0 := en 0 (by omega) (by omega) (by omega)
  refine ⟨Rk_c hK e0 (fun p hp => en _ (by omega) (by omega) (by omega)), Ro_c hO e0 (fun j h1 h2 => en j (by omega) (by omega) (by omega)), Rl_c hL (en 5 (by omega) (by omega) (by omega)) (en 6 (by omega) (by omega) (by omega)) (en 7 (by omega) (by omega) (by omega)), ?_, Re_c hE (Nat.le_refl _) e0 (en 2 (by omega) (by omega) (by omega)) (en 3 (by omega) (by omega) (by omega)) (fun j h1 h2 => en j (by omega) (by omega) (by omega)), Rm_c hM (en 4 (by omega) (by omega) (by omega)) (fun j h1 h2 => en j (by omega) (by omega) (by omega))⟩
  refine ⟨by omega, by rw [e1], fun k hk => ?_⟩
  by_cases q : k = B 1
  · rw [q, ea, eb, e0, upd_s, upd_s]
    exact ⟨⟨ha, hb, hab⟩, rfl, rfl⟩
  · rw [en (26 + 2 * k) (by omega) (by omega) (by omega), en (27 + 2 * k) (by omega) (by omega) (by omega), e0, upd_n q, upd_n q]
    exact hC.2.2 k (by omega)
theorem RT_begin {nn : Nat} {B : Nat → Nat} {pe : Int32} {ki : Nat → Int32} {mi se : Int64} {we lea mst pa : Int32} {fi sd : Nat → Int32} {ev un9 : Int32} {ma : Nat → Int64} {ea : Nat → Int32} {co : Int32} {ca clt : Nat → Int32} (hz : ∀ j, j < 10 → clt j = 0 ∨ clt j = 1) : (RT nn (emB B) (0) ki (0) (0) (0) (2) (4) (0) fi sd (0) (0) ma ea (0) ca clt) := by
  have e : ∀ j, j < 146 → j ≠ 6 → j ≠ 7 → emB B j = 0 := fun j h h6 h7 => by unfold emB em0; rw [if_pos h, if_neg h6, if_neg h7]
  have e6 : emB B 6 = 2 := by unfold emB em0; simp
  have e7 : emB B 7 = 4 := by unfold emB em0; simp
  generalize emB B = B' at *
  have e0 := e 0 (by omega) (by omega) (by omega)
  have zz : ∀ S : Nat → Nat, (∀ p, p < 6 → S p = 0) → (0 : Int64) = pm S := fun S h => (pm_congr (S := fun _ => 0) (T := S) (fun p hp => (h p hp).symm))
  refine ⟨⟨by omega, fun p hp => by rw [e _ (by omega) (by omega) (by omega)]; omega, by rw [e0]; rfl, fun p hp => by omega⟩, ⟨fun p hp => ?_, zz _ (fun p hp => ?_), zz _ (fun p hp => ?_)⟩, ⟨by rw [e 5 (by omega) (by omega) (by omega)]; omega, by omega, by omega, by rw [e 5 (by omega) (by omega) (by omega)]; rfl, by rw [e6]; rfl, by rw [e7]; rfl⟩, ⟨by rw [e 1 (by omega) (by omega) (by omega)]; omega, by rw [e 1 (by omega) (by omega) (by omega)]; rfl, fun k hk => by rw [e 1 (by omega) (by omega) (by omega)] at hk; omega⟩, ?_, ⟨by rw [e 4 (by omega) (by omega) (by omega)]; omega, by rw [e 4 (by omega) (by omega) (by omega)]; rfl, fun k hk => by rw [e 4 (by omega) (by omega) (by omega)] at hk; omega, hz⟩⟩
  · rw [e (14 + p) (by omega) (by omega) (by omega), e (20 + p) (by omega) (by omega) (by omega)]
    exact ⟨by omega, by omega, fun _ => ⟨rfl, rfl⟩⟩
  · rw [nw_in hp, e (14 + p) (by omega) (by omega) (by omega)]
  · unfold sn; rw [if_pos hp, e (20 + p) (by omega) (by omega) (by omega)]
  · have e2 := e 2 (by omega) (by omega) (by omega)
    exact Re_0 (by omega) (by rw [e2]; rfl) (e 3 (by omega) (by omega) (by omega))
