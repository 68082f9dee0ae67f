/-! ===== what goes with what, kept by every call ===== -/
theorem RT_mono {nn nn' : Nat} {B : Nat → Nat} {pe : Int32} {ki : Nat → Int32} {mi se : Int64} {we lea mst pa : Int32} {fi sd : Nat → Int32} {ev un9 : Int32} {ma : Nat → Int64} {ea : Nat → Int32} {co : Int32} {ca clt : Nat → Int32} (h : (RT nn B pe ki mi se we lea mst pa fi sd ev un9 ma ea co ca clt)) (hn : nn ≤ nn') : (RT (nn') B pe ki mi se we lea mst pa fi sd ev un9 ma ea co ca clt) := ⟨h.1, h.2.1, h.2.2.1, h.2.2.2.1, Re_c h.2.2.2.2.1 hn rfl rfl rfl (fun _ _ _ => rfl), h.2.2.2.2.2⟩
theorem RT_book {nn : Nat} {B B' : Nat → Nat} {pe : Int32} {ki : Nat → Int32} {mi se : Int64} {we lea mst pa : Int32} {fi sd : Nat → Int32} {ev un9 : Int32} {ma : Nat → Int64} {ea : Nat → Int32} {co : Int32} {ca clt : Nat → Int32} (h : (RT nn B pe ki mi se we lea mst pa fi sd ev un9 ma ea co ca clt)) (e : ∀ j, j < 146 → B' j = B j) : (RT nn (B') pe ki mi se we lea mst pa fi sd ev un9 ma ea co ca clt) := ⟨Rk_c h.1 (e 0 (by omega)) (fun p hp => e _ (by omega)), Ro_c h.2.1 (e 0 (by omega)) (fun j _ h2 => e j (by omega)), Rl_c h.2.2.1 (e 5 (by omega)) (e 6 (by omega)) (e 7 (by omega)), Rc_c h.2.2.2.1 (Nat.le_of_eq (e 0 (by omega)).symm) (e 1 (by omega)) (fun j _ h2 => e j (by omega)), Re_c h.2.2.2.2.1 (Nat.le_refl _) (e 0 (by omega)) (e 2 (by omega)) (e 3 (by omega)) (fun j _ h2 => e j h2), Rm_c h.2.2.2.2.2 (e 4 (by omega)) (fun j _ h2 => e j (by omega))⟩
theorem RT_cr {nn : Nat} {B : Nat → Nat} {pe : Int32} {ki : Nat → Int32} {mi se : Int64} {we lea mst pa : Int32} {fi sd : Nat → Int32} {ev un9 : Int32} {ma : Nat → Int64} {ea : Nat → Int32} {co : Int32} {ca clt : Nat → Int32} (h : (RT nn B pe ki mi se we lea mst pa fi sd ev un9 ma ea co ca clt)) (hn : nn ≤ 1000) : CR B ki := by
  obtain ⟨⟨k1, k2, k3, k4⟩, ⟨o1, o2, o3⟩, ⟨l1, l2, l3, l4⟩, ⟨c1, c2, c3⟩, ⟨e1, e2⟩, hm⟩ := h
  refine ⟨⟨k1, c1, by omega, l2, l3, k2, fun p hp => (o1 p hp).1, fun k hk => ?_⟩, fun k hk => (c3 k hk).1, k4⟩
  have := (c3 k hk).1
  omega
theorem RT_cal {nn : Nat} {B : Nat → Nat} {pe : Int32} {ki : Nat → Int32} {mi se : Int64} {we lea mst pa : Int32} {fi sd : Nat → Int32} {ev un9 : Int32} {ma : Nat → Int64} {ea : Nat → Int32} {co : Int32} {ca clt : Nat → Int32} (h : (RT nn B pe ki mi se we lea mst pa fi sd ev un9 ma ea co ca clt)) : calOk (B 0) (B 1) fi sd (faB_ B) (fbB_ B) := fun k hk => by
  obtain ⟨⟨a, b, c⟩, d, e⟩ := h.2.2.2.1.2.2 k hk
  exact ⟨d, e, a, b, c⟩
theorem RT_z {nn : Nat} {B : Nat → Nat} {pe : Int32} {ki : Nat → Int32} {mi se : Int64} {we lea mst pa : Int32} {fi sd : Nat → Int32} {ev un9 : Int32} {ma : Nat → Int64} {ea : Nat → Int32} {co : Int32} {ca clt : Nat → Int32} (h : (RT nn B pe ki mi se we lea mst pa fi sd ev un9 ma ea co ca clt)) : ∀ p, B 0 ≤ p → p < 6 → B (14 + p) = 0 ∧ B (20 + p) = 0 := fun p h1 h2 => (h.2.1.1 p h2).2.2 h1
theorem RT_become {nn p k : Nat} {B : Nat → Nat} {pe : Int32} {ki : Nat → Int32} {mi se : Int64} {we lea mst pa : Int32} {fi sd : Nat → Int32} {ev un9 : Int32} {ma : Nat → Int64} {ea : Nat → Int32} {co : Int32} {ca clt : Nat → Int32} (h : (RT nn B pe ki mi se we lea mst pa fi sd ev un9 ma ea co ca clt)) (hp : p < B 0) (hk : k ≤ 5) : (RT nn (un B (8 + p) k) pe (upd ki p (nI k)) mi se we lea mst pa fi sd ev un9 ma ea co ca clt) := by
  obtain ⟨⟨k1, k2, k3, k4⟩, hO, hL, hC, hE, hM⟩ := h
  have en : ∀ j, j ≠ 8 + p → un B (8 + p) k j = B j := fun j hj => un_n hj
  have es : un B (8 + p) k (8 + p) = k := un_s
  generalize un B (8 + p) k = B' at *
  have e0 := en 0 (by omega)
  refine ⟨⟨by omega, fun q hq => ?_, by rw [e0]; exact k3, fun q hq => ?_⟩, Ro_c hO e0 (fun j h1 h2 => en j (by omega)), Rl_c hL (en 5 (by omega)) (en 6 (by omega)) (en 7 (by omega)), Rc_c hC (Nat.le_of_eq e0.symm) (en 1 (by omega)) (fun j h1 h2 => en j (by omega)), Re_c hE (Nat.le_refl _) e0 (en 2 (by omega)) (en 3 (by omega)) (fun j h1 h2 => en j (by omega)), Rm_c hM (en 4 (by omega)) (fun j h1 h2 => en j (by omega))⟩
  · by_cases z : q = p
    · rw [z, es]; omega
    · rw [en (8 + q) (by omega)]; exact k2 q hq
  · by_cases z : q = p
    · rw [z, es, upd_s]
    · rw [en (8 + q) (by omega), upd_n z]; exact k4 q (by omega)
theorem RT_clean {nn : Nat} {B : Nat → Nat} {pe : Int32} {ki : Nat → Int32} {mi se : Int64} {we lea mst pa : Int32} {fi sd : Nat → Int32} {ev un9 : Int32} {ma : Nat → Int64} {ea : Nat → Int32} {co : Int32} {ca clt : Nat → Int32} (h : (RT nn B pe ki mi se we lea mst pa fi sd ev un9 ma ea co ca clt)) : (RT nn (un B 1 0) pe ki mi se we lea mst (0) fi sd ev un9 ma ea co ca clt) := by
  obtain ⟨hK, hO, hL, hC, hE, hM⟩ := h
  have en : ∀ j, j ≠ 1 → un B 1 0 j = B j := fun j hj => un_n hj
  have es : un B 1 0 1 = 0 := un_s
  generalize un B 1 0 = B' at *
  have e0 := en 0 (by omega)
  exact ⟨Rk_c hK e0 (fun p hp => en _ (by omega)), Ro_c hO e0 (fun j h1 h2 => en j (by omega)), Rl_c hL (en 5 (by omega)) (en 6 (by omega)) (en 7 (by omega)), ⟨by omega, by rw [es]; rfl, fun k hk => by omega⟩, Re_c hE (Nat.le_refl _) e0 (en 2 (by omega)) (en 3 (by omega)) (fun j h1 h2 => en j (by omega)), Rm_c hM (en 4 (by omega)) (fun j h1 h2 => en j (by omega))⟩
theorem RT_burn {nn : Nat} {B : Nat → Nat} {pe : Int32} {ki : Nat → Int32} {mi se : Int64} {we lea mst pa : Int32} {fi sd : Nat → Int32} {ev un9 : Int32} {ma : Nat → Int64} {ea : Nat → Int32} {co : Int32} {ca clt : Nat → Int32} (h : (RT nn B pe ki mi se we lea mst pa fi sd ev un9 ma ea co ca clt)) : (RT nn (un B 4 0) pe ki mi se we lea mst pa fi sd ev un9 ma ea (0) ca clt) := by
  obtain ⟨hK, hO, hL, hC, hE, hM⟩ := h
  have en : ∀ j, j ≠ 4 → un B 4 0 j = B j := fun j hj => un_n hj
  have es : un B 4 0 4 = 0 := un_s
  generalize un B 4 0 = B' at *
  have e0 := en 0 (by omega)
  exact ⟨Rk_c hK e0 (fun p hp => en _ (by omega)), Ro_c hO e0 (fun j h1 h2 => en j (by omega)), Rl_c hL (en 5 (by omega)) (en 6 (by omega)) (en 7 (by omega)), Rc_c hC (Nat.le_of_eq e0.symm) (en 1 (by omega)) (fun j h1 h2 => en j (by omega)), Re_c hE (Nat.le_refl _) e0 (en 2 (by omega)) (en 3 (by omega)) (fun j h1 h2 => en j (by omega)), ⟨by omega, by rw [es]; rfl, fun k hk => by omega, hM.2.2.2⟩⟩
theorem RT_couple {nn x l : Nat} {B : Nat → Nat} {pe : Int32} {ki : Nat → Int32} {mi se : Int64} {we lea mst pa : Int32} {fi sd : Nat → Int32} {ev un9 : Int32} {ma : Nat → Int64} {ea : Nat → Int32} {co : Int32} {ca clt : Nat → Int32} (h : (RT nn B pe ki mi se we lea mst pa fi sd ev un9 ma ea co ca clt)) (hx : x ≤ 20) (hl : l ≤ 1) (h4 : B 4 < 10) : (RT nn (un (un (un B (42 + 2 * B 4) x) (43 + 2 * B 4) l) 4 (B 4 + 1)) pe ki mi se we lea mst pa fi sd ev un9 ma ea (nI (B 4 + 1)) (upd ca (B 4) (nI x)) (upd clt (B 4) (nI l))) := by
  obtain ⟨hK, hO, hL, hC, hE, ⟨m1, m2, m3, m4⟩⟩ := h
  have en : ∀ j, j ≠ 4 → j ≠ 42 + 2 * B 4 → j ≠ 43 + 2 * B 4 → un (un (un B (42 + 2 * B 4) x) (43 + 2 * B 4) l) 4 (B 4 + 1) j = B j := fun j h1 h2 h3 => by rw [un_n h1, un_n h3, un_n h2]
  have e4 : un (un (un B (42 + 2 * B 4) x) (43 + 2 * B 4) l) 4 (B 4 + 1) 4 = B 4 + 1 := un_s
  have ea : un (un (un B (42 + 2 * B 4) x) (43 + 2 * B 4) l) 4 (B 4 + 1) (42 + 2 * B 4) = x := by rw [un_n (by omega), un_n (by omega), un_s]
  have eb : un (un (un B (42 + 2 * B 4) x) (43 + 2 * B 4) l) 4 (B 4 + 1) (43 + 2 * B 4) = l := by rw [un_n (by omega), un_s]
  generalize un (un (un B (42 + 2 * B 4) x) (43 + 2 * B 4) l) 4 (B 4 + 1) = B' at *
  have e0 := en 0 (by omega) (by omega) (by omega)
  refine ⟨Rk_c hK e0 (fun p hp => en _ (by omega) (by omega) (by omega)), Ro_c hO e0 (fun j h1 h2 => en j (by omega) (by omega) (by omega)), Rl_c hL (en 5 (by omega) (by omega) (by omega)) (en 6 (by omega) (by omega) (by omega)) (en 7 (by omega) (by omega) (by omega)), Rc_c hC (Nat.le_of_eq e0.symm) (en 1 (by omega) (by omega) (by omega)) (fun j h1 h2 => en j (by omega) (by omega) (by omega)), Re_c hE (Nat.le_refl _) e0 (en 2 (by omega) (by omega) (by omega)) (en 3 (by omega) (by omega) (by omega)) (fun j h1 h2 => en j (by omega) (by omega) (by omega)), ⟨by omega, by rw [e4], fun k hk => ?_, fun j hj => ?_⟩⟩
  · by_cases z : k = B 4
    · rw [z, ea, eb, upd_s, upd_s]
      exact ⟨hx, hl, rfl, rfl⟩
    · rw [en (42 + 2 * k) (by omega) (by omega) (by omega), en (43 + 2 * k) (by omega) (by omega) (by omega), upd_n z, upd_n z]
      exact m3 k (by omega)
  · by_cases z : j = B 4
    · rw [z, upd_s]
      have : l = 0 ∨ l = 1 := by omega
      rcases this with q | q
      · rw [q]; exact Or.inl rfl
      · rw [q]; exact Or.inr rfl
    · rw [upd_n z]; exact m4 j hj
theorem RT_seen {nn p o : Nat} {B : Nat → Nat} {pe : Int32} {ki : Nat → Int32} {mi se : Int64} {we lea mst pa : Int32} {fi sd : Nat → Int32} {ev un9 : Int32} {ma : Nat → Int64} {ea : Nat → Int32} {co : Int32} {ca clt : Nat → Int32} (h : (RT nn B pe ki mi se we lea mst pa fi sd ev un9 ma ea co ca clt)) (hp : p < B 0) (ho : o ≤ 1023) : (RT nn (un B (20 + p) o) pe ki mi (mw se (nI p) (nI o)) we lea mst pa fi sd ev un9 ma ea co ca clt) := by
  obtain ⟨hK, hO, hL, hC, hE, hM⟩ := h
  obtain ⟨ok1, ok2⟩ := nw_ok2 hO
  have h6 := hK.1
  have en : ∀ j, j ≠ 20 + p → un B (20 + p) o j = B j := fun j hj => un_n hj
  have es : un B (20 + p) o (20 + p) = o := un_s
  generalize un B (20 + p) o = B' at *
  have e0 := en 0 (by omega)
  refine ⟨Rk_c hK e0 (fun p hp => en _ (by omega)), ⟨fun q hq => ?_, ?_, ?_⟩, Rl_c hL (en 5 (by omega)) (en 6 (by omega)) (en 7 (by omega)), Rc_c hC (Nat.le_of_eq e0.symm) (en 1 (by omega)) (fun j h1 h2 => en j (by omega)), Re_c hE (Nat.le_refl _) e0 (en 2 (by omega)) (en 3 (by omega)) (fun j h1 h2 => en j (by omega)), Rm_c hM (en 4 (by omega)) (fun j h1 h2 => en j (by omega))⟩
  · have := hO.1 q hq
    rw [en (14 + q) (by omega), e0]
    by_cases z : q = p
    · rw [z, es]; rw [z] at this; exact ⟨this.1, by omega, fun y => by omega⟩
    · rw [en (20 + q) (by omega)]; exact this
  · rw [nw_c (B := B) (fun q hq => en _ (by omega))]; exact hO.2.1
  · rw [hO.2.2, mw_pm ok2 (by omega) (by omega)]
    refine pm_congr (fun q hq => ?_)
    have esn : ∀ D : Nat → Nat, sn D q = D (20 + q) := fun D => if_pos hq
    rw [esn]
    by_cases z : q = p
    · rw [z, un_s, es]
    · rw [un_n z, esn, en (20 + q) (by omega)]
/-- opinions as told by T -/
theorem RT_minds {nn : Nat} {B T : Nat → Nat} {pe : Int32} {ki : Nat → Int32} {mi se : Int64} {we lea mst pa : Int32} {fi sd : Nat → Int32} {ev un9 : Int32} {ma : Nat → Int64} {ea : Nat → Int32} {co : Int32} {ca clt : Nat → Int32} (h : (RT nn B pe ki mi se we lea mst pa fi sd ev un9 ma ea co ca clt)) (hT : SOK T) (hz : ∀ p, B 0 ≤ p → p < 6 → T p = 0) : (RT nn (kpB B T (B 0)) pe ki (pm T) se we lea mst pa fi sd ev un9 ma ea co ca clt) := by
  obtain ⟨hK, hO, hL, hC, hE, hM⟩ := h
  have h6 := hK.1
  have en : ∀ j, ¬ (14 ≤ j ∧ j < 14 + B 0) → kpB B T (B 0) j = B j := fun j hj => if_neg hj
  have es : ∀ p, p < B 0 → kpB B T (B 0) (14 + p) = T p := fun p hp => by
    unfold kpB
    rw [if_pos (by omega), show 14 + p - 14 = p by omega]
  generalize kpB B T (B 0) = B' at *
  have e0 := en 0 (by omega)
  have e14 : ∀ p, p < 6 → B' (14 + p) = T p := fun p hp => by
    by_cases z : p < B 0
    · exact es p z
    · rw [en (14 + p) (by omega), hz p (by omega) hp]
      exact ((hO.1 p hp).2.2 (by omega)).1
  refine ⟨Rk_c hK e0 (fun p hp => en _ (by omega)), ⟨fun q hq => ?_, ?_, ?_⟩, Rl_c hL (en 5 (by omega)) (en 6 (by omega)) (en 7 (by omega)), Rc_c hC (Nat.le_of_eq e0.symm) (en 1 (by omega)) (fun j h1 h2 => en j (by omega)), Re_c hE (Nat.le_refl _) e0 (en 2 (by omega)) (en 3 (by omega)) (fun j h1 h2 => en j (by omega)), Rm_c hM (en 4 (by omega)) (fun j h1 h2 => en j (by omega))⟩
  · have := hO.1 q hq
    rw [e14 q hq, e0, en (20 + q) (by omega)]
    exact ⟨hT q hq, this.2.1, fun y => ⟨hz q y hq, (this.2.2 y).2⟩⟩
  · exact pm_congr (fun q hq => by rw [nw_in hq, e14 q hq])
  · rw [sn_c (B := B) (fun q hq => en _ (by omega))]; exact hO.2.2
theorem RT_evn {nn nn' e : Nat} {B : Nat → Nat} {pe : Int32} {ki : Nat → Int32} {mi se : Int64} {we lea mst pa : Int32} {fi sd : Nat → Int32} {ev un9 : Int32} {ma : Nat → Int64} {ea : Nat → Int32} {co : Int32} {ca clt : Nat → Int32} (h : (RT nn B pe ki mi se we lea mst pa fi sd ev un9 ma ea co ca clt)) (hn : nn ≤ nn') (he : e ≤ nn') : (RT (nn') (un B 2 e) pe ki mi se we lea mst pa fi sd (nI e) un9 ma ea co ca clt) := by
  obtain ⟨hK, hO, hL, hC, ⟨e1, e2, e3, e4, e5⟩, hM⟩ := h
  have en : ∀ j, j ≠ 2 → un B 2 e j = B j := fun j hj => un_n hj
  have es : un B 2 e 2 = e := un_s
  generalize un B 2 e = B' at *
  have h0 := en 0 (by omega)
  refine ⟨Rk_c hK h0 (fun p hp => en _ (by omega)), Ro_c hO h0 (fun j h1 h2 => en j (by omega)), Rl_c hL (en 5 (by omega)) (en 6 (by omega)) (en 7 (by omega)), Rc_c hC (Nat.le_of_eq h0.symm) (en 1 (by omega)) (fun j h1 h2 => en j (by omega)), ⟨by omega, by rw [en 3 (by omega)]; exact e2, by rw [es], by rw [en 3 (by omega)]; exact e4, fun k hk => ?_⟩, Rm_c hM (en 4 (by omega)) (fun j h1 h2 => en j (by omega))⟩
  rw [en 3 (by omega)] at hk
  obtain ⟨a, b, c, d⟩ := e5 k hk
  rw [en (62 + 7 * k) (by omega), wr_c (B := B) (fun p hp => en _ (by omega)), h0]
  exact ⟨by omega, b, c, fun p hp => by rw [en (63 + 7 * k + p) (by omega)]; exact d p hp⟩
theorem RT_thinks {nn p o : Nat} {B : Nat → Nat} {pe : Int32} {ki : Nat → Int32} {mi se : Int64} {we lea mst pa : Int32} {fi sd : Nat → Int32} {ev un9 : Int32} {ma : Nat → Int64} {ea : Nat → Int32} {co : Int32} {ca clt : Nat → Int32} (h : (RT nn B pe ki mi se we lea mst pa fi sd ev un9 ma ea co ca clt)) (hp : p < B 0) (ho : o ≤ 1023) : (RT nn (un (un B 3 0) (14 + p) o) pe ki (mw mi (nI p) (nI o)) se we lea mst pa fi sd ev (0) ma ea co ca clt) := by
  obtain ⟨hK, hO, hL, hC, hE, hM⟩ := h
  obtain ⟨ok1, ok2⟩ := nw_ok2 hO
  have h6 := hK.1
  have en : ∀ j, j ≠ 3 → j ≠ 14 + p → un (un B 3 0) (14 + p) o j = B j := fun j h1 h2 => by rw [un_n h2, un_n h1]
  have es : un (un B 3 0) (14 + p) o (14 + p) = o := un_s
  have e3 : un (un B 3 0) (14 + p) o 3 = 0 := by rw [un_n (by omega), un_s]
  generalize un (un B 3 0) (14 + p) o = B' at *
  have e0 := en 0 (by omega) (by omega)
  have e2 := en 2 (by omega) (by omega)
  refine ⟨Rk_c hK e0 (fun p hp => en _ (by omega) (by omega)), ⟨fun q hq => ?_, ?_, ?_⟩, Rl_c hL (en 5 (by omega) (by omega)) (en 6 (by omega) (by omega)) (en 7 (by omega) (by omega)), Rc_c hC (Nat.le_of_eq e0.symm) (en 1 (by omega) (by omega)) (fun j h1 h2 => en j (by omega) (by omega)), Re_0 (by rw [e2]; exact hE.1) (by rw [e2]; exact hE.2.2.1) e3, Rm_c hM (en 4 (by omega) (by omega)) (fun j h1 h2 => en j (by omega) (by omega))⟩
  · have := hO.1 q hq
    rw [en (20 + q) (by omega) (by omega), e0]
    by_cases z : q = p
    · rw [z, es]; rw [z] at this; exact ⟨by omega, this.2.1, fun y => by omega⟩
    · rw [en (14 + q) (by omega) (by omega)]; exact this
  · rw [hO.2.1, mw_pm ok1 (by omega) (by omega)]
    refine pm_congr (fun q hq => ?_)
    rw [nw_in hq]
    by_cases z : q = p
    · rw [z, un_s, es]
    · rw [un_n z, nw_in hq, en (14 + q) (by omega) (by omega)]
  · rw [sn_c (B := B) (fun q hq => en _ (by omega) (by omega))]; exact hO.2.2
/-! rows to undo -/
theorem rm_3 {B : Nat → Nat} (h : B 3 ≤ 12) : rmB B 3 = rmN (B 3) := by
  unfold rmB rmN
  by_cases z : B 3 = 12
  · rw [if_pos z, if_neg (by omega)]; unfold rmC; rw [un_s]
  · rw [if_neg z, if_pos (by omega)]; unfold rmC; rw [un_s]
theorem rmC_last {C : Nat → Nat} {n i : Nat} (hi : i < 7) : rmC C n (62 + 7 * n + i) = if i = 0 then C 2 else C (13 + i) := by
  unfold rmC
  rw [un_n (by omega)]
  unfold rmR
  by_cases z : i = 0
  · subst z
    rw [if_neg (by omega), if_pos rfl, Nat.add_zero, un_s]
  · rw [if_pos (by omega), if_neg z, un_n (by omega)]
    congr 1
    omega
theorem rmC_old {C : Nat → Nat} {n k i : Nat} (hi : i < 7) (hk : k < n) : rmC C n (62 + 7 * k + i) = C (62 + 7 * k + i) := by
  unfold rmC
  rw [un_n (by omega)]
  unfold rmR
  rw [if_neg (by omega), un_n (by omega)]
theorem RT_remember {nn : Nat} {B : Nat → Nat} {pe : Int32} {ki : Nat → Int32} {mi se : Int64} {we lea mst pa : Int32} {fi sd : Nat → Int32} {ev un9 : Int32} {ma : Nat → Int64} {ea : Nat → Int32} {co : Int32} {ca clt : Nat → Int32} (h : (RT nn B pe ki mi se we lea mst pa fi sd ev un9 ma ea co ca clt)) : (RT nn (rmB B) pe ki mi se we lea mst pa fi sd ev (nI (rmN (B 3))) (rmL ma (B 3) mi) (rmI ea (B 3) ev) co ca clt) := by
  obtain ⟨hK, hO, hL, hC, ⟨e1, e2, e3, e4, e5⟩, hM⟩ := h
  have en : ∀ j, j ≠ 3 → j < 62 → rmB B j = B j := fun j h1 h2 => rmB_lo h1 h2
  have h0 := en 0 (by omega) (by omega)
  have b3 := rm_3 e2
  have b2 := en 2 (by omega) (by omega)
  refine ⟨Rk_c hK h0 (fun p hp => en _ (by omega) (by omega)), Ro_c hO h0 (fun j h1 h2 => en j (by omega) (by omega)), Rl_c hL (en 5 (by omega) (by omega)) (en 6 (by omega) (by omega)) (en 7 (by omega) (by omega)), Rc_c hC (Nat.le_of_eq h0.symm) (en 1 (by omega) (by omega)) (fun j h1 h2 => en j (by omega) (by omega)), ⟨by omega, ?_, by rw [b2]; exact e3, by rw [b3], fun k hk => ?_⟩, Rm_c hM (en 4 (by omega) (by omega)) (fun j h1 h2 => en j (by omega) (by omega))⟩
  · rw [b3]; unfold rmN; split <;> omega
  · rw [b3] at hk
    rw [h0]
    -- a row that says what is now
    have now : ∀ C : Nat → Nat, (∀ j, j ≠ 3 → j < 62 → C j = B j) → rmB B = rmC C k → rmI ea (B 3) ev k = ev → rmL ma (B 3) mi k = mi → rmB B (62 + 7 * k) ≤ nn ∧ rmI ea (B 3) ev k = nI (rmB B (62 + 7 * k)) ∧ rmL ma (B 3) mi k = pm (wr (rmB B) k) ∧ ∀ p, p < 6 → rmB B (63 + 7 * k + p) < 1024 ∧ (B 0 ≤ p → rmB B (63 + 7 * k + p) = 0) := by
      intro C hC9 hrm he hm
      have r0 : rmB B (62 + 7 * k) = B 2 := by
        have := rmC_last (C := C) (n := k) (i := 0) (by omega)
        rw [if_pos rfl, Nat.add_zero] at this
        rw [hrm, this, hC9 2 (by omega) (by omega)]
      have rp : ∀ p, p < 6 → rmB B (63 + 7 * k + p) = B (14 + p) := fun p hp => by
        have := rmC_last (C := C) (n := k) (i := p + 1) (by omega)
        rw [if_neg (by omega), show 62 + 7 * k + (p + 1) = 63 + 7 * k + p by omega, show 13 + (p + 1) = 14 + p by omega] at this
        rw [hrm, this, hC9 (14 + p) (by omega) (by omega)]
      rw [r0, he, hm]
      refine ⟨e1, e3, ?_, fun p hp => ?_⟩
      · rw [hO.2.1]
        refine pm_congr (fun p hp => ?_)
        rw [nw_in hp]
        unfold wr
        rw [if_pos hp, rp p hp]
      · rw [rp p hp]
        have := hO.1 p hp
        exact ⟨this.1, fun y => (this.2.2 y).1⟩
    -- an older row, from place k'
    have old : ∀ k', k' < B 3 → (∀ i, i < 7 → rmB B (62 + 7 * k + i) = B (62 + 7 * k' + i)) → rmI ea (B 3) ev k = ea k' → rmL ma (B 3) mi k = ma k' → rmB B (62 + 7 * k) ≤ nn ∧ rmI ea (B 3) ev k = nI (rmB B (62 + 7 * k)) ∧ rmL ma (B 3) mi k = pm (wr (rmB B) k) ∧ ∀ p, p < 6 → rmB B (63 + 7 * k + p) < 1024 ∧ (B 0 ≤ p → rmB B (63 + 7 * k + p) = 0) := by
      intro k' hk' hr he hm
      obtain ⟨a, b, c, d⟩ := e5 k' hk'
      have r0 : rmB B (62 + 7 * k) = B (62 + 7 * k') := hr 0 (by omega)
      have rp : ∀ p, p < 6 → rmB B (63 + 7 * k + p) = B (63 + 7 * k' + p) := fun p hp => by
        have := hr (p + 1) (by omega)
        rw [show 62 + 7 * k + (p + 1) = 63 + 7 * k + p by omega, show 62 + 7 * k' + (p + 1) = 63 + 7 * k' + p by omega] at this
        exact this
      rw [r0, he, hm]
      refine ⟨a, b, ?_, fun p hp => by rw [rp p hp]; exact d p hp⟩
      rw [c]
      refine pm_congr (fun p hp => ?_)
      unfold wr
      rw [if_pos hp, if_pos hp, rp p hp]
    by_cases z : B 3 = 12
    · have hrm : rmB B = rmC (un (shB B 77) 3 11) 11 := by unfold rmB; rw [if_pos z]
      have hk : k < 12 := by unfold rmN at hk; rw [if_neg (by omega)] at hk; exact hk
      have eI : rmI ea (B 3) ev = upd (va_cpy ea ea 1 0 11) 11 ev := by unfold rmI; exact if_neg (by omega)
      have eL : rmL ma (B 3) mi = vp_updL (va_cpy ma ma 1 0 11) 11 mi := by unfold rmL; exact if_neg (by omega)
      by_cases y : k = 11
      · subst y
        refine now _ (fun j h1 h2 => ?_) hrm (by rw [eI, upd_s]) (by rw [eL]; exact if_pos rfl)
        rw [un_n h1]
        exact if_neg (by omega)
      · refine old (k + 1) (by omega) (fun i hi => ?_) ?_ ?_
        · rw [hrm, rmC_old hi (by omega), un_n (by omega)]
          unfold shB
          rw [if_pos (by omega)]
          congr 1
          omega
        · rw [eI, upd_n y]
          unfold va_cpy
          rw [if_pos (by omega)]
          congr 1
          omega
        · rw [eL]
          have : vp_updL (va_cpy ma ma 1 0 11) 11 mi k = va_cpy ma ma 1 0 11 k := if_neg y
          rw [this]
          unfold va_cpy
          rw [if_pos (by omega)]
          congr 1
          omega
    · have hrm : rmB B = rmC B (B 3) := by unfold rmB; rw [if_neg z]
      have hk : k < B 3 + 1 := by unfold rmN at hk; rw [if_pos (by omega)] at hk; exact hk
      have eI : rmI ea (B 3) ev = upd ea (B 3) ev := by unfold rmI; exact if_pos (by omega)
      have eL : rmL ma (B 3) mi = vp_updL ma (B 3) mi := by unfold rmL; exact if_pos (by omega)
      by_cases y : k = B 3
      · exact now B (fun _ _ _ => rfl) (by rw [y]; exact hrm) (by rw [eI, y, upd_s]) (by rw [eL, y]; exact if_pos rfl)
      · exact old k (by omega) (fun i hi => by rw [hrm, rmC_old hi (by omega)]) (by rw [eI, upd_n y]) (by rw [eL]; exact if_neg y)
theorem tlN_c {B C S : Nat → Nat} {i j : Nat} (e5 : C 5 = B 5) (ei : C (8 + i) = B (8 + i)) (ej : C (8 + j) = B (8 + j)) : tlN C S i j = tlN B S i j := by
  unfold tlN
  rw [e5, ei, ej]
theorem goN_c {B C S : Nat → Nat} {e : Nat} (hB : GK B) (h : ∀ j, j ≠ 3 → j < 62 → C j = B j) : goN C S e = goN B S e := by
  unfold goN
  rw [h 1 (by omega) (by omega)]
  by_cases z : B 1 = 0
  · rw [if_pos z, if_pos z]
  · rw [if_neg z, if_neg z]
    have hm := Nat.mod_lt e (Nat.pos_of_ne_zero z)
    have h1 := hB.2.1
    obtain ⟨p1, p2⟩ := hB.2.2.2.2.2.2.2 (e % B 1) hm
    rw [h (26 + 2 * (e % B 1)) (by omega) (by omega), h (27 + 2 * (e % B 1)) (by omega) (by omega)]
    exact tlN_c (h 5 (by omega) (by omega)) (h _ (by omega) (by omega)) (h _ (by omega) (by omega))
/-- an evening: how many think otherwise; all behind it -/
theorem RT_evening {nn : Nat} {B : Nat → Nat} {pe : Int32} {ki : Nat → Int32} {mi se : Int64} {we lea mst pa : Int32} {fi sd : Nat → Int32} {ev un9 : Int32} {ma : Nat → Int64} {ea : Nat → Int32} {co : Int32} {ca clt : Nat → Int32} (h : (RT nn B pe ki mi se we lea mst pa fi sd ev un9 ma ea co ca clt)) (hn : nn ≤ 1000) : mu mi (evN (B 1) ki we (faB_ B) (fbB_ B) (B 2) mi) 6 = kaN (evB B) (goN (rmB B) (nw B) (B 2)) (B 0) ∧ (RT (nn + 1) (kpB (evB B) (goN (rmB B) (nw B) (B 2)) (B 0)) pe ki (evN (B 1) ki we (faB_ B) (fbB_ B) (B 2) mi) se we lea mst pa fi sd (nI (B 2 + 1)) (nI (rmN (B 3))) (rmL ma (B 3) mi) (rmI ea (B 3) ev) co ca clt) := by
  have hcr := RT_cr h hn
  have hS := nw_ok hcr.1
  have h0 := h.1.1
  have e0 : rmB B 0 = B 0 := rmB_lo (by omega) (by omega)
  have e1 : evN (B 1) ki we (faB_ B) (fbB_ B) (B 2) mi = pm (goN B (nw B) (B 2)) := by
    rw [h.2.2.1.2.2.2.1, h.2.1.2.1]
    exact evN_pm hcr hS
  have e2 : goN (rmB B) (nw B) (B 2) = goN B (nw B) (B 2) := goN_c hcr.1 (fun j a b => rmB_lo a b)
  have hT := goN_ok hcr.1 hS (B 2)
  have hz : ∀ p, B 0 ≤ p → p < 6 → goN B (nw B) (B 2) p = 0 := fun p h1 h2 => by
    rw [goN_hi (fun k hk => (h.2.2.2.1.2.2 k hk).1) h1, nw_in h2]
    exact (RT_z h p h1 h2).1
  rw [e1, e2]
  constructor
  · have := mu_pm hS hT 6 (Nat.le_refl _)
    rw [h.2.1.2.1, this]
    obtain ⟨r, hr⟩ : ∃ r, B 0 + r = 6 := ⟨6 - B 0, by omega⟩
    rw [← hr, kaS_hi (fun p h1 h2 => by rw [hz p h1 h2, nw_in h2]; exact (RT_z h p h1 h2).1) r (by omega)]
    exact (kaN_S (B 0) (fun p hp => by rw [evB_14 (by omega), nw_in (by omega)])).symm
  · have g1 := RT_remember h
    have g2 := RT_evn (e := B 2 + 1) g1 (Nat.le_succ nn) (Nat.succ_le_succ h.2.2.2.2.1.1)
    have e3 : un (rmB B) 2 (B 2 + 1) = evB B := rfl
    rw [e3] at g2
    have e4 : evB B 0 = B 0 := evB_0
    have g3 := RT_minds g2 hT (fun p h1 h2 => hz p (by rw [← e4]; exact h1) h2)
    rw [e4] at g3
    exact g3
theorem RT_meet {nn i j : Nat} {B : Nat → Nat} {pe : Int32} {ki : Nat → Int32} {mi se : Int64} {we lea mst pa : Int32} {fi sd : Nat → Int32} {ev un9 : Int32} {ma : Nat → Int64} {ea : Nat → Int32} {co : Int32} {ca clt : Nat → Int32} (h : (RT nn B pe ki mi se we lea mst pa fi sd ev un9 ma ea co ca clt)) (hn : nn ≤ 1000) (hi : i < B 0) (hj : j < B 0) (hij : i ≠ j) : mu mi (btN (B 0) ki we mi i j) 6 = kaN (rmB B) (tlN (rmB B) (nw B) i j) (B 0) ∧ (RT nn (kpB (rmB B) (tlN (rmB B) (nw B) i j) (B 0)) pe ki (btN (B 0) ki we mi i j) se we lea mst pa fi sd ev (nI (rmN (B 3))) (rmL ma (B 3) mi) (rmI ea (B 3) ev) co ca clt) := by
  have hcr := RT_cr h hn
  have hS := nw_ok hcr.1
  have h0 := h.1.1
  have e0 : rmB B 0 = B 0 := rmB_lo (by omega) (by omega)
  have e1 : btN (B 0) ki we mi i j = pm (tlN B (nw B) i j) := by
    rw [h.2.2.1.2.2.2.1, h.2.1.2.1]
    exact bt2_pm hcr hS hi hj hij
  have e2 : tlN (rmB B) (nw B) i j = tlN B (nw B) i j := tlN_c (rmB_lo (by omega) (by omega)) (rmB_lo (by omega) (by omega)) (rmB_lo (by omega) (by omega))
  have hT := tl_ok hcr hS hi hj
  have hz : ∀ p, B 0 ≤ p → p < 6 → tlN B (nw B) i j p = 0 := fun p h1 h2 => by
    rw [tlN_hi (by omega) (by omega), nw_in h2]
    exact (RT_z h p h1 h2).1
  rw [e1, e2]
  constructor
  · have := mu_pm hS hT 6 (Nat.le_refl _)
    rw [h.2.1.2.1, this]
    obtain ⟨r, hr⟩ : ∃ r, B 0 + r = 6 := ⟨6 - B 0, by omega⟩
    rw [← hr, kaS_hi (fun p h1 h2 => by rw [hz p h1 h2, nw_in h2]; exact (RT_z h p h1 h2).1) r (by omega)]
    exact (kaN_S (B 0) (fun p hp => by rw [rmB_14 (by omega), nw_in (by omega)])).symm
  · have g1 := RT_remember h
    have g3 := RT_minds g1 hT (fun p h1 h2 => hz p (by rw [← e0]; exact h1) h2)
    rw [e0] at g3
    exact g3
theorem RT_undo {nn n : Nat} {B : Nat → Nat} {pe : Int32} {ki : Nat → Int32} {mi se : Int64} {we lea mst pa : Int32} {fi sd : Nat → Int32} {ev un9 : Int32} {ma : Nat → Int64} {ea : Nat → Int32} {co : Int32} {ca clt : Nat → Int32} (h : (RT nn B pe ki mi se we lea mst pa fi sd ev un9 ma ea co ca clt)) (h3 : B 3 = n + 1) : (RT nn (unB B n) pe ki (ma n) se we lea mst pa fi sd (ea n) (nI n) ma ea co ca clt) := by
  obtain ⟨hK, hO, hL, hC, ⟨e1, e2, e3, e4, e5⟩, hM⟩ := h
  have h6 := hK.1
  obtain ⟨a, b, c, d⟩ := e5 n (by omega)
  have en : ∀ j, j ≠ 2 → j ≠ 3 → ¬ (14 ≤ j ∧ j < 20) → unB B n j = B j := fun j h1 h2 h3 => by
    unfold unB udB
    rw [if_neg h3, un_n h1, un_n h2]
  have s2 : unB B n 2 = B (62 + 7 * n) := by unfold unB udB; rw [if_neg (by omega), un_s]
  have s3 : unB B n 3 = n := by unfold unB udB; rw [if_neg (by omega), un_n (by omega), un_s]
  have s14 : ∀ p, p < 6 → unB B n (14 + p) = B (63 + 7 * n + p) := fun p hp => by
    unfold unB udB
    rw [if_pos (by omega), un_n (by omega), un_n (by omega)]
    congr 1
    omega
  generalize unB B n = B' at *
  have h0 := en 0 (by omega) (by omega) (by omega)
  refine ⟨Rk_c hK h0 (fun p hp => en _ (by omega) (by omega) (by omega)), ⟨fun q hq => ?_, ?_, ?_⟩, Rl_c hL (en 5 (by omega) (by omega) (by omega)) (en 6 (by omega) (by omega) (by omega)) (en 7 (by omega) (by omega) (by omega)), Rc_c hC (Nat.le_of_eq h0.symm) (en 1 (by omega) (by omega) (by omega)) (fun j h1 h2 => en j (by omega) (by omega) (by omega)), ⟨by omega, by omega, by rw [s2]; exact b, by rw [s3], fun k hk => ?_⟩, Rm_c hM (en 4 (by omega) (by omega) (by omega)) (fun j h1 h2 => en j (by omega) (by omega) (by omega))⟩
  · have := hO.1 q hq
    obtain ⟨d1, d2⟩ := d q hq
    rw [s14 q hq, en (20 + q) (by omega) (by omega) (by omega), h0]
    exact ⟨d1, this.2.1, fun y => ⟨d2 y, (this.2.2 y).2⟩⟩
  · rw [c]
    refine pm_congr (fun p hp => ?_)
    rw [nw_in hp, s14 p hp]
    unfold wr
    rw [if_pos hp]
  · rw [sn_c (B := B) (fun q hq => en _ (by omega) (by omega) (by omega))]; exact hO.2.2
  · obtain ⟨a', b', c', d'⟩ := e5 k (by omega)
    rw [en (62 + 7 * k) (by omega) (by omega) (by omega), wr_c (B := B) (fun p hp => en _ (by omega) (by omega) (by omega)), h0]
    exact ⟨a', b', c', fun p hp => by rw [en (63 + 7 * k + p) (by omega) (by omega) (by omega)]; exact d' p hp⟩
/-- a town whose rows were copied -/
theorem RT_copy {nn : Nat} {B : Nat → Nat} {pe : Int32} {ki : Nat → Int32} {mi se : Int64} {we lea mst pa : Int32} {fi sd : Nat → Int32} {ev un9 : Int32} {ma : Nat → Int64} {ea : Nat → Int32} {co : Int32} {ca clt : Nat → Int32} {ki0 fi0 sd0 ea0 ca0 clt0 : Nat → Int32} {ma0 : Nat → Int64} (h : (RT nn B pe ki mi se we lea mst pa fi sd ev un9 ma ea co ca clt)) : (RT nn B pe (va_cpy ki ki0 0 0 6) mi se we lea mst pa (va_cpy fi fi0 0 0 8) (va_cpy sd sd0 0 0 8) ev un9 (va_cpy ma ma0 0 0 12) (va_cpy ea ea0 0 0 12) co (va_cpy ca ca0 0 0 10) (va_cpy clt clt0 0 0 10)) := by
  have ci : ∀ (f g : Nat → Int32) (n k : Nat), k < n → va_cpy f g 0 0 n k = f k := fun f g n k hk => by
    unfold va_cpy
    rw [if_pos (by omega)]
    congr 1
    omega
  have cL : ∀ (f g : Nat → Int64) (n k : Nat), k < n → va_cpy f g 0 0 n k = f k := fun f g n k hk => by
    unfold va_cpy
    rw [if_pos (by omega)]
    congr 1
    omega
  obtain ⟨⟨k1, k2, k3, k4⟩, hO, hL, ⟨c1, c2, c3⟩, ⟨e1, e2, e3, e4, e5⟩, ⟨m1, m2, m3, m4⟩⟩ := h
  refine ⟨⟨k1, k2, k3, fun p hp => by rw [ci _ _ _ _ (by omega)]; exact k4 p hp⟩, hO, hL, ⟨c1, c2, fun k hk => ?_⟩, ⟨e1, e2, e3, e4, fun k hk => ?_⟩, ⟨m1, m2, fun k hk => ?_, fun j hj => by rw [ci _ _ _ _ hj]; exact m4 j hj⟩⟩
  · rw [ci fi fi0 8 k (by omega), ci sd sd0 8 k (by omega)]; exact c3 k hk
  · rw [ci ea ea0 12 k (by omega), cL ma ma0 12 k (by omega)]; exact e5 k hk
  · rw [ci ca ca0 10 k (by omega), ci clt clt0 10 k (by omega)]; exact m3 k hk
