/-! ===== the law's cases (7): images ===== -/
def imN (B IM : Nat → Nat) (i : Nat) : Nat → Nat := fun j => if 146 * i ≤ j ∧ j < 146 * i + 146 then B (j - 146 * i) else IM j
def frN (B IM : Nat → Nat) (i : Nat) : Nat → Nat := fun j => if j < 146 then IM (146 * i + j) else B j
theorem imN_eq {B IM : Nat → Nat} {i : Nat} : imI (nB B) (nB IM) i 146 = nB (imN B IM i) := by
  funext j
  unfold imI nB imN
  split <;> rfl
theorem frN_eq {B IM : Nat → Nat} {i : Nat} : frI (nB B) (nB IM) i 146 = nB (frN B IM i) := by
  funext j
  unfold frI nB frN
  split <;> rfl
theorem imN_at {B IM : Nat → Nat} {i : Nat} : ∀ j, j < 146 → imN B IM i (146 * i + j) = B j := fun j hj => by
  unfold imN
  rw [if_pos (by omega), show 146 * i + j - 146 * i = j by omega]
theorem imN_ne {B IM : Nat → Nat} {i i2 : Nat} (h : i2 ≠ i) : ∀ j, j < 146 → imN B IM i (146 * i2 + j) = IM (146 * i2 + j) := fun j hj => by
  unfold imN
  rw [if_neg (by omega)]
theorem RT_img {nn : Nat} {B B2 : Nat → Nat} {pe : Int32} {ki : Nat → Int32} {mi se : Int64} {we lea mst pa : Int32} {fi sd : Nat → Int32} {ev un9 : Int32} {ma : Nat → Int64} {ea : Nat → Int32} {co : Int32} {ca clt : Nat → Int32} {ki0 fi0 sd0 ea0 ca0 clt0 : Nat → Int32} {ma0 : Nat → Int64} (h : (RT nn B pe ki mi se we lea mst pa fi sd ev un9 ma ea co ca clt)) (e : ∀ j, j < 146 → B2 j = B j) : RT nn B2 pe (va_cpy ki ki0 0 0 6) mi se we lea mst pa (va_cpy fi fi0 0 0 8) (va_cpy sd sd0 0 0 8) ev un9 (va_cpy ma ma0 0 0 12) (va_cpy ea ea0 0 0 12) co (va_cpy ca ca0 0 0 10) (va_cpy clt clt0 0 0 10) := RT_book (RT_copy h) e
theorem IMG_new {nn i : Nat} {im : Nat → Option Nat} {kp : Nat → Int32} {B IM : Nat → Nat} {pe : Int32} {ki : Nat → Int32} {mi se : Int64} {we lea mst pa : Int32} {fi sd : Nat → Int32} {ev un9 : Int32} {ma : Nat → Int64} {ea : Nat → Int32} {co : Int32} {ca clt : Nat → Int32} {ki0 fi0 sd0 ea0 ca0 clt0 : Nat → Int32} {ma0 : Nat → Int64} (hi : i < 2) (h0 : ∀ j, 2 ≤ j → im j = none) (h1 : im 0 = none) (h2 : im 1 = none) (k0 : kp 0 = 0) (k1 : kp 1 = 0) (h : (RT nn B pe ki mi se we lea mst pa fi sd ev un9 ma ea co ca clt)) : IMG nn (va_up im i (some 39)) (upd kp i 1) (imN B IM i) (twn 39 pe (va_cpy ki ki0 0 0 6) mi se we lea mst pa (va_cpy fi fi0 0 0 8) (va_cpy sd sd0 0 0 8) ev un9 (va_cpy ma ma0 0 0 12) (va_cpy ea ea0 0 0 12) co (va_cpy ca ca0 0 0 10) (va_cpy clt clt0 0 0 10) []) := by
  refine ⟨fun j hj => by rw [va_up_ne _ _ (by omega)]; exact h0 j hj, Or.inr (Or.inl ⟨i, _, _, _, _, _, _, _, _, _, _, _, _, _, _, _, _, _, hi, va_up_self _ _ _, ?_, upd_s, ?_, rfl, RT_img h imN_at⟩)⟩
  · rw [va_up_ne _ _ (by omega)]
    rcases (show i = 0 ∨ i = 1 by omega) with rfl | rfl
    · exact h2
    · exact h1
  · rw [upd_n (by omega)]
    rcases (show i = 0 ∨ i = 1 by omega) with rfl | rfl
    · exact k1
    · exact k0
theorem IMG_o1 {nn i : Nat} {im : Nat → Option Nat} {kp : Nat → Int32} {B IM : Nat → Nat} {pe : Int32} {ki : Nat → Int32} {mi se : Int64} {we lea mst pa : Int32} {fi sd : Nat → Int32} {ev un9 : Int32} {ma : Nat → Int64} {ea : Nat → Int32} {co : Int32} {ca clt : Nat → Int32} {ki0 fi0 sd0 ea0 ca0 clt0 : Nat → Int32} {ma0 : Nat → Int64} (hi : i < 2) (h0 : ∀ j, 2 ≤ j → im j = none) (h1 : im i = some 39) (h2 : im (1 - i) = none) (k1 : kp (1 - i) = 0) (h : (RT nn B pe ki mi se we lea mst pa fi sd ev un9 ma ea co ca clt)) : IMG nn im (upd kp i 1) (imN B IM i) (twn 39 pe (va_cpy ki ki0 0 0 6) mi se we lea mst pa (va_cpy fi fi0 0 0 8) (va_cpy sd sd0 0 0 8) ev un9 (va_cpy ma ma0 0 0 12) (va_cpy ea ea0 0 0 12) co (va_cpy ca ca0 0 0 10) (va_cpy clt clt0 0 0 10) []) :=
  ⟨h0, Or.inr (Or.inl ⟨i, _, _, _, _, _, _, _, _, _, _, _, _, _, _, _, _, _, hi, h1, h2, upd_s, by rw [upd_n (by omega)]; exact k1, rfl, RT_img h imN_at⟩)⟩
theorem IMG_add {nn i j : Nat} {im : Nat → Option Nat} {kp : Nat → Int32} {B IM : Nat → Nat} {pe : Int32} {ki : Nat → Int32} {mi se : Int64} {we lea mst pa : Int32} {fi sd : Nat → Int32} {ev un9 : Int32} {ma : Nat → Int64} {ea : Nat → Int32} {co : Int32} {ca clt : Nat → Int32} {ki0 fi0 sd0 ea0 ca0 clt0 : Nat → Int32} {ma0 : Nat → Int64} {pe1 : Int32} {ki1 : Nat → Int32} {mi1 se1 : Int64} {we1 lea1 mst1 pa1 : Int32} {fi1 sd1 : Nat → Int32} {ev1 un1 : Int32} {ma1 : Nat → Int64} {ea1 : Nat → Int32} {co1 : Int32} {ca1 clt1 : Nat → Int32} (hi : i < 2) (hj : j < 2) (hij : i ≠ j) (h0 : ∀ j, 2 ≤ j → im j = none) (h1 : im j = some 39) (k1 : kp j = 1) (hR1 : RT nn (fun x => IM (146 * j + x)) pe1 ki1 mi1 se1 we1 lea1 mst1 pa1 fi1 sd1 ev1 un1 ma1 ea1 co1 ca1 clt1) (h : (RT nn B pe ki mi se we lea mst pa fi sd ev un9 ma ea co ca clt)) : IMG nn (va_up im i (some 47)) (upd kp i 1) (imN B IM i) (twn 39 pe1 ki1 mi1 se1 we1 lea1 mst1 pa1 fi1 sd1 ev1 un1 ma1 ea1 co1 ca1 clt1 (twn 47 pe (va_cpy ki ki0 0 0 6) mi se we lea mst pa (va_cpy fi fi0 0 0 8) (va_cpy sd sd0 0 0 8) ev un9 (va_cpy ma ma0 0 0 12) (va_cpy ea ea0 0 0 12) co (va_cpy ca ca0 0 0 10) (va_cpy clt clt0 0 0 10) [])) := by
  have e : 1 - j = i := by omega
  refine ⟨fun j hj => by rw [va_up_ne _ _ (by omega)]; exact h0 j hj, Or.inr (Or.inr ⟨j, _, _, _, _, _, _, _, _, _, _, _, _, _, _, _, _, _, _, _, _, _, _, _, _, _, _, _, _, _, _, _, _, _, _, hj, by rw [va_up_ne _ _ (by omega)]; exact h1, by rw [e]; exact va_up_self _ _ _, by rw [upd_n (by omega)]; exact k1, by rw [e]; exact upd_s, rfl, RT_book hR1 (imN_ne (fun z => hij z.symm)), ?_⟩)⟩
  rw [e]
  exact RT_img h imN_at
theorem IMG_o2a {nn i : Nat} {im : Nat → Option Nat} {kp : Nat → Int32} {B IM : Nat → Nat} {pe : Int32} {ki : Nat → Int32} {mi se : Int64} {we lea mst pa : Int32} {fi sd : Nat → Int32} {ev un9 : Int32} {ma : Nat → Int64} {ea : Nat → Int32} {co : Int32} {ca clt : Nat → Int32} {ki0 fi0 sd0 ea0 ca0 clt0 : Nat → Int32} {ma0 : Nat → Int64} {pe2 : Int32} {ki2 : Nat → Int32} {mi2 se2 : Int64} {we2 lea2 mst2 pa2 : Int32} {fi2 sd2 : Nat → Int32} {ev2 un2 : Int32} {ma2 : Nat → Int64} {ea2 : Nat → Int32} {co2 : Int32} {ca2 clt2 : Nat → Int32} (hi : i < 2) (h0 : ∀ j, 2 ≤ j → im j = none) (h1 : im i = some 39) (h2 : im (1 - i) = some 47) (k1 : kp (1 - i) = 1) (hR2 : RT nn (fun x => IM (146 * (1 - i) + x)) pe2 ki2 mi2 se2 we2 lea2 mst2 pa2 fi2 sd2 ev2 un2 ma2 ea2 co2 ca2 clt2) (h : (RT nn B pe ki mi se we lea mst pa fi sd ev un9 ma ea co ca clt)) : IMG nn im (upd kp i 1) (imN B IM i) (twn 39 pe (va_cpy ki ki0 0 0 6) mi se we lea mst pa (va_cpy fi fi0 0 0 8) (va_cpy sd sd0 0 0 8) ev un9 (va_cpy ma ma0 0 0 12) (va_cpy ea ea0 0 0 12) co (va_cpy ca ca0 0 0 10) (va_cpy clt clt0 0 0 10) (twn 47 pe2 ki2 mi2 se2 we2 lea2 mst2 pa2 fi2 sd2 ev2 un2 ma2 ea2 co2 ca2 clt2 [])) :=
  ⟨h0, Or.inr (Or.inr ⟨i, _, _, _, _, _, _, _, _, _, _, _, _, _, _, _, _, _, _, _, _, _, _, _, _, _, _, _, _, _, _, _, _, _, _, hi, h1, h2, upd_s, by rw [upd_n (by omega)]; exact k1, rfl, RT_img h imN_at, RT_book hR2 (imN_ne (by omega))⟩)⟩
theorem IMG_o2b {nn i j : Nat} {im : Nat → Option Nat} {kp : Nat → Int32} {B IM : Nat → Nat} {pe : Int32} {ki : Nat → Int32} {mi se : Int64} {we lea mst pa : Int32} {fi sd : Nat → Int32} {ev un9 : Int32} {ma : Nat → Int64} {ea : Nat → Int32} {co : Int32} {ca clt : Nat → Int32} {ki0 fi0 sd0 ea0 ca0 clt0 : Nat → Int32} {ma0 : Nat → Int64} {pe1 : Int32} {ki1 : Nat → Int32} {mi1 se1 : Int64} {we1 lea1 mst1 pa1 : Int32} {fi1 sd1 : Nat → Int32} {ev1 un1 : Int32} {ma1 : Nat → Int64} {ea1 : Nat → Int32} {co1 : Int32} {ca1 clt1 : Nat → Int32} (hi : i < 2) (hj : j < 2) (hij : i ≠ j) (h0 : ∀ j, 2 ≤ j → im j = none) (h1 : im j = some 39) (h2 : im (1 - j) = some 47) (k1 : kp j = 1) (hR1 : RT nn (fun x => IM (146 * j + x)) pe1 ki1 mi1 se1 we1 lea1 mst1 pa1 fi1 sd1 ev1 un1 ma1 ea1 co1 ca1 clt1) (h : (RT nn B pe ki mi se we lea mst pa fi sd ev un9 ma ea co ca clt)) : IMG nn im (upd kp i 1) (imN B IM i) (twn 39 pe1 ki1 mi1 se1 we1 lea1 mst1 pa1 fi1 sd1 ev1 un1 ma1 ea1 co1 ca1 clt1 (twn 47 pe (va_cpy ki ki0 0 0 6) mi se we lea mst pa (va_cpy fi fi0 0 0 8) (va_cpy sd sd0 0 0 8) ev un9 (va_cpy ma ma0 0 0 12) (va_cpy ea ea0 0 0 12) co (va_cpy ca ca0 0 0 10) (va_cpy clt clt0 0 0 10) [])) := by
  have e : 1 - j = i := by omega
  refine ⟨h0, Or.inr (Or.inr ⟨j, _, _, _, _, _, _, _, _, _, _, _, _, _, _, _, _, _, _, _, _, _, _, _, _, _, _, _, _, _, _, _, _, _, _, hj, h1, h2, by rw [upd_n (by omega)]; exact k1, by rw [e]; exact upd_s, rfl, RT_book hR1 (imN_ne (fun z => hij z.symm)), ?_⟩)⟩
  rw [e]
  exact RT_img h imN_at
theorem j01_of {x : Int32} (h : x = 0 ∨ x = 1) : ∃ i, i < 2 ∧ x = nI i := h.elim (fun h => ⟨0, by decide, h⟩) (fun h => ⟨1, by decide, h⟩)
theorem j01_in {i : Nat} (h : i < 2) : nI i = 0 ∨ nI i = 1 := by
  rcases (show i = 0 ∨ i = 1 by omega) with rfl | rfl
  · exact Or.inl rfl
  · exact Or.inr rfl
set_option maxRecDepth 100000 in
theorem cs_35 {Q : em_Q} {K : em_K} {L k : Nat} {xs : Nat → Int32} (hK : ∀ a b pc ls st hp, em_wp Q K (((T_L35 L xs).drop a).take b) pc ls st hp → K pc ls st hp) (E : ∀ hp, INV (k + 1) hp → K 1276 (LwS k) [] hp) (hk : k < 64) (hl : 5 * k + 5 ≤ L) {hp : em_H} (h : INV k hp) : K 1170 (LwS k) [] hp := by
  refine INV_e (P := fun hp => K 1170 (LwS k) [] hp) h (fun by9 tln tst ten mm fa9 fb9 rf im ki fi sd ma ea ca clt pe0 ki0 mi0 se0 we0 lea0 mst0 pa0 fi0 sd0 ev0 un0 ma0 ea0 co0 ca0 clt0 kp asd tx ty at9 st9 tk vl wd it mn sb my wem be9 rw fr G B C L9 S IM hR hz hY hT hS hM hG => ?_)
  have hG1 := IMG_mono hG (Nat.le_succ k)
  have hR1 := RT_mono hR (Nat.le_succ k)
  have h06 : B 0 ≤ 6 := hR.1.1
  have hC : CR B ki := RT_cr hR (by omega)
  have hgk := hC.1
  have hcal := RT_cal hR
  obtain ⟨hN, hSn⟩ := nw_ok2 hR.2.1
  have h5 := hR.2.2.1.1
  have h6 := hR.2.2.1.2.1
  have h7 := hR.2.2.1.2.2.1
  have h8 := hR.2.2.2.1.1
  have hk2 := hR.2.2.2.2.1.1
  have h12 := hR.2.2.2.2.1.2.1
  have h10 := hR.2.2.2.2.2.1
  have e1 : nI (5 * k) + 1 = nI (5 * k + 1) := nI_add _ 1
  have l1 : 5 * k + 1 < L := by omega
  obtain ⟨x1, hx1⟩ : ∃ v, xs (5 * k + 1) = v := ⟨_, rfl⟩
  have e2 : nI (5 * k) + 2 = nI (5 * k + 2) := nI_add _ 2
  have l2 : 5 * k + 2 < L := by omega
  obtain ⟨x2, hx2⟩ : ∃ v, xs (5 * k + 2) = v := ⟨_, rfl⟩
  have e3 : nI (5 * k) + 3 = nI (5 * k + 3) := nI_add _ 3
  have l3 : 5 * k + 3 < L := by omega
  obtain ⟨x3, hx3⟩ : ∃ v, xs (5 * k + 3) = v := ⟨_, rfl⟩
  have e4 : nI (5 * k) + 4 = nI (5 * k + 4) := nI_add _ 4
  have l4 : 5 * k + 4 < L := by omega
  obtain ⟨x4, hx4⟩ : ∃ v, xs (5 * k + 4) = v := ⟨_, rfl⟩
  have hcz := hR.2.2.2.2.2.2.2.2
  by_cases hb : x1 = 0 ∨ x1 = 1
  · obtain ⟨i, hi, rfl⟩ := j01_of hb
    have hbad : ∀ {P : Prop}, ¬ nI i = 0 → ¬ nI i = 1 → P := fun a b => (hb.elim a b).elim
    obtain ⟨h0, ⟨a0, a1, b0, b1, rfl⟩ | ⟨j, pe1, ki1, mi1, se1, we1, lea1, mst1, pa1, fi1, sd1, ev1, un1, ma1, ea1, co1, ca1, clt1, hj, g1, g2, g3, g4, rfl, hRj⟩ | ⟨j, pe1, ki1, mi1, se1, we1, lea1, mst1, pa1, fi1, sd1, ev1, un1, ma1, ea1, co1, ca1, clt1, pe2, ki2, mi2, se2, we2, lea2, mst2, pa2, fi2, sd2, ev2, un2, ma2, ea2, co2, ca2, clt2, hj, g1, g2, g3, g4, rfl, hRj, hRk⟩⟩ := hG1
    · have him : im i = none := by
        rcases (show i = 0 ∨ i = 1 by omega) with rfl | rfl
        · exact a0
        · exact a1
      have hno : ∀ j q, im j = some q → q < 39 := fun j q h => by
        rcases (show j = 0 ∨ j = 1 ∨ 2 ≤ j by omega) with rfl | rfl | z
        · rw [a0] at h; cases h
        · rw [a1] at h; cases h
        · rw [h0 j z] at h; cases h
      refine hK 0 9999 1170 _ _ _ ⟨_, _, e1, l1, hx1, Nat.zero_le _, rfl, _, _, _, _, _, _, _, _, _, _, _, _, _, _, _, _, _, _, _, _, _, _, _, _, _, _, _, _, _, _, _, _, _, _, _, _, _, _, _, _, _, _, _, _, _, _, _, _, _, _, _, rfl, rfl, hcz, Or.inr (Or.inl ⟨i, rfl, hi, him, rfl, (by repeat (first | exact trivial | refine ⟨rfl, ?_⟩ | refine ⟨trivial, ?_⟩)), hno, ?_⟩)⟩
      refine ⟨_, _, e1, l1, hx1, _, _, _, _, _, _, _, _, _, _, _, _, _, _, _, _, _, _, _, _, _, _, _, _, _, rfl, rfl, hbad, fun i2 a a2 => ?_⟩
      have q1 := nI_inj (by omega) (by omega) a
      subst q1
      exact ⟨fun _ => E _ (INV_i hR1 hz hY hT rfl imN_eq rfl rfl rfl rfl rfl hS hM (IMG_new hi h0 a0 a1 b0 b1 hR1)), fun h => absurd rfl h⟩
    · by_cases hij : i = j
      · subst hij
        refine hK 0 9999 1170 _ _ _ ⟨_, _, e1, l1, hx1, Nat.zero_le _, rfl, _, _, _, _, _, _, _, _, _, _, _, _, _, _, _, _, _, _, _, _, _, _, _, _, _, _, _, _, _, _, _, _, _, _, _, _, _, _, _, _, _, _, _, _, _, _, _, _, _, _, _, rfl, rfl, hcz, Or.inr (Or.inr (Or.inr (Or.inl ⟨i, _, _, _, _, _, _, _, _, _, _, _, _, _, _, _, _, _, _, rfl, hi, g1, rfl, ?_⟩)))⟩
        refine ⟨_, _, e1, l1, hx1, _, _, _, _, _, _, _, _, _, _, _, _, _, _, _, _, _, _, _, _, _, _, _, _, _, rfl, rfl, hbad, fun i2 a a2 => ?_⟩
        have q1 := nI_inj (by omega) (by omega) a
        subst q1
        exact ⟨fun _ => E _ (INV_i hR1 hz hY hT rfl imN_eq rfl rfl rfl rfl rfl hS hM (IMG_o1 hi h0 g1 g2 g4 hR1)), fun h => absurd rfl h⟩
      · have him : im i = none := by rw [show i = 1 - j by omega]; exact g2
        have hno : ∀ x q, im x = some q → q < 47 := fun x q h => by
          rcases (show x = j ∨ x = 1 - j ∨ 2 ≤ x by omega) with rfl | rfl | z
          · rw [g1] at h; cases h; decide
          · rw [g2] at h; cases h
          · rw [h0 x z] at h; cases h
        refine hK 0 9999 1170 _ _ _ ⟨_, _, e1, l1, hx1, Nat.zero_le _, rfl, _, _, _, _, _, _, _, _, _, _, _, _, _, _, _, _, _, _, _, _, _, _, _, _, _, _, _, _, _, _, _, _, _, _, _, _, _, _, _, _, _, _, _, _, _, _, _, _, _, _, _, rfl, rfl, hcz, Or.inr (Or.inr (Or.inl ⟨i, _, _, _, _, _, _, _, _, rfl, hi, him, rfl, (by repeat (first | exact trivial | refine ⟨rfl, ?_⟩ | refine ⟨trivial, ?_⟩)), hno, ?_⟩))⟩
        refine ⟨_, _, e1, l1, hx1, _, _, _, _, _, _, _, _, _, _, _, _, _, _, _, _, _, _, _, _, _, _, _, _, _, rfl, rfl, hbad, fun i2 a a2 => ?_⟩
        have q1 := nI_inj (by omega) (by omega) a
        subst q1
        exact ⟨fun _ => E _ (INV_i hR1 hz hY hT rfl imN_eq rfl rfl rfl rfl rfl hS hM (IMG_add hi hj hij h0 g1 g3 hRj hR1)), fun h => absurd rfl h⟩
    · by_cases hij : i = j
      · subst hij
        refine hK 0 9999 1170 _ _ _ ⟨_, _, e1, l1, hx1, Nat.zero_le _, rfl, _, _, _, _, _, _, _, _, _, _, _, _, _, _, _, _, _, _, _, _, _, _, _, _, _, _, _, _, _, _, _, _, _, _, _, _, _, _, _, _, _, _, _, _, _, _, _, _, _, _, _, rfl, rfl, hcz, Or.inr (Or.inr (Or.inr (Or.inl ⟨i, _, _, _, _, _, _, _, _, _, _, _, _, _, _, _, _, _, _, rfl, hi, g1, rfl, ?_⟩)))⟩
        refine ⟨_, _, e1, l1, hx1, _, _, _, _, _, _, _, _, _, _, _, _, _, _, _, _, _, _, _, _, _, _, _, _, _, rfl, rfl, hbad, fun i2 a a2 => ?_⟩
        have q1 := nI_inj (by omega) (by omega) a
        subst q1
        exact ⟨fun _ => E _ (INV_i hR1 hz hY hT rfl imN_eq rfl rfl rfl rfl rfl hS hM (IMG_o2a hi h0 g1 g2 g4 hRk hR1)), fun h => absurd rfl h⟩
      · have him : im i = some 47 := by rw [show i = 1 - j by omega]; exact g2
        refine hK 0 9999 1170 _ _ _ ⟨_, _, e1, l1, hx1, Nat.zero_le _, rfl, _, _, _, _, _, _, _, _, _, _, _, _, _, _, _, _, _, _, _, _, _, _, _, _, _, _, _, _, _, _, _, _, _, _, _, _, _, _, _, _, _, _, _, _, _, _, _, _, _, _, _, rfl, rfl, hcz, Or.inr (Or.inr (Or.inr (Or.inr ⟨i, _, _, _, _, _, _, _, _, _, _, _, _, _, _, _, _, _, _, _, _, _, _, _, _, _, _, rfl, hi, him, rfl, ?_⟩)))⟩
        refine ⟨_, _, e1, l1, hx1, _, _, _, _, _, _, _, _, _, _, _, _, _, _, _, _, _, _, _, _, _, _, _, _, _, rfl, rfl, hbad, fun i2 a a2 => ?_⟩
        have q1 := nI_inj (by omega) (by omega) a
        subst q1
        exact ⟨fun _ => E _ (INV_i hR1 hz hY hT rfl imN_eq rfl rfl rfl rfl rfl hS hM (IMG_o2b hi hj hij h0 g1 g2 g3 hRj hR1)), fun h => absurd rfl h⟩
  · exact hK 0 9999 1170 _ _ _ ⟨_, _, e1, l1, hx1, Nat.zero_le _, rfl, _, _, _, _, _, _, _, _, _, _, _, _, _, _, _, _, _, _, _, _, _, _, _, _, _, _, _, _, _, _, _, _, _, _, _, _, _, _, _, _, _, _, _, _, _, _, _, _, _, _, _, rfl, rfl, hcz, Or.inl ⟨fun h => hb (Or.inl h), fun h => hb (Or.inr h), _, _, e1, l1, hx1, _, _, _, _, _, _, _, _, _, _, _, _, _, _, _, _, _, _, _, _, _, _, _, _, _, rfl, rfl, fun _ _ => ⟨fun _ => E _ (INV_i hR1 hz hY hT rfl rfl rf_bad rfl rfl rfl rfl hS hM hG1), fun h => absurd rfl h⟩, fun i a a2 => absurd (a ▸ j01_in a2) hb⟩⟩
