/-! ===== the law's cases (4) ===== -/
theorem inw_in {t : Nat} (h : t ≤ 40) : inw (nI t) := ⟨nI_pos (by omega), (nI_leI (by omega) (by decide : 40 < 2 ^ 31)).mpr h⟩
theorem din_of {m i : Int32} (h : din m i) : ∃ t, 1 ≤ t ∧ t ≤ 4 ∧ m = nI t := by
  obtain ⟨h1, h2, -⟩ := h
  obtain ⟨t, ht, rfl⟩ := nI_of2 (M := 4) (n := 4) (by decide) (fun z => h1 (Int32.lt_trans z (by decide))) (Int32.not_lt.mp h2)
  refine ⟨t, ?_, ht, rfl⟩
  rcases Nat.eq_zero_or_pos t with q | q
  · subst q; exact absurd (by decide) h1
  · exact q
theorem din_in {t : Nat} {i : Int32} (h1 : 1 ≤ t) (h4 : t ≤ 4) (hi : (-1) ≤ i) : din (nI t) i := ⟨nI_nlt (b := 1) h1 (by omega), nI_nlt (b := t) (a := 4) h4 (by omega), hi⟩
theorem m1_le {n : Nat} (h : n < 2 ^ 31) : (-1 : Int32) ≤ nI n := Int32.le_trans (by decide : (-1 : Int32) ≤ 0) (nI_pos' h)
theorem ge0_of {x : Int32} (h : (-1) ≤ x) (hn : ¬ x = -1) : ¬ x < 0 := fun z => by
  have h1 : (-1 : Int) ≤ x.toInt := Int32.le_iff_toInt_le.mp h
  have h2 : x.toInt < 0 := Int32.lt_iff_toInt_lt.mp z
  exact hn (Int32.toInt_inj.mp (by show x.toInt = -1; omega))
set_option maxRecDepth 100000 in
theorem cs_23 {Q : em_Q} {K : em_K} {L k : Nat} {xs : Nat → Int32} (hK : ∀ a b pc ls st hp, em_wp Q K (((T_L23 L xs).drop a).take b) pc ls st hp → K pc ls st hp) (E : ∀ hp, INV (k + 1) hp → K 1276 (LwS k) [] hp) (hk : k < 64) (hl : 5 * k + 5 ≤ L) {hp : em_H} (h : INV k hp) : K 767 (LwS k) [] hp := by
  refine INV_e (P := fun hp => K 767 (LwS k) [] hp) h (fun by9 tln tst ten mm fa9 fb9 rf im ki fi sd ma ea ca clt pe0 ki0 mi0 se0 we0 lea0 mst0 pa0 fi0 sd0 ev0 un0 ma0 ea0 co0 ca0 clt0 kp asd tx ty at9 st9 tk vl wd it mn sb my wem be9 rw fr G B C L9 S IM hR hz hY hT hS hM hG => ?_)
  have hG1 := IMG_mono hG (Nat.le_succ k)
  have hR1 := RT_mono hR (Nat.le_succ k)
  have h06 : B 0 ≤ 6 := hR.1.1
  have hC : CR B ki := RT_cr hR (by omega)
  have hgk := hC.1
  have hcal := RT_cal hR
  obtain ⟨hN, hSn⟩ := nw_ok2 hR.2.1
  have h5 := hR.2.2.1.1
  have h6 := hR.2.2.1.2.1
  have h7 := hR.2.2.1.2.2.1
  have h8 := hR.2.2.2.1.1
  have hk2 := hR.2.2.2.2.1.1
  have h12 := hR.2.2.2.2.1.2.1
  have h10 := hR.2.2.2.2.2.1
  have e1 : nI (5 * k) + 1 = nI (5 * k + 1) := nI_add _ 1
  have l1 : 5 * k + 1 < L := by omega
  obtain ⟨x1, hx1⟩ : ∃ v, xs (5 * k + 1) = v := ⟨_, rfl⟩
  have e2 : nI (5 * k) + 2 = nI (5 * k + 2) := nI_add _ 2
  have l2 : 5 * k + 2 < L := by omega
  obtain ⟨x2, hx2⟩ : ∃ v, xs (5 * k + 2) = v := ⟨_, rfl⟩
  have e3 : nI (5 * k) + 3 = nI (5 * k + 3) := nI_add _ 3
  have l3 : 5 * k + 3 < L := by omega
  obtain ⟨x3, hx3⟩ : ∃ v, xs (5 * k + 3) = v := ⟨_, rfl⟩
  have e4 : nI (5 * k) + 4 = nI (5 * k + 4) := nI_add _ 4
  have l4 : 5 * k + 4 < L := by omega
  obtain ⟨x4, hx4⟩ : ∃ v, xs (5 * k + 4) = v := ⟨_, rfl⟩
  by_cases hb : (x2 = -1 ∨ hs (nI (B 0)) x2) ∧ inw x1
  · obtain ⟨t, ht, rfl⟩ := inw_of hb.2
    rcases hb.1 with rfl | hp
    · refine hK 0 9999 767 _ _ _ ⟨_, _, e1, l1, hx1, _, _, e2, l2, hx2, _, _, _, _, _, _, _, _, _, _, _, _, _, _, _, _, _, _, _, _, _, _, _, _, _, _, _, _, _, B 0, B 1, B 2, _, _, rfl, rfl, rfl, h06, rfl, h8, rfl, by omega, hcal, fun h => absurd hb h, fun t2 mm2 a1 a2 _ => ?_, fun t2 w mm2 a1 a2 a3 a4 => absurd a3.symm (nI_m1 (by omega))⟩
      have q1 := nI_inj (by omega) (by omega) a1
      subst q1
      refine ⟨_, _, e1, l1, hx1, _, _, e2, l2, hx2, _, _, _, _, _, _, _, _, _, _, _, _, _, _, _, _, _, _, _, _, _, _, _, _, _, _, rfl, rfl, hgk, hS, hM, fun h => absurd ⟨hb.2, hb.1⟩ h, fun t2 S2 my2 we2 be2 d hS2 hM2 a1 a2 hd => ⟨fun _ => ?_, fun j a3 a4 => absurd a3.symm (nI_m1 (by omega))⟩⟩
      have q1 := nI_inj (by omega) (by omega) a1
      subst q1
      have hv := (wed_pm hC ht hd).1
      exact ⟨fun _ => E _ (INV_i hR1 hz hY hT rfl rfl rfl rfl rfl rfl rfl hS2 hM2 hG1), fun h => absurd hv h⟩
    · obtain ⟨w, hw, rfl⟩ := hs_of hp
      refine hK 0 9999 767 _ _ _ ⟨_, _, e1, l1, hx1, _, _, e2, l2, hx2, _, _, _, _, _, _, _, _, _, _, _, _, _, _, _, _, _, _, _, _, _, _, _, _, _, _, _, _, _, B 0, B 1, B 2, _, _, rfl, rfl, rfl, h06, rfl, h8, rfl, by omega, hcal, fun h => absurd hb h, fun t2 mm2 a1 a2 a3 => absurd a3 (nI_m1 (by omega)), fun t2 w2 mm2 a1 a2 a3 a4 => ?_⟩
      have q1 := nI_inj (by omega) (by omega) a1
      subst q1
      have q1 := nI_inj (by omega) (by omega) a3
      subst q1
      refine ⟨_, _, e1, l1, hx1, _, _, e2, l2, hx2, _, _, _, _, _, _, _, _, _, _, _, _, _, _, _, _, _, _, _, _, _, _, _, _, _, _, rfl, rfl, hgk, hS, hM, fun h => absurd ⟨hb.2, hb.1⟩ h, fun t2 S2 my2 we2 be2 d hS2 hM2 a1 a2 hd => ⟨fun a => absurd a (nI_m1 (by omega)), fun j a3 a4 => ?_⟩⟩
      have q1 := nI_inj (by omega) (by omega) a1
      subst q1
      have q1 := nI_inj (by omega) (by omega) a3
      subst q1
      have hv := (wed_pm hC ht hd).2 w hw
      exact ⟨fun _ => E _ (INV_i hR1 hz hY hT rfl rfl rfl rfl rfl rfl rfl hS2 hM2 hG1), fun h => absurd hv h⟩
  · exact hK 0 9999 767 _ _ _ ⟨_, _, e1, l1, hx1, _, _, e2, l2, hx2, _, _, _, _, _, _, _, _, _, _, _, _, _, _, _, _, _, _, _, _, _, _, _, _, _, _, _, _, _, B 0, B 1, B 2, _, _, rfl, rfl, rfl, h06, rfl, h8, rfl, by omega, hcal, fun _ => ⟨_, _, e1, l1, hx1, _, _, e2, l2, hx2, _, _, _, _, _, _, _, _, _, _, _, _, _, _, _, _, _, _, _, _, _, _, _, _, _, _, rfl, rfl, hgk, hS, hM, fun _ => ⟨fun _ => E _ (INV_i hR1 hz hY hT rfl rfl rf_bad10 rfl rfl rfl rfl hS hM hG1), fun h => absurd rfl h⟩, fun t2 S2 my2 we2 be2 d hS2 hM2 a1 a2 hd => ⟨fun a => absurd ⟨Or.inl a, a1 ▸ inw_in a2⟩ hb, fun j a3 a4 => absurd ⟨Or.inr (a3 ▸ hs_in h06 a4), a1 ▸ inw_in a2⟩ hb⟩⟩, fun t2 mm2 a1 a2 a3 => absurd ⟨Or.inl a3, a1 ▸ inw_in a2⟩ hb, fun t2 w mm2 a1 a2 a3 a4 => absurd ⟨Or.inr (a3 ▸ hs_in h06 a4), a1 ▸ inw_in a2⟩ hb⟩
set_option maxRecDepth 100000 in
theorem cs_24 {Q : em_Q} {K : em_K} {L k : Nat} {xs : Nat → Int32} (hK : ∀ a b pc ls st hp, em_wp Q K (((T_L24 L xs).drop a).take b) pc ls st hp → K pc ls st hp) (E : ∀ hp, INV (k + 1) hp → K 1276 (LwS k) [] hp) (hk : k < 64) (hl : 5 * k + 5 ≤ L) {hp : em_H} (h : INV k hp) : K 800 (LwS k) [] hp := by
  refine INV_e (P := fun hp => K 800 (LwS k) [] hp) h (fun by9 tln tst ten mm fa9 fb9 rf im ki fi sd ma ea ca clt pe0 ki0 mi0 se0 we0 lea0 mst0 pa0 fi0 sd0 ev0 un0 ma0 ea0 co0 ca0 clt0 kp asd tx ty at9 st9 tk vl wd it mn sb my wem be9 rw fr G B C L9 S IM hR hz hY hT hS hM hG => ?_)
  have hG1 := IMG_mono hG (Nat.le_succ k)
  have hR1 := RT_mono hR (Nat.le_succ k)
  have h06 : B 0 ≤ 6 := hR.1.1
  have hC : CR B ki := RT_cr hR (by omega)
  have hgk := hC.1
  have hcal := RT_cal hR
  obtain ⟨hN, hSn⟩ := nw_ok2 hR.2.1
  have h5 := hR.2.2.1.1
  have h6 := hR.2.2.1.2.1
  have h7 := hR.2.2.1.2.2.1
  have h8 := hR.2.2.2.1.1
  have hk2 := hR.2.2.2.2.1.1
  have h12 := hR.2.2.2.2.1.2.1
  have h10 := hR.2.2.2.2.2.1
  have e1 : nI (5 * k) + 1 = nI (5 * k + 1) := nI_add _ 1
  have l1 : 5 * k + 1 < L := by omega
  obtain ⟨x1, hx1⟩ : ∃ v, xs (5 * k + 1) = v := ⟨_, rfl⟩
  have e2 : nI (5 * k) + 2 = nI (5 * k + 2) := nI_add _ 2
  have l2 : 5 * k + 2 < L := by omega
  obtain ⟨x2, hx2⟩ : ∃ v, xs (5 * k + 2) = v := ⟨_, rfl⟩
  have e3 : nI (5 * k) + 3 = nI (5 * k + 3) := nI_add _ 3
  have l3 : 5 * k + 3 < L := by omega
  obtain ⟨x3, hx3⟩ : ∃ v, xs (5 * k + 3) = v := ⟨_, rfl⟩
  have e4 : nI (5 * k) + 4 = nI (5 * k + 4) := nI_add _ 4
  have l4 : 5 * k + 4 < L := by omega
  obtain ⟨x4, hx4⟩ : ∃ v, xs (5 * k + 4) = v := ⟨_, rfl⟩
  by_cases hb : h2 (nI (B 0)) x1 x2 ∧ din x3 x4
  · obtain ⟨x, y, hx, hy, hxy, rfl, rfl⟩ := h2_of hb.1
    obtain ⟨t, ht1, ht4, rfl⟩ := din_of hb.2
    refine hK 0 9999 800 _ _ _ ⟨_, _, e1, l1, hx1, _, _, e2, l2, hx2, _, _, e3, l3, hx3, _, _, e4, l4, hx4, _, _, _, _, _, _, _, _, _, _, _, _, _, _, _, _, _, _, _, _, _, _, _, _, _, _, _, _, _, _, _, B 0, rfl, rfl, rfl, h06, fun h => absurd hb h, fun i2 j2 t2 a1 a2 a3 a4 a5 a6 a7 a8 a9 => ?_, fun i2 j2 t2 a1 a2 a3 a4 a5 a6 a7 a8 a9 b1 => ?_⟩
    · have q1 := nI_inj (by omega) (by omega) a1
      have q2 := nI_inj (by omega) (by omega) a2
      have q3 := nI_inj (by omega) (by omega) a6
      subst q1
      subst q2
      subst q3
      refine ⟨_, _, e1, l1, hx1, _, _, e2, l2, hx2, _, _, e3, l3, hx3, _, _, e4, l4, hx4, _, _, _, _, _, _, _, _, _, _, _, _, _, _, _, _, _, _, _, _, _, _, _, _, _, _, _, _, rfl, rfl, hgk, hS, fun h => absurd hb h, fun i2 j2 t2 S2 rw2 fr2 hS2 a1 a2 a3 a4 a5 a6 a7 a8 => ⟨fun _ => ?_, fun _ h => absurd a9 h⟩⟩
      have q1 := nI_inj (by omega) (by omega) a1
      have q2 := nI_inj (by omega) (by omega) a2
      have q3 := nI_inj (by omega) (by omega) a6
      subst q1
      subst q2
      subst q3
      have hv := congrArg (fun z => nI z) (din_cnt (k := t) hC hx hy hxy)
      exact ⟨fun _ => E _ (INV_i hR1 hz hY hT rfl rfl rfl rfl rfl rfl rfl hS2 hM hG1), fun h => absurd hv h⟩
    · have q1 := nI_inj (by omega) (by omega) a1
      have q2 := nI_inj (by omega) (by omega) a2
      have q3 := nI_inj (by omega) (by omega) a6
      subst q1
      subst q2
      subst q3
      refine ⟨_, _, e1, l1, hx1, _, _, e2, l2, hx2, _, _, e3, l3, hx3, _, _, e4, l4, hx4, _, _, _, _, _, _, _, _, _, _, _, _, _, _, _, _, _, _, _, _, _, _, _, _, _, _, _, _, rfl, rfl, hgk, hS, fun h => absurd hb h, fun i2 j2 t2 S2 rw2 fr2 hS2 a1 a2 a3 a4 a5 a6 a7 a8 => ⟨fun h => absurd h b1, fun _ _ => ?_⟩⟩
      have q1 := nI_inj (by omega) (by omega) a1
      have q2 := nI_inj (by omega) (by omega) a2
      have q3 := nI_inj (by omega) (by omega) a6
      subst q1
      subst q2
      subst q3
      have hv := din_row hC hx hy hxy ht1 ht4 a9 b1
      exact ⟨fun _ => E _ (INV_i hR1 hz hY hT rfl rfl rfl rfl rfl rfl rfl hS2 hM hG1), fun h => absurd hv h⟩
  · have hm1 : ∀ i : Int32, i = -1 → (-1) ≤ i := fun i h => by rw [h]; decide
    exact hK 0 9999 800 _ _ _ ⟨_, _, e1, l1, hx1, _, _, e2, l2, hx2, _, _, e3, l3, hx3, _, _, e4, l4, hx4, _, _, _, _, _, _, _, _, _, _, _, _, _, _, _, _, _, _, _, _, _, _, _, _, _, _, _, _, _, _, _, B 0, rfl, rfl, rfl, h06, fun _ => ⟨_, _, e1, l1, hx1, _, _, e2, l2, hx2, _, _, e3, l3, hx3, _, _, e4, l4, hx4, _, _, _, _, _, _, _, _, _, _, _, _, _, _, _, _, _, _, _, _, _, _, _, _, _, _, _, _, rfl, rfl, hgk, hS, fun _ => ⟨fun _ => E _ (INV_i hR1 hz hY hT rfl rfl rf_bad10 rfl rfl rfl rfl hS hM hG1), fun h => absurd rfl h⟩, fun i2 j2 t2 S2 rw2 fr2 hS2 a1 a2 a3 a4 a5 a6 a7 a8 => ⟨fun a9 => absurd ⟨a1 ▸ a2 ▸ h2_in h06 a3 a4 a5, a6 ▸ din_in a7 a8 (hm1 _ a9)⟩ hb, fun a9 _ => absurd ⟨a1 ▸ a2 ▸ h2_in h06 a3 a4 a5, a6 ▸ din_in a7 a8 a9⟩ hb⟩⟩, fun i2 j2 t2 a1 a2 a3 a4 a5 a6 a7 a8 a9 => absurd ⟨a1 ▸ a2 ▸ h2_in h06 a3 a4 a5, a6 ▸ din_in a7 a8 (hm1 _ a9)⟩ hb, fun i2 j2 t2 a1 a2 a3 a4 a5 a6 a7 a8 a9 b1 => absurd ⟨a1 ▸ a2 ▸ h2_in h06 a3 a4 a5, a6 ▸ din_in a7 a8 a9⟩ hb⟩
set_option maxRecDepth 100000 in
theorem cs_25 {Q : em_Q} {K : em_K} {L k : Nat} {xs : Nat → Int32} (hK : ∀ a b pc ls st hp, em_wp Q K (((T_L25 L xs).drop a).take b) pc ls st hp → K pc ls st hp) (E : ∀ hp, INV (k + 1) hp → K 1276 (LwS k) [] hp) (hk : k < 64) (hl : 5 * k + 5 ≤ L) {hp : em_H} (h : INV k hp) : K 853 (LwS k) [] hp := by
  refine INV_e (P := fun hp => K 853 (LwS k) [] hp) h (fun by9 tln tst ten mm fa9 fb9 rf im ki fi sd ma ea ca clt pe0 ki0 mi0 se0 we0 lea0 mst0 pa0 fi0 sd0 ev0 un0 ma0 ea0 co0 ca0 clt0 kp asd tx ty at9 st9 tk vl wd it mn sb my wem be9 rw fr G B C L9 S IM hR hz hY hT hS hM hG => ?_)
  have hG1 := IMG_mono hG (Nat.le_succ k)
  have hR1 := RT_mono hR (Nat.le_succ k)
  have h06 : B 0 ≤ 6 := hR.1.1
  have hC : CR B ki := RT_cr hR (by omega)
  have hgk := hC.1
  have hcal := RT_cal hR
  obtain ⟨hN, hSn⟩ := nw_ok2 hR.2.1
  have h5 := hR.2.2.1.1
  have h6 := hR.2.2.1.2.1
  have h7 := hR.2.2.1.2.2.1
  have h8 := hR.2.2.2.1.1
  have hk2 := hR.2.2.2.2.1.1
  have h12 := hR.2.2.2.2.1.2.1
  have h10 := hR.2.2.2.2.2.1
  have e1 : nI (5 * k) + 1 = nI (5 * k + 1) := nI_add _ 1
  have l1 : 5 * k + 1 < L := by omega
  obtain ⟨x1, hx1⟩ : ∃ v, xs (5 * k + 1) = v := ⟨_, rfl⟩
  have e2 : nI (5 * k) + 2 = nI (5 * k + 2) := nI_add _ 2
  have l2 : 5 * k + 2 < L := by omega
  obtain ⟨x2, hx2⟩ : ∃ v, xs (5 * k + 2) = v := ⟨_, rfl⟩
  have e3 : nI (5 * k) + 3 = nI (5 * k + 3) := nI_add _ 3
  have l3 : 5 * k + 3 < L := by omega
  obtain ⟨x3, hx3⟩ : ∃ v, xs (5 * k + 3) = v := ⟨_, rfl⟩
  have e4 : nI (5 * k) + 4 = nI (5 * k + 4) := nI_add _ 4
  have l4 : 5 * k + 4 < L := by omega
  obtain ⟨x4, hx4⟩ : ∃ v, xs (5 * k + 4) = v := ⟨_, rfl⟩
  by_cases hb : h2 (nI (B 0)) x1 x2
  · obtain ⟨i, j, hi, hj, hij, rfl, rfl⟩ := h2_of hb
    have hx := hN i (by omega)
    have hy := hN j (by omega)
    rw [nw_in (by omega)] at hx hy
    have hv : oI (fgU (nI (B 5)) (nI (B 6)) (nI (B 7)) (mo (pm (nw B)) (nI i)) (mo (pm (nw B)) (nI j)) 1024) = oI (fgM B (B (14 + i) ^^^ B (14 + j)) 1024) := by
      rw [mo_at hN (by omega), mo_at hN (by omega), fg_pm h6 h7 hx hy 1024 (Nat.le_refl _)]
    refine hK 0 9999 853 _ _ _ ⟨_, _, e1, l1, hx1, _, _, e2, l2, hx2, _, _, _, _, _, _, _, _, _, _, _, _, _, _, _, _, _, _, _, _, _, _, _, _, _, _, _, _, _, rfl, rfl, fun h => absurd hb h, fun _ => ⟨_, _, e1, l1, hx1, _, _, e2, l2, hx2, _, _, _, _, _, _, _, _, _, _, _, _, _, _, _, _, _, _, _, _, _, _, _, _, _, _, rfl, rfl, hgk, fun h => absurd hb h, fun i2 j2 a1 a2 a3 a4 a5 => ?_⟩⟩
    have q1 := nI_inj (by omega) (by omega) a1
    have q2 := nI_inj (by omega) (by omega) a2
    subst q1
    subst q2
    exact ⟨fun _ => E _ (INV_i hR1 hz hY hT rfl rfl rfl rfl rfl rfl rfl hS hM hG1), fun h => absurd hv h⟩
  · exact hK 0 9999 853 _ _ _ ⟨_, _, e1, l1, hx1, _, _, e2, l2, hx2, _, _, _, _, _, _, _, _, _, _, _, _, _, _, _, _, _, _, _, _, _, _, _, _, _, _, _, _, _, rfl, rfl, fun _ => ⟨_, _, e1, l1, hx1, _, _, e2, l2, hx2, _, _, _, _, _, _, _, _, _, _, _, _, _, _, _, _, _, _, _, _, _, _, _, _, _, _, rfl, rfl, hgk, fun _ => ⟨fun _ => E _ (INV_i hR1 hz hY hT rfl rfl rf_bad rfl rfl rfl rfl hS hM hG1), fun h => absurd rfl h⟩, fun i j a1 a2 a3 a4 a5 => absurd (a1 ▸ a2 ▸ h2_in h06 a3 a4 a5) hb⟩, fun h => absurd h hb⟩
set_option maxRecDepth 100000 in
theorem cs_26 {Q : em_Q} {K : em_K} {L k : Nat} {xs : Nat → Int32} (hK : ∀ a b pc ls st hp, em_wp Q K (((T_L26 L xs).drop a).take b) pc ls st hp → K pc ls st hp) (E : ∀ hp, INV (k + 1) hp → K 1276 (LwS k) [] hp) (hk : k < 64) (hl : 5 * k + 5 ≤ L) {hp : em_H} (h : INV k hp) : K 886 (LwS k) [] hp := by
  refine INV_e (P := fun hp => K 886 (LwS k) [] hp) h (fun by9 tln tst ten mm fa9 fb9 rf im ki fi sd ma ea ca clt pe0 ki0 mi0 se0 we0 lea0 mst0 pa0 fi0 sd0 ev0 un0 ma0 ea0 co0 ca0 clt0 kp asd tx ty at9 st9 tk vl wd it mn sb my wem be9 rw fr G B C L9 S IM hR hz hY hT hS hM hG => ?_)
  have hG1 := IMG_mono hG (Nat.le_succ k)
  have hR1 := RT_mono hR (Nat.le_succ k)
  have h06 : B 0 ≤ 6 := hR.1.1
  have hC : CR B ki := RT_cr hR (by omega)
  have hgk := hC.1
  have hcal := RT_cal hR
  obtain ⟨hN, hSn⟩ := nw_ok2 hR.2.1
  have h5 := hR.2.2.1.1
  have h6 := hR.2.2.1.2.1
  have h7 := hR.2.2.1.2.2.1
  have h8 := hR.2.2.2.1.1
  have hk2 := hR.2.2.2.2.1.1
  have h12 := hR.2.2.2.2.1.2.1
  have h10 := hR.2.2.2.2.2.1
  have e1 : nI (5 * k) + 1 = nI (5 * k + 1) := nI_add _ 1
  have l1 : 5 * k + 1 < L := by omega
  obtain ⟨x1, hx1⟩ : ∃ v, xs (5 * k + 1) = v := ⟨_, rfl⟩
  have e2 : nI (5 * k) + 2 = nI (5 * k + 2) := nI_add _ 2
  have l2 : 5 * k + 2 < L := by omega
  obtain ⟨x2, hx2⟩ : ∃ v, xs (5 * k + 2) = v := ⟨_, rfl⟩
  have e3 : nI (5 * k) + 3 = nI (5 * k + 3) := nI_add _ 3
  have l3 : 5 * k + 3 < L := by omega
  obtain ⟨x3, hx3⟩ : ∃ v, xs (5 * k + 3) = v := ⟨_, rfl⟩
  have e4 : nI (5 * k) + 4 = nI (5 * k + 4) := nI_add _ 4
  have l4 : 5 * k + 4 < L := by omega
  obtain ⟨x4, hx4⟩ : ∃ v, xs (5 * k + 4) = v := ⟨_, rfl⟩
  by_cases hb : hs (nI (B 0)) x1 ∧ iss x2
  · obtain ⟨j, hj, rfl⟩ := hs_of hb.1
    obtain ⟨o, ho, rfl⟩ := iss_of hb.2
    have hv := mo_sn hSn (j := j) (by omega)
    refine hK 0 9999 886 _ _ _ ⟨_, _, e1, l1, hx1, _, _, e2, l2, hx2, _, _, _, _, _, _, _, _, _, _, _, _, _, _, _, _, _, _, _, _, _, _, _, _, _, _, _, _, _, rfl, rfl, fun h => absurd hb h, fun _ _ => ⟨_, _, e1, l1, hx1, _, _, e2, l2, hx2, _, _, _, _, _, _, _, _, _, _, _, _, _, _, _, _, _, _, _, _, _, _, _, _, _, _, B 0, rfl, rfl, rfl, h06, fun h => absurd hb h, fun i hi1 hi2 _ => ?_⟩⟩
    have hij := nI_inj (by omega) (by omega) hi1
    subst hij
    exact ⟨fun _ => E _ (INV_i (RT_seen hR1 hj ho) hz hY hT (by first | (simp only [nB_un]; done) | (simp only [nB_un]; rfl)) rfl rfl rfl rfl rfl rfl hS hM hG1), fun h => absurd hv h⟩
  · exact hK 0 9999 886 _ _ _ ⟨_, _, e1, l1, hx1, _, _, e2, l2, hx2, _, _, _, _, _, _, _, _, _, _, _, _, _, _, _, _, _, _, _, _, _, _, _, _, _, _, _, _, _, rfl, rfl, fun _ => ⟨_, _, e1, l1, hx1, _, _, e2, l2, hx2, _, _, _, _, _, _, _, _, _, _, _, _, _, _, _, _, _, _, _, _, _, _, _, _, _, _, B 0, rfl, rfl, rfl, h06, fun _ => ⟨fun _ => E _ (INV_i hR1 hz hY hT rfl rfl rf_bad rfl rfl rfl rfl hS hM hG1), fun h => absurd rfl h⟩, fun i hi1 hi2 h3 => absurd ⟨hi1 ▸ hs_in h06 hi2, h3⟩ hb⟩, fun h1 h2 => absurd ⟨h1, h2⟩ hb⟩
set_option maxRecDepth 100000 in
theorem cs_27 {Q : em_Q} {K : em_K} {L k : Nat} {xs : Nat → Int32} (hK : ∀ a b pc ls st hp, em_wp Q K (((T_L27 L xs).drop a).take b) pc ls st hp → K pc ls st hp) (E : ∀ hp, INV (k + 1) hp → K 1276 (LwS k) [] hp) (hk : k < 64) (hl : 5 * k + 5 ≤ L) {hp : em_H} (h : INV k hp) : K 919 (LwS k) [] hp := by
  refine INV_e (P := fun hp => K 919 (LwS k) [] hp) h (fun by9 tln tst ten mm fa9 fb9 rf im ki fi sd ma ea ca clt pe0 ki0 mi0 se0 we0 lea0 mst0 pa0 fi0 sd0 ev0 un0 ma0 ea0 co0 ca0 clt0 kp asd tx ty at9 st9 tk vl wd it mn sb my wem be9 rw fr G B C L9 S IM hR hz hY hT hS hM hG => ?_)
  have hG1 := IMG_mono hG (Nat.le_succ k)
  have hR1 := RT_mono hR (Nat.le_succ k)
  have h06 : B 0 ≤ 6 := hR.1.1
  have hC : CR B ki := RT_cr hR (by omega)
  have hgk := hC.1
  have hcal := RT_cal hR
  obtain ⟨hN, hSn⟩ := nw_ok2 hR.2.1
  have h5 := hR.2.2.1.1
  have h6 := hR.2.2.1.2.1
  have h7 := hR.2.2.1.2.2.1
  have h8 := hR.2.2.2.1.1
  have hk2 := hR.2.2.2.2.1.1
  have h12 := hR.2.2.2.2.1.2.1
  have h10 := hR.2.2.2.2.2.1
  have e1 : nI (5 * k) + 1 = nI (5 * k + 1) := nI_add _ 1
  have l1 : 5 * k + 1 < L := by omega
  obtain ⟨x1, hx1⟩ : ∃ v, xs (5 * k + 1) = v := ⟨_, rfl⟩
  have e2 : nI (5 * k) + 2 = nI (5 * k + 2) := nI_add _ 2
  have l2 : 5 * k + 2 < L := by omega
  obtain ⟨x2, hx2⟩ : ∃ v, xs (5 * k + 2) = v := ⟨_, rfl⟩
  have e3 : nI (5 * k) + 3 = nI (5 * k + 3) := nI_add _ 3
  have l3 : 5 * k + 3 < L := by omega
  obtain ⟨x3, hx3⟩ : ∃ v, xs (5 * k + 3) = v := ⟨_, rfl⟩
  have e4 : nI (5 * k) + 4 = nI (5 * k + 4) := nI_add _ 4
  have l4 : 5 * k + 4 < L := by omega
  obtain ⟨x4, hx4⟩ : ∃ v, xs (5 * k + 4) = v := ⟨_, rfl⟩
  have h20 : ∀ p, p < 6 → B (20 + p) < 1024 := fun p hp => (hR.2.1.1 p hp).2.1
  have hsw := swO_congr (n := B 0) (fun a b hab hbn => sw_pm hC h20 (RT_z hR) hab hbn) (B 0) (Nat.le_refl _)
  have hv0 := congrArg (fun z : Nat × Option Nat => nI z.1) hsw
  have hv1 := congrArg (fun z : Nat × Option Nat => oI z.2) hsw
  refine hK 0 9999 919 _ _ _ ⟨_, _, e1, l1, hx1, _, _, _, _, _, _, _, _, _, _, _, _, _, _, _, _, _, _, _, _, _, _, _, _, _, _, _, _, B 0, rfl, rfl, rfl, h06, fun a b => ?_, fun a => ?_, fun a => ?_⟩
  · exact ⟨_, _, e1, l1, hx1, _, _, _, _, _, _, _, _, _, _, _, _, _, _, _, _, _, _, _, _, _, _, _, _, _, rfl, rfl, hgk, hS, h20, fun _ _ => ⟨fun _ => E _ (INV_i hR1 hz hY hT rfl rfl rf_bad10 rfl rfl rfl rfl hS hM hG1), fun h => absurd rfl h⟩, fun _ _ h => absurd h a, fun _ _ h => absurd h b⟩
  · exact ⟨_, _, e1, l1, hx1, _, _, _, _, _, _, _, _, _, _, _, _, _, _, _, _, _, _, _, _, _, _, _, _, _, rfl, rfl, hgk, hS, h20, fun h => absurd a h, fun S2 hS2 _ => ⟨fun _ => E _ (INV_i hR1 hz hY hT rfl rfl rfl rfl rfl rfl rfl hS2 hM hG1), fun h => absurd hv0 h⟩, fun _ _ h => absurd (h.symm.trans a) (by decide)⟩
  · exact ⟨_, _, e1, l1, hx1, _, _, _, _, _, _, _, _, _, _, _, _, _, _, _, _, _, _, _, _, _, _, _, _, _, rfl, rfl, hgk, hS, h20, fun _ h => absurd a h, fun _ _ h => absurd (h.symm.trans a) (by decide), fun S2 hS2 _ => ⟨fun _ => E _ (INV_i hR1 hz hY hT rfl rfl rfl rfl rfl rfl rfl hS2 hM hG1), fun h => absurd hv1 h⟩⟩
set_option maxRecDepth 100000 in
theorem cs_28 {Q : em_Q} {K : em_K} {L k : Nat} {xs : Nat → Int32} (hK : ∀ a b pc ls st hp, em_wp Q K (((T_L28 L xs).drop a).take b) pc ls st hp → K pc ls st hp) (E : ∀ hp, INV (k + 1) hp → K 1276 (LwS k) [] hp) (hk : k < 64) (hl : 5 * k + 5 ≤ L) {hp : em_H} (h : INV k hp) : K 942 (LwS k) [] hp := by
  refine INV_e (P := fun hp => K 942 (LwS k) [] hp) h (fun by9 tln tst ten mm fa9 fb9 rf im ki fi sd ma ea ca clt pe0 ki0 mi0 se0 we0 lea0 mst0 pa0 fi0 sd0 ev0 un0 ma0 ea0 co0 ca0 clt0 kp asd tx ty at9 st9 tk vl wd it mn sb my wem be9 rw fr G B C L9 S IM hR hz hY hT hS hM hG => ?_)
  have hG1 := IMG_mono hG (Nat.le_succ k)
  have hR1 := RT_mono hR (Nat.le_succ k)
  have h06 : B 0 ≤ 6 := hR.1.1
  have hC : CR B ki := RT_cr hR (by omega)
  have hgk := hC.1
  have hcal := RT_cal hR
  obtain ⟨hN, hSn⟩ := nw_ok2 hR.2.1
  have h5 := hR.2.2.1.1
  have h6 := hR.2.2.1.2.1
  have h7 := hR.2.2.1.2.2.1
  have h8 := hR.2.2.2.1.1
  have hk2 := hR.2.2.2.2.1.1
  have h12 := hR.2.2.2.2.1.2.1
  have h10 := hR.2.2.2.2.2.1
  have e1 : nI (5 * k) + 1 = nI (5 * k + 1) := nI_add _ 1
  have l1 : 5 * k + 1 < L := by omega
  obtain ⟨x1, hx1⟩ : ∃ v, xs (5 * k + 1) = v := ⟨_, rfl⟩
  have e2 : nI (5 * k) + 2 = nI (5 * k + 2) := nI_add _ 2
  have l2 : 5 * k + 2 < L := by omega
  obtain ⟨x2, hx2⟩ : ∃ v, xs (5 * k + 2) = v := ⟨_, rfl⟩
  have e3 : nI (5 * k) + 3 = nI (5 * k + 3) := nI_add _ 3
  have l3 : 5 * k + 3 < L := by omega
  obtain ⟨x3, hx3⟩ : ∃ v, xs (5 * k + 3) = v := ⟨_, rfl⟩
  have e4 : nI (5 * k) + 4 = nI (5 * k + 4) := nI_add _ 4
  have l4 : 5 * k + 4 < L := by omega
  obtain ⟨x4, hx4⟩ : ∃ v, xs (5 * k + 4) = v := ⟨_, rfl⟩
  by_cases hb : (-1) ≤ x1
  · by_cases hw : x1 = -1
    · subst hw
      have hv : tbm (B 0) ki (nI (B 5)) (nI (B 6)) (nI (B 7)) (B 0 - 1) 1 0 (pm (nw B)) = mssI B (B 0) (bsS B (B 0) (B 0 ^ (B 0 - 1))) := by
        rcases Nat.eq_zero_or_pos (B 0) with z | z
        · rw [z]; rfl
        · obtain ⟨d, hd, hq, -⟩ := seats_pm hC z
          rw [hd, hq]; rfl
      have hlt : (-1 : Int32) < nI (B 0) := Int32.lt_of_lt_of_le (by decide : (-1 : Int32) < 0) (nI_pos' (by omega))
      refine hK 0 9999 942 _ _ _ ⟨_, _, e1, l1, hx1, _, _, _, _, _, _, _, _, _, _, _, _, _, _, _, _, _, _, _, _, _, _, _, _, _, _, _, _, B 0, rfl, rfl, rfl, h06, fun h => absurd hb h, fun _ h => absurd hlt h, fun _ => ?_, fun j a a2 => absurd a.symm (nI_m1 (by omega))⟩
      exact ⟨_, _, e1, l1, hx1, _, _, _, _, _, _, _, _, _, _, _, _, _, _, _, _, _, _, _, _, _, _, _, _, _, rfl, rfl, hgk, hS, fun h => absurd hb h, fun S2 we2 be2 hS2 => ⟨fun _ => ⟨fun _ => E _ (INV_i hR1 hz hY hT rfl rfl rfl rfl rfl rfl rfl hS2 hM hG1), fun h => absurd hv h⟩, fun _ h => absurd rfl h, fun j a a2 => absurd a.symm (nI_m1 (by omega))⟩⟩
    · obtain ⟨j, hj, rfl⟩ := nI_of (ge0_of hb hw)
      by_cases hjn : j < B 0
      · refine hK 0 9999 942 _ _ _ ⟨_, _, e1, l1, hx1, _, _, _, _, _, _, _, _, _, _, _, _, _, _, _, _, _, _, _, _, _, _, _, _, _, _, _, _, B 0, rfl, rfl, rfl, h06, fun h => absurd hb h, fun _ h => absurd (nI_lt hjn (by omega)) h, fun h => absurd h hw, fun j2 a a2 => ?_⟩
        have q1 := (nI_eq hj (by omega)).mp a
        subst q1
        obtain ⟨d, hd, -, hq⟩ := seats_pm hC (by omega)
        have hv := congrArg (fun z => nI z) (hq j hjn)
        refine ⟨_, _, e1, l1, hx1, _, _, _, _, _, _, _, _, _, _, _, _, _, _, _, _, _, _, _, _, _, _, _, _, _, rfl, rfl, hgk, hS, fun h => absurd hb h, fun S2 we2 be2 hS2 => ⟨fun h => absurd h hw, fun _ _ h => absurd h (nI_ge hjn (by omega)), fun j2 a a2 => ⟨d, hd, ?_⟩⟩⟩
        have q1 := (nI_eq hj (by omega)).mp a
        subst q1
        exact ⟨fun _ => E _ (INV_i hR1 hz hY hT rfl rfl rfl rfl rfl rfl rfl hS2 hM hG1), fun h => absurd hv h⟩
      · have hnl : ¬ nI j < nI (B 0) := nI_nlt (by omega) hj
        have hge : nI (B 0) ≤ nI j := nI_le (by omega) hj
        have hno : ∀ j2, nI j = nI j2 → j2 < B 0 → False := fun j2 a a2 => by
          have q1 := (nI_eq hj (by omega)).mp a
          omega
        exact hK 0 9999 942 _ _ _ ⟨_, _, e1, l1, hx1, _, _, _, _, _, _, _, _, _, _, _, _, _, _, _, _, _, _, _, _, _, _, _, _, _, _, _, _, B 0, rfl, rfl, rfl, h06, fun h => absurd hb h, fun _ _ => ⟨_, _, e1, l1, hx1, _, _, _, _, _, _, _, _, _, _, _, _, _, _, _, _, _, _, _, _, _, _, _, _, _, rfl, rfl, hgk, hS, fun h => absurd hb h, fun S2 we2 be2 hS2 => ⟨fun h => absurd h hw, fun _ _ _ => ⟨fun _ => E _ (INV_i hR1 hz hY hT rfl rfl rfl rfl rfl rfl rfl hS2 hM hG1), fun h => absurd rfl h⟩, fun j2 a a2 => (hno j2 a a2).elim⟩⟩, fun h => absurd h hw, fun j2 a a2 => (hno j2 a a2).elim⟩
  · have hm : ¬ x1 = -1 := fun h => hb (by rw [h]; decide)
    exact hK 0 9999 942 _ _ _ ⟨_, _, e1, l1, hx1, _, _, _, _, _, _, _, _, _, _, _, _, _, _, _, _, _, _, _, _, _, _, _, _, _, _, _, _, B 0, rfl, rfl, rfl, h06, fun _ => ⟨_, _, e1, l1, hx1, _, _, _, _, _, _, _, _, _, _, _, _, _, _, _, _, _, _, _, _, _, _, _, _, _, rfl, rfl, hgk, hS, fun _ => ⟨fun _ => E _ (INV_i hR1 hz hY hT rfl rfl rf_bad10 rfl rfl rfl rfl hS hM hG1), fun h => absurd rfl h⟩, fun S2 we2 be2 hS2 => ⟨fun h => absurd h hm, fun h => absurd h hb, fun j a a2 => absurd (a ▸ m1_le (by omega)) hb⟩⟩, fun h => absurd h hb, fun h => absurd h hm, fun j a a2 => absurd (a ▸ m1_le (by omega)) hb⟩
