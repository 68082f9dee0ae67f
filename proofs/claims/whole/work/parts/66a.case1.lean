/-! ===== the law's cases ===== -/
set_option maxRecDepth 100000 in
theorem cs_0 {Q : em_Q} {K : em_K} {L k : Nat} {xs : Nat → Int32} (hK : ∀ a b pc ls st hp, em_wp Q K (((T_L0 L xs).drop a).take b) pc ls st hp → K pc ls st hp) (E : ∀ hp, INV (k + 1) hp → K 1276 (LwS k) [] hp) (hk : k < 64) (hl : 5 * k + 5 ≤ L) {hp : em_H} (h : INV k hp) : K 208 (LwS k) [] hp := by
  refine INV_e (P := fun hp => K 208 (LwS k) [] hp) h (fun by9 tln tst ten mm fa9 fb9 rf im ki fi sd ma ea ca clt pe0 ki0 mi0 se0 we0 lea0 mst0 pa0 fi0 sd0 ev0 un0 ma0 ea0 co0 ca0 clt0 kp asd tx ty at9 st9 tk vl wd it mn sb my wem be9 rw fr G B C L9 S IM hR hz hY hT hS hM hG => ?_)
  have hG1 := IMG_mono hG (Nat.le_succ k)
  have hR1 := RT_mono hR (Nat.le_succ k)
  have h06 : B 0 ≤ 6 := hR.1.1
  have hC : CR B ki := RT_cr hR (by omega)
  have hgk := hC.1
  have hcal := RT_cal hR
  obtain ⟨hN, hSn⟩ := nw_ok2 hR.2.1
  have h5 := hR.2.2.1.1
  have h6 := hR.2.2.1.2.1
  have h7 := hR.2.2.1.2.2.1
  have h8 := hR.2.2.2.1.1
  have hk2 := hR.2.2.2.2.1.1
  have h12 := hR.2.2.2.2.1.2.1
  have h10 := hR.2.2.2.2.2.1
  have e1 : nI (5 * k) + 1 = nI (5 * k + 1) := nI_add _ 1
  have l1 : 5 * k + 1 < L := by omega
  obtain ⟨x1, hx1⟩ : ∃ v, xs (5 * k + 1) = v := ⟨_, rfl⟩
  have e2 : nI (5 * k) + 2 = nI (5 * k + 2) := nI_add _ 2
  have l2 : 5 * k + 2 < L := by omega
  obtain ⟨x2, hx2⟩ : ∃ v, xs (5 * k + 2) = v := ⟨_, rfl⟩
  have e3 : nI (5 * k) + 3 = nI (5 * k + 3) := nI_add _ 3
  have l3 : 5 * k + 3 < L := by omega
  obtain ⟨x3, hx3⟩ : ∃ v, xs (5 * k + 3) = v := ⟨_, rfl⟩
  have e4 : nI (5 * k) + 4 = nI (5 * k + 4) := nI_add _ 4
  have l4 : 5 * k + 4 < L := by omega
  obtain ⟨x4, hx4⟩ : ∃ v, xs (5 * k + 4) = v := ⟨_, rfl⟩
  refine hK 0 9999 208 _ _ _ ⟨_, _, e1, l1, hx1, _, _, e2, l2, hx2, _, _, _, _, _, _, _, _, _, _, _, _, _, _, _, _, _, _, _, _, _, _, _, _, _, _, _, _, _, B 0, rfl, rfl, rfl, h06, fun hb => ?_, fun h1 h2 h6 => ?_, fun h1 h2 h6 => ?_⟩
  · exact ⟨_, _, e1, l1, hx1, _, _, e2, l2, hx2, _, _, _, _, _, _, _, _, _, _, _, _, _, _, _, _, _, _, _, _, _, _, _, _, _, _, B 0, rfl, rfl, rfl, h06, fun _ => ⟨fun _ => E _ (INV_i hR1 hz hY hT rfl rfl rf_bad rfl rfl rfl rfl hS hM hG1), fun h => absurd rfl h⟩, fun h1 h2 => absurd ⟨h1, h2⟩ hb, fun h1 h2 => absurd ⟨h1, h2⟩ hb⟩
  · exact ⟨_, _, e1, l1, hx1, _, _, e2, l2, hx2, _, _, _, _, _, _, _, _, _, _, _, _, _, _, _, _, _, _, _, _, _, _, _, _, _, _, B 0, rfl, rfl, rfl, h06, fun hb => absurd ⟨h1, h2⟩ hb, fun _ _ _ => ⟨fun _ => E _ (INV_i hR1 hz hY hT rfl rfl rf_full rfl rfl rfl rfl hS hM hG1), fun h => absurd rfl h⟩, fun _ _ z => absurd h6 (by omega)⟩
  · obtain ⟨kk, hkk, rfl⟩ := isk_of h1
    obtain ⟨oo, hoo, rfl⟩ := iss_of h2
    exact ⟨_, _, e1, l1, hx1, _, _, e2, l2, hx2, _, _, _, _, _, _, _, _, _, _, _, _, _, _, _, _, _, _, _, _, _, _, _, _, _, _, B 0, rfl, rfl, rfl, h06, fun hb => absurd ⟨h1, h2⟩ hb, fun _ _ z => absurd h6 (by omega), fun _ _ _ => ⟨fun _ => E _ (INV_i (RT_person hR1 hkk hoo h6) hz hY hT (by first | (simp only [nB_un]; done) | (simp only [nB_un]; rfl)) rfl rfl rfl rfl rfl rfl hS hM hG1), fun h => absurd rfl h⟩⟩
set_option maxRecDepth 100000 in
theorem cs_1 {Q : em_Q} {K : em_K} {L k : Nat} {xs : Nat → Int32} (hK : ∀ a b pc ls st hp, em_wp Q K (((T_L1 L xs).drop a).take b) pc ls st hp → K pc ls st hp) (E : ∀ hp, INV (k + 1) hp → K 1276 (LwS k) [] hp) (hk : k < 64) (hl : 5 * k + 5 ≤ L) {hp : em_H} (h : INV k hp) : K 241 (LwS k) [] hp := by
  refine INV_e (P := fun hp => K 241 (LwS k) [] hp) h (fun by9 tln tst ten mm fa9 fb9 rf im ki fi sd ma ea ca clt pe0 ki0 mi0 se0 we0 lea0 mst0 pa0 fi0 sd0 ev0 un0 ma0 ea0 co0 ca0 clt0 kp asd tx ty at9 st9 tk vl wd it mn sb my wem be9 rw fr G B C L9 S IM hR hz hY hT hS hM hG => ?_)
  have hG1 := IMG_mono hG (Nat.le_succ k)
  have hR1 := RT_mono hR (Nat.le_succ k)
  have h06 : B 0 ≤ 6 := hR.1.1
  have hC : CR B ki := RT_cr hR (by omega)
  have hgk := hC.1
  have hcal := RT_cal hR
  obtain ⟨hN, hSn⟩ := nw_ok2 hR.2.1
  have h5 := hR.2.2.1.1
  have h6 := hR.2.2.1.2.1
  have h7 := hR.2.2.1.2.2.1
  have h8 := hR.2.2.2.1.1
  have hk2 := hR.2.2.2.2.1.1
  have h12 := hR.2.2.2.2.1.2.1
  have h10 := hR.2.2.2.2.2.1
  have e1 : nI (5 * k) + 1 = nI (5 * k + 1) := nI_add _ 1
  have l1 : 5 * k + 1 < L := by omega
  obtain ⟨x1, hx1⟩ : ∃ v, xs (5 * k + 1) = v := ⟨_, rfl⟩
  have e2 : nI (5 * k) + 2 = nI (5 * k + 2) := nI_add _ 2
  have l2 : 5 * k + 2 < L := by omega
  obtain ⟨x2, hx2⟩ : ∃ v, xs (5 * k + 2) = v := ⟨_, rfl⟩
  have e3 : nI (5 * k) + 3 = nI (5 * k + 3) := nI_add _ 3
  have l3 : 5 * k + 3 < L := by omega
  obtain ⟨x3, hx3⟩ : ∃ v, xs (5 * k + 3) = v := ⟨_, rfl⟩
  have e4 : nI (5 * k) + 4 = nI (5 * k + 4) := nI_add _ 4
  have l4 : 5 * k + 4 < L := by omega
  obtain ⟨x4, hx4⟩ : ∃ v, xs (5 * k + 4) = v := ⟨_, rfl⟩
  by_cases hb : hs (nI (B 0)) x1 ∧ iss x2
  · obtain ⟨j, hj, rfl⟩ := hs_of hb.1
    obtain ⟨o, ho, rfl⟩ := iss_of hb.2
    have hv := mo_at hN (j := j) (by omega)
    refine hK 0 9999 241 _ _ _ ⟨_, _, e1, l1, hx1, _, _, e2, l2, hx2, _, _, _, _, _, _, _, _, _, _, _, _, _, _, _, _, _, _, _, _, _, _, _, _, _, _, _, _, _, rfl, rfl, fun h => absurd hb h, fun _ _ => ⟨_, _, e1, l1, hx1, _, _, e2, l2, hx2, _, _, _, _, _, _, _, _, _, _, _, _, _, _, _, _, _, _, _, _, _, _, _, _, _, _, B 0, rfl, rfl, rfl, h06, fun h => absurd hb h, fun i hi1 hi2 _ => ?_⟩⟩
    have hij := nI_inj (by omega) (by omega) hi1
    subst hij
    exact ⟨fun _ => E _ (INV_i (RT_thinks hR1 hj ho) hz hY hT (by first | (simp only [nB_un]; done) | (simp only [nB_un]; rfl)) rfl rfl rfl rfl rfl rfl hS hM hG1), fun h => absurd hv h⟩
  · exact hK 0 9999 241 _ _ _ ⟨_, _, e1, l1, hx1, _, _, e2, l2, hx2, _, _, _, _, _, _, _, _, _, _, _, _, _, _, _, _, _, _, _, _, _, _, _, _, _, _, _, _, _, rfl, rfl, fun _ => ⟨_, _, e1, l1, hx1, _, _, e2, l2, hx2, _, _, _, _, _, _, _, _, _, _, _, _, _, _, _, _, _, _, _, _, _, _, _, _, _, _, B 0, rfl, rfl, rfl, h06, fun _ => ⟨fun _ => E _ (INV_i hR1 hz hY hT rfl rfl rf_bad rfl rfl rfl rfl hS hM hG1), fun h => absurd rfl h⟩, fun i hi1 hi2 h3 => absurd ⟨hi1 ▸ hs_in h06 hi2, h3⟩ hb⟩, fun h1 h2 => absurd ⟨h1, h2⟩ hb⟩
set_option maxRecDepth 100000 in
theorem cs_2 {Q : em_Q} {K : em_K} {L k : Nat} {xs : Nat → Int32} (hK : ∀ a b pc ls st hp, em_wp Q K (((T_L2 L xs).drop a).take b) pc ls st hp → K pc ls st hp) (E : ∀ hp, INV (k + 1) hp → K 1276 (LwS k) [] hp) (hk : k < 64) (hl : 5 * k + 5 ≤ L) {hp : em_H} (h : INV k hp) : K 274 (LwS k) [] hp := by
  refine INV_e (P := fun hp => K 274 (LwS k) [] hp) h (fun by9 tln tst ten mm fa9 fb9 rf im ki fi sd ma ea ca clt pe0 ki0 mi0 se0 we0 lea0 mst0 pa0 fi0 sd0 ev0 un0 ma0 ea0 co0 ca0 clt0 kp asd tx ty at9 st9 tk vl wd it mn sb my wem be9 rw fr G B C L9 S IM hR hz hY hT hS hM hG => ?_)
  have hG1 := IMG_mono hG (Nat.le_succ k)
  have hR1 := RT_mono hR (Nat.le_succ k)
  have h06 : B 0 ≤ 6 := hR.1.1
  have hC : CR B ki := RT_cr hR (by omega)
  have hgk := hC.1
  have hcal := RT_cal hR
  obtain ⟨hN, hSn⟩ := nw_ok2 hR.2.1
  have h5 := hR.2.2.1.1
  have h6 := hR.2.2.1.2.1
  have h7 := hR.2.2.1.2.2.1
  have h8 := hR.2.2.2.1.1
  have hk2 := hR.2.2.2.2.1.1
  have h12 := hR.2.2.2.2.1.2.1
  have h10 := hR.2.2.2.2.2.1
  have e1 : nI (5 * k) + 1 = nI (5 * k + 1) := nI_add _ 1
  have l1 : 5 * k + 1 < L := by omega
  obtain ⟨x1, hx1⟩ : ∃ v, xs (5 * k + 1) = v := ⟨_, rfl⟩
  have e2 : nI (5 * k) + 2 = nI (5 * k + 2) := nI_add _ 2
  have l2 : 5 * k + 2 < L := by omega
  obtain ⟨x2, hx2⟩ : ∃ v, xs (5 * k + 2) = v := ⟨_, rfl⟩
  have e3 : nI (5 * k) + 3 = nI (5 * k + 3) := nI_add _ 3
  have l3 : 5 * k + 3 < L := by omega
  obtain ⟨x3, hx3⟩ : ∃ v, xs (5 * k + 3) = v := ⟨_, rfl⟩
  have e4 : nI (5 * k) + 4 = nI (5 * k + 4) := nI_add _ 4
  have l4 : 5 * k + 4 < L := by omega
  obtain ⟨x4, hx4⟩ : ∃ v, xs (5 * k + 4) = v := ⟨_, rfl⟩
  by_cases hb : hs (nI (B 0)) x1 ∧ isk x2
  · obtain ⟨j, hj, rfl⟩ := hs_of hb.1
    obtain ⟨o, ho, rfl⟩ := isk_of hb.2
    have hv : ki j = nI (B (8 + j)) := hR.1.2.2.2 j hj
    refine hK 0 9999 274 _ _ _ ⟨_, _, e1, l1, hx1, _, _, e2, l2, hx2, _, _, _, _, _, _, _, _, _, _, _, _, _, _, _, _, _, _, _, _, _, _, _, _, _, _, _, _, _, B 0, rfl, rfl, rfl, h06, fun h => absurd hb h, fun i hi1 hi2 _ => ⟨_, _, e1, l1, hx1, _, _, e2, l2, hx2, _, _, _, _, _, _, _, _, _, _, _, _, _, _, _, _, _, _, _, _, _, _, _, _, _, _, B 0, rfl, rfl, rfl, h06, fun h => absurd hb h, fun i2 hi3 hi4 _ => ?_⟩⟩
    have hij := nI_inj (by omega) (by omega) hi1
    subst hij
    have hij := nI_inj (by omega) (by omega) hi3
    subst hij
    exact ⟨fun _ => E _ (INV_i (RT_become hR1 hj ho) hz hY hT (by first | (simp only [nB_un]; done) | (simp only [nB_un]; rfl)) rfl rfl rfl rfl rfl rfl hS hM hG1), fun h => absurd hv h⟩
  · exact hK 0 9999 274 _ _ _ ⟨_, _, e1, l1, hx1, _, _, e2, l2, hx2, _, _, _, _, _, _, _, _, _, _, _, _, _, _, _, _, _, _, _, _, _, _, _, _, _, _, _, _, _, B 0, rfl, rfl, rfl, h06, fun _ => ⟨_, _, e1, l1, hx1, _, _, e2, l2, hx2, _, _, _, _, _, _, _, _, _, _, _, _, _, _, _, _, _, _, _, _, _, _, _, _, _, _, B 0, rfl, rfl, rfl, h06, fun _ => ⟨fun _ => E _ (INV_i hR1 hz hY hT rfl rfl rf_bad rfl rfl rfl rfl hS hM hG1), fun h => absurd rfl h⟩, fun i hi1 hi2 h3 => absurd ⟨hi1 ▸ hs_in h06 hi2, h3⟩ hb⟩, fun i hi1 hi2 h3 => absurd ⟨hi1 ▸ hs_in h06 hi2, h3⟩ hb⟩
set_option maxRecDepth 100000 in
theorem cs_3 {Q : em_Q} {K : em_K} {L k : Nat} {xs : Nat → Int32} (hK : ∀ a b pc ls st hp, em_wp Q K (((T_L3 L xs).drop a).take b) pc ls st hp → K pc ls st hp) (E : ∀ hp, INV (k + 1) hp → K 1276 (LwS k) [] hp) (hk : k < 64) (hl : 5 * k + 5 ≤ L) {hp : em_H} (h : INV k hp) : K 307 (LwS k) [] hp := by
  refine INV_e (P := fun hp => K 307 (LwS k) [] hp) h (fun by9 tln tst ten mm fa9 fb9 rf im ki fi sd ma ea ca clt pe0 ki0 mi0 se0 we0 lea0 mst0 pa0 fi0 sd0 ev0 un0 ma0 ea0 co0 ca0 clt0 kp asd tx ty at9 st9 tk vl wd it mn sb my wem be9 rw fr G B C L9 S IM hR hz hY hT hS hM hG => ?_)
  have hG1 := IMG_mono hG (Nat.le_succ k)
  have hR1 := RT_mono hR (Nat.le_succ k)
  have h06 : B 0 ≤ 6 := hR.1.1
  have hC : CR B ki := RT_cr hR (by omega)
  have hgk := hC.1
  have hcal := RT_cal hR
  obtain ⟨hN, hSn⟩ := nw_ok2 hR.2.1
  have h5 := hR.2.2.1.1
  have h6 := hR.2.2.1.2.1
  have h7 := hR.2.2.1.2.2.1
  have h8 := hR.2.2.2.1.1
  have hk2 := hR.2.2.2.2.1.1
  have h12 := hR.2.2.2.2.1.2.1
  have h10 := hR.2.2.2.2.2.1
  have e1 : nI (5 * k) + 1 = nI (5 * k + 1) := nI_add _ 1
  have l1 : 5 * k + 1 < L := by omega
  obtain ⟨x1, hx1⟩ : ∃ v, xs (5 * k + 1) = v := ⟨_, rfl⟩
  have e2 : nI (5 * k) + 2 = nI (5 * k + 2) := nI_add _ 2
  have l2 : 5 * k + 2 < L := by omega
  obtain ⟨x2, hx2⟩ : ∃ v, xs (5 * k + 2) = v := ⟨_, rfl⟩
  have e3 : nI (5 * k) + 3 = nI (5 * k + 3) := nI_add _ 3
  have l3 : 5 * k + 3 < L := by omega
  obtain ⟨x3, hx3⟩ : ∃ v, xs (5 * k + 3) = v := ⟨_, rfl⟩
  have e4 : nI (5 * k) + 4 = nI (5 * k + 4) := nI_add _ 4
  have l4 : 5 * k + 4 < L := by omega
  obtain ⟨x4, hx4⟩ : ∃ v, xs (5 * k + 4) = v := ⟨_, rfl⟩
  refine hK 0 9999 307 _ _ _ ⟨_, _, e1, l1, hx1, _, _, _, _, _, _, _, _, _, _, _, _, _, _, _, _, _, _, _, _, _, _, _, _, _, _, _, _, B 5, rfl, rfl, rfl, by omega, fun hb => ?_, fun h1 => ?_⟩
  · exact ⟨_, _, e1, l1, hx1, _, _, _, _, _, _, _, _, _, _, _, _, _, _, _, _, _, _, _, _, _, _, _, _, _, rfl, rfl, fun _ => ⟨fun _ => E _ (INV_i hR1 hz hY hT rfl rfl rf_bad rfl rfl rfl rfl hS hM hG1), fun h => absurd rfl h⟩, fun h1 => absurd h1 hb⟩
  · obtain ⟨o, ho, rfl⟩ := iss_of h1
    exact ⟨_, _, e1, l1, hx1, _, _, _, _, _, _, _, _, _, _, _, _, _, _, _, _, _, _, _, _, _, _, _, _, _, rfl, rfl, fun h => absurd h1 h, fun _ => ⟨fun _ => E _ (INV_i (RT_weigh hR1 ho) hz hY hT (by first | (simp only [nB_un]; done) | (simp only [nB_un]; rfl)) rfl rfl rfl rfl rfl rfl hS hM hG1), fun h => absurd rfl h⟩⟩
set_option maxRecDepth 100000 in
theorem cs_4 {Q : em_Q} {K : em_K} {L k : Nat} {xs : Nat → Int32} (hK : ∀ a b pc ls st hp, em_wp Q K (((T_L4 L xs).drop a).take b) pc ls st hp → K pc ls st hp) (E : ∀ hp, INV (k + 1) hp → K 1276 (LwS k) [] hp) (hk : k < 64) (hl : 5 * k + 5 ≤ L) {hp : em_H} (h : INV k hp) : K 330 (LwS k) [] hp := by
  refine INV_e (P := fun hp => K 330 (LwS k) [] hp) h (fun by9 tln tst ten mm fa9 fb9 rf im ki fi sd ma ea ca clt pe0 ki0 mi0 se0 we0 lea0 mst0 pa0 fi0 sd0 ev0 un0 ma0 ea0 co0 ca0 clt0 kp asd tx ty at9 st9 tk vl wd it mn sb my wem be9 rw fr G B C L9 S IM hR hz hY hT hS hM hG => ?_)
  have hG1 := IMG_mono hG (Nat.le_succ k)
  have hR1 := RT_mono hR (Nat.le_succ k)
  have h06 : B 0 ≤ 6 := hR.1.1
  have hC : CR B ki := RT_cr hR (by omega)
  have hgk := hC.1
  have hcal := RT_cal hR
  obtain ⟨hN, hSn⟩ := nw_ok2 hR.2.1
  have h5 := hR.2.2.1.1
  have h6 := hR.2.2.1.2.1
  have h7 := hR.2.2.1.2.2.1
  have h8 := hR.2.2.2.1.1
  have hk2 := hR.2.2.2.2.1.1
  have h12 := hR.2.2.2.2.1.2.1
  have h10 := hR.2.2.2.2.2.1
  have e1 : nI (5 * k) + 1 = nI (5 * k + 1) := nI_add _ 1
  have l1 : 5 * k + 1 < L := by omega
  obtain ⟨x1, hx1⟩ : ∃ v, xs (5 * k + 1) = v := ⟨_, rfl⟩
  have e2 : nI (5 * k) + 2 = nI (5 * k + 2) := nI_add _ 2
  have l2 : 5 * k + 2 < L := by omega
  obtain ⟨x2, hx2⟩ : ∃ v, xs (5 * k + 2) = v := ⟨_, rfl⟩
  have e3 : nI (5 * k) + 3 = nI (5 * k + 3) := nI_add _ 3
  have l3 : 5 * k + 3 < L := by omega
  obtain ⟨x3, hx3⟩ : ∃ v, xs (5 * k + 3) = v := ⟨_, rfl⟩
  have e4 : nI (5 * k) + 4 = nI (5 * k + 4) := nI_add _ 4
  have l4 : 5 * k + 4 < L := by omega
  obtain ⟨x4, hx4⟩ : ∃ v, xs (5 * k + 4) = v := ⟨_, rfl⟩
  refine hK 0 9999 330 _ _ _ ⟨_, _, e1, l1, hx1, _, _, e2, l2, hx2, _, _, _, _, _, _, _, _, _, _, _, _, _, _, _, _, _, _, _, _, _, _, _, _, _, _, _, _, _, 100 * B 6 + B 7, rfl, rfl, by rw [show (100 : Int32) = nI 100 from rfl, pk_mul, nI_add], by omega, fun hb => ?_, fun h1 => ?_⟩
  · exact ⟨_, _, e1, l1, hx1, _, _, e2, l2, hx2, _, _, _, _, _, _, _, _, _, _, _, _, _, _, _, _, _, _, _, _, _, _, _, _, _, _, rfl, rfl, fun _ => ⟨fun _ => E _ (INV_i hR1 hz hY hT rfl rfl rf_bad rfl rfl rfl rfl hS hM hG1), fun h => absurd rfl h⟩, fun h1 => absurd h1 hb⟩
  · obtain ⟨i, j, hi, hj, hij, rfl, rfl⟩ := prm_of h1
    have hv : nI (100 * B 6 + B 7) = 100 * nB B 6 + nB B 7 := by unfold nB; rw [show (100 : Int32) = nI 100 from rfl, pk_mul, nI_add]
    exact ⟨_, _, e1, l1, hx1, _, _, e2, l2, hx2, _, _, _, _, _, _, _, _, _, _, _, _, _, _, _, _, _, _, _, _, _, _, _, _, _, _, rfl, rfl, fun h => absurd h1 h, fun _ => ⟨fun _ => E _ (INV_i (RT_permit hR1 hij hj) hz hY hT (by first | (simp only [nB_un]; done) | (simp only [nB_un]; rfl)) rfl rfl rfl rfl rfl rfl hS hM hG1), fun h => absurd hv h⟩⟩
set_option maxRecDepth 100000 in
theorem cs_5 {Q : em_Q} {K : em_K} {L k : Nat} {xs : Nat → Int32} (hK : ∀ a b pc ls st hp, em_wp Q K (((T_L5 L xs).drop a).take b) pc ls st hp → K pc ls st hp) (E : ∀ hp, INV (k + 1) hp → K 1276 (LwS k) [] hp) (hk : k < 64) (hl : 5 * k + 5 ≤ L) {hp : em_H} (h : INV k hp) : K 363 (LwS k) [] hp := by
  refine INV_e (P := fun hp => K 363 (LwS k) [] hp) h (fun by9 tln tst ten mm fa9 fb9 rf im ki fi sd ma ea ca clt pe0 ki0 mi0 se0 we0 lea0 mst0 pa0 fi0 sd0 ev0 un0 ma0 ea0 co0 ca0 clt0 kp asd tx ty at9 st9 tk vl wd it mn sb my wem be9 rw fr G B C L9 S IM hR hz hY hT hS hM hG => ?_)
  have hG1 := IMG_mono hG (Nat.le_succ k)
  have hR1 := RT_mono hR (Nat.le_succ k)
  have h06 : B 0 ≤ 6 := hR.1.1
  have hC : CR B ki := RT_cr hR (by omega)
  have hgk := hC.1
  have hcal := RT_cal hR
  obtain ⟨hN, hSn⟩ := nw_ok2 hR.2.1
  have h5 := hR.2.2.1.1
  have h6 := hR.2.2.1.2.1
  have h7 := hR.2.2.1.2.2.1
  have h8 := hR.2.2.2.1.1
  have hk2 := hR.2.2.2.2.1.1
  have h12 := hR.2.2.2.2.1.2.1
  have h10 := hR.2.2.2.2.2.1
  have e1 : nI (5 * k) + 1 = nI (5 * k + 1) := nI_add _ 1
  have l1 : 5 * k + 1 < L := by omega
  obtain ⟨x1, hx1⟩ : ∃ v, xs (5 * k + 1) = v := ⟨_, rfl⟩
  have e2 : nI (5 * k) + 2 = nI (5 * k + 2) := nI_add _ 2
  have l2 : 5 * k + 2 < L := by omega
  obtain ⟨x2, hx2⟩ : ∃ v, xs (5 * k + 2) = v := ⟨_, rfl⟩
  have e3 : nI (5 * k) + 3 = nI (5 * k + 3) := nI_add _ 3
  have l3 : 5 * k + 3 < L := by omega
  obtain ⟨x3, hx3⟩ : ∃ v, xs (5 * k + 3) = v := ⟨_, rfl⟩
  have e4 : nI (5 * k) + 4 = nI (5 * k + 4) := nI_add _ 4
  have l4 : 5 * k + 4 < L := by omega
  obtain ⟨x4, hx4⟩ : ∃ v, xs (5 * k + 4) = v := ⟨_, rfl⟩
  refine hK 0 9999 363 _ _ _ ⟨_, _, e1, l1, hx1, _, _, e2, l2, hx2, _, _, _, _, _, _, _, _, _, _, _, _, _, _, _, _, _, _, _, _, _, _, _, _, _, _, _, _, _, B 1, rfl, rfl, rfl, h8, fun hb => ?_, fun h1 h2 => ?_, fun h1 h2 => ?_⟩
  · exact ⟨_, _, e1, l1, hx1, _, _, e2, l2, hx2, _, _, _, _, _, _, _, _, _, _, _, _, _, _, _, _, _, _, _, _, _, _, _, _, _, _, B 0, B 1, rfl, rfl, rfl, h06, rfl, h8, fun _ => ⟨fun _ => E _ (INV_i hR1 hz hY hT rfl rfl rf_bad rfl rfl rfl rfl hS hM hG1), fun h => absurd rfl h⟩, fun h1 => absurd h1 hb, fun h1 => absurd h1 hb⟩
  · exact ⟨_, _, e1, l1, hx1, _, _, e2, l2, hx2, _, _, _, _, _, _, _, _, _, _, _, _, _, _, _, _, _, _, _, _, _, _, _, _, _, _, B 0, B 1, rfl, rfl, rfl, h06, rfl, h8, fun h => absurd h1 h, fun _ _ => ⟨fun _ => E _ (INV_i hR1 hz hY hT rfl rfl rf_full rfl rfl rfl rfl hS hM hG1), fun h => absurd rfl h⟩, fun _ h => absurd h2 (by omega)⟩
  · obtain ⟨i, j, hi, hj, hij, rfl, rfl⟩ := h2_of h1
    exact ⟨_, _, e1, l1, hx1, _, _, e2, l2, hx2, _, _, _, _, _, _, _, _, _, _, _, _, _, _, _, _, _, _, _, _, _, _, _, _, _, _, B 0, B 1, rfl, rfl, rfl, h06, rfl, h8, fun h => absurd h1 h, fun _ h => absurd h2 (by omega), fun _ _ => ⟨fun _ => E _ (INV_i (RT_talk hR1 hi hj hij h2) hz hY hT (by first | (simp only [nB_un]; done) | (simp only [nB_un]; rfl)) rfl rfl rfl rfl rfl rfl hS hM hG1), fun h => absurd rfl h⟩⟩
