/-! ===== the law's cases (5) ===== -/
set_option maxRecDepth 100000 in
theorem cs_29 {Q : em_Q} {K : em_K} {L k : Nat} {xs : Nat → Int32} (hK : ∀ a b pc ls st hp, em_wp Q K (((T_L29 L xs).drop a).take b) pc ls st hp → K pc ls st hp) (E : ∀ hp, INV (k + 1) hp → K 1276 (LwS k) [] hp) (hk : k < 64) (hl : 5 * k + 5 ≤ L) {hp : em_H} (h : INV k hp) : K 965 (LwS k) [] hp := by
  refine INV_e (P := fun hp => K 965 (LwS k) [] hp) h (fun by9 tln tst ten mm fa9 fb9 rf im ki fi sd ma ea ca clt pe0 ki0 mi0 se0 we0 lea0 mst0 pa0 fi0 sd0 ev0 un0 ma0 ea0 co0 ca0 clt0 kp asd tx ty at9 st9 tk vl wd it mn sb my wem be9 rw fr G B C L9 S IM hR hz hY hT hS hM hG => ?_)
  have hG1 := IMG_mono hG (Nat.le_succ k)
  have hR1 := RT_mono hR (Nat.le_succ k)
  have h06 : B 0 ≤ 6 := hR.1.1
  have hC : CR B ki := RT_cr hR (by omega)
  have hgk := hC.1
  have hcal := RT_cal hR
  obtain ⟨hN, hSn⟩ := nw_ok2 hR.2.1
  have h5 := hR.2.2.1.1
  have h6 := hR.2.2.1.2.1
  have h7 := hR.2.2.1.2.2.1
  have h8 := hR.2.2.2.1.1
  have hk2 := hR.2.2.2.2.1.1
  have h12 := hR.2.2.2.2.1.2.1
  have h10 := hR.2.2.2.2.2.1
  have e1 : nI (5 * k) + 1 = nI (5 * k + 1) := nI_add _ 1
  have l1 : 5 * k + 1 < L := by omega
  obtain ⟨x1, hx1⟩ : ∃ v, xs (5 * k + 1) = v := ⟨_, rfl⟩
  have e2 : nI (5 * k) + 2 = nI (5 * k + 2) := nI_add _ 2
  have l2 : 5 * k + 2 < L := by omega
  obtain ⟨x2, hx2⟩ : ∃ v, xs (5 * k + 2) = v := ⟨_, rfl⟩
  have e3 : nI (5 * k) + 3 = nI (5 * k + 3) := nI_add _ 3
  have l3 : 5 * k + 3 < L := by omega
  obtain ⟨x3, hx3⟩ : ∃ v, xs (5 * k + 3) = v := ⟨_, rfl⟩
  have e4 : nI (5 * k) + 4 = nI (5 * k + 4) := nI_add _ 4
  have l4 : 5 * k + 4 < L := by omega
  obtain ⟨x4, hx4⟩ : ∃ v, xs (5 * k + 4) = v := ⟨_, rfl⟩
  by_cases hx0 : x2 = 0
  · refine hK 0 9999 965 _ _ _ ⟨_, _, e1, l1, hx1, _, _, e2, l2, hx2, fun _ => ?_, fun h => absurd hx0 h⟩
    refine ⟨_, _, _, _, _, _, _, _, _, _, _, _, _, _, _, _, _, _, _, _, _, _, _, _, _, _, _, _, 0, B 4, rfl, rfl, Or.inl rfl, rfl, h10, fun hb => ?_, fun h1 h2 => ?_, fun h1 h2 => ?_⟩
    · exact ⟨_, _, e1, l1, hx1, _, _, e2, l2, hx2, fun _ => ⟨_, _, _, _, _, _, _, _, _, _, _, _, _, _, _, _, _, _, _, _, _, _, _, _, _, 0, B 4, rfl, rfl, Or.inl rfl, rfl, h10, fun _ => ⟨fun _ => E _ (INV_i hR1 hz hY hT rfl rfl rf_bad rfl rfl rfl rfl hS hM hG1), fun h => absurd rfl h⟩, fun h => absurd h hb, fun h => absurd h hb⟩, fun h => absurd hx0 h⟩
    · exact ⟨_, _, e1, l1, hx1, _, _, e2, l2, hx2, fun _ => ⟨_, _, _, _, _, _, _, _, _, _, _, _, _, _, _, _, _, _, _, _, _, _, _, _, _, 0, B 4, rfl, rfl, Or.inl rfl, rfl, h10, fun h => absurd h1 h, fun _ _ => ⟨fun _ => E _ (INV_i hR1 hz hY hT rfl rfl rf_full rfl rfl rfl rfl hS hM hG1), fun h => absurd rfl h⟩, fun _ h => absurd h2 (by omega)⟩, fun h => absurd hx0 h⟩
    · obtain ⟨xx, hxx, rfl⟩ := r20_of h1
      exact ⟨_, _, e1, l1, hx1, _, _, e2, l2, hx2, fun _ => ⟨_, _, _, _, _, _, _, _, _, _, _, _, _, _, _, _, _, _, _, _, _, _, _, _, _, 0, B 4, rfl, rfl, Or.inl rfl, rfl, h10, fun h => absurd h1 h, fun _ h => absurd h2 (by omega), fun _ _ => ⟨fun _ => E _ (INV_i (RT_couple (l := 0) hR1 hxx (by decide) h2) hz hY hT (by first | (simp only [nB_un]; done) | (simp only [nB_un]; rfl)) rfl rfl rfl rfl rfl rfl hS hM hG1), fun h => absurd rfl h⟩⟩, fun h => absurd hx0 h⟩
  · refine hK 0 9999 965 _ _ _ ⟨_, _, e1, l1, hx1, _, _, e2, l2, hx2, fun h => absurd h hx0, fun _ => ?_⟩
    refine ⟨_, _, _, _, _, _, _, _, _, _, _, _, _, _, _, _, _, _, _, _, _, _, _, _, _, _, _, _, 1, B 4, rfl, rfl, Or.inr rfl, rfl, h10, fun hb => ?_, fun h1 h2 => ?_, fun h1 h2 => ?_⟩
    · exact ⟨_, _, e1, l1, hx1, _, _, e2, l2, hx2, fun h => absurd h hx0, fun _ => ⟨_, _, _, _, _, _, _, _, _, _, _, _, _, _, _, _, _, _, _, _, _, _, _, _, _, 1, B 4, rfl, rfl, Or.inr rfl, rfl, h10, fun _ => ⟨fun _ => E _ (INV_i hR1 hz hY hT rfl rfl rf_bad rfl rfl rfl rfl hS hM hG1), fun h => absurd rfl h⟩, fun h => absurd h hb, fun h => absurd h hb⟩⟩
    · exact ⟨_, _, e1, l1, hx1, _, _, e2, l2, hx2, fun h => absurd h hx0, fun _ => ⟨_, _, _, _, _, _, _, _, _, _, _, _, _, _, _, _, _, _, _, _, _, _, _, _, _, 1, B 4, rfl, rfl, Or.inr rfl, rfl, h10, fun h => absurd h1 h, fun _ _ => ⟨fun _ => E _ (INV_i hR1 hz hY hT rfl rfl rf_full rfl rfl rfl rfl hS hM hG1), fun h => absurd rfl h⟩, fun _ h => absurd h2 (by omega)⟩⟩
    · obtain ⟨xx, hxx, rfl⟩ := r20_of h1
      exact ⟨_, _, e1, l1, hx1, _, _, e2, l2, hx2, fun h => absurd h hx0, fun _ => ⟨_, _, _, _, _, _, _, _, _, _, _, _, _, _, _, _, _, _, _, _, _, _, _, _, _, 1, B 4, rfl, rfl, Or.inr rfl, rfl, h10, fun h => absurd h1 h, fun _ h => absurd h2 (by omega), fun _ _ => ⟨fun _ => E _ (INV_i (RT_couple (l := 1) hR1 hxx (by decide) h2) hz hY hT (by first | (simp only [nB_un]; done) | (simp only [nB_un]; rfl)) rfl rfl rfl rfl rfl rfl hS hM hG1), fun h => absurd rfl h⟩⟩⟩
set_option maxRecDepth 100000 in
theorem cs_30 {Q : em_Q} {K : em_K} {L k : Nat} {xs : Nat → Int32} (hK : ∀ a b pc ls st hp, em_wp Q K (((T_L30 L xs).drop a).take b) pc ls st hp → K pc ls st hp) (E : ∀ hp, INV (k + 1) hp → K 1276 (LwS k) [] hp) (hk : k < 64) (hl : 5 * k + 5 ≤ L) {hp : em_H} (h : INV k hp) : K 1014 (LwS k) [] hp := by
  refine INV_e (P := fun hp => K 1014 (LwS k) [] hp) h (fun by9 tln tst ten mm fa9 fb9 rf im ki fi sd ma ea ca clt pe0 ki0 mi0 se0 we0 lea0 mst0 pa0 fi0 sd0 ev0 un0 ma0 ea0 co0 ca0 clt0 kp asd tx ty at9 st9 tk vl wd it mn sb my wem be9 rw fr G B C L9 S IM hR hz hY hT hS hM hG => ?_)
  have hG1 := IMG_mono hG (Nat.le_succ k)
  have hR1 := RT_mono hR (Nat.le_succ k)
  have h06 : B 0 ≤ 6 := hR.1.1
  have hC : CR B ki := RT_cr hR (by omega)
  have hgk := hC.1
  have hcal := RT_cal hR
  obtain ⟨hN, hSn⟩ := nw_ok2 hR.2.1
  have h5 := hR.2.2.1.1
  have h6 := hR.2.2.1.2.1
  have h7 := hR.2.2.1.2.2.1
  have h8 := hR.2.2.2.1.1
  have hk2 := hR.2.2.2.2.1.1
  have h12 := hR.2.2.2.2.1.2.1
  have h10 := hR.2.2.2.2.2.1
  have e1 : nI (5 * k) + 1 = nI (5 * k + 1) := nI_add _ 1
  have l1 : 5 * k + 1 < L := by omega
  obtain ⟨x1, hx1⟩ : ∃ v, xs (5 * k + 1) = v := ⟨_, rfl⟩
  have e2 : nI (5 * k) + 2 = nI (5 * k + 2) := nI_add _ 2
  have l2 : 5 * k + 2 < L := by omega
  obtain ⟨x2, hx2⟩ : ∃ v, xs (5 * k + 2) = v := ⟨_, rfl⟩
  have e3 : nI (5 * k) + 3 = nI (5 * k + 3) := nI_add _ 3
  have l3 : 5 * k + 3 < L := by omega
  obtain ⟨x3, hx3⟩ : ∃ v, xs (5 * k + 3) = v := ⟨_, rfl⟩
  have e4 : nI (5 * k) + 4 = nI (5 * k + 4) := nI_add _ 4
  have l4 : 5 * k + 4 < L := by omega
  obtain ⟨x4, hx4⟩ : ∃ v, xs (5 * k + 4) = v := ⟨_, rfl⟩
  exact hK 0 9999 1014 _ _ _ ⟨_, _, _, _, _, _, _, _, _, _, _, _, _, _, _, _, _, _, _, _, _, _, _, _, _, _, _, rfl, rfl, _, _, _, _, _, _, _, _, _, _, _, _, _, _, _, _, _, _, _, _, _, _, _, _, rfl, rfl, ⟨fun _ => E _ (INV_i (RT_burn hR1) hz hY hT (by first | (simp only [nB_un]; done) | (simp only [nB_un]; rfl)) rfl rfl rfl rfl rfl rfl hS hM hG1), fun h => absurd rfl h⟩⟩
set_option maxRecDepth 100000 in
theorem cs_31 {Q : em_Q} {K : em_K} {L k : Nat} {xs : Nat → Int32} (hK : ∀ a b pc ls st hp, em_wp Q K (((T_L31 L xs).drop a).take b) pc ls st hp → K pc ls st hp) (E : ∀ hp, INV (k + 1) hp → K 1276 (LwS k) [] hp) (hk : k < 64) (hl : 5 * k + 5 ≤ L) {hp : em_H} (h : INV k hp) : K 1027 (LwS k) [] hp := by
  refine INV_e (P := fun hp => K 1027 (LwS k) [] hp) h (fun by9 tln tst ten mm fa9 fb9 rf im ki fi sd ma ea ca clt pe0 ki0 mi0 se0 we0 lea0 mst0 pa0 fi0 sd0 ev0 un0 ma0 ea0 co0 ca0 clt0 kp asd tx ty at9 st9 tk vl wd it mn sb my wem be9 rw fr G B C L9 S IM hR hz hY hT hS hM hG => ?_)
  have hG1 := IMG_mono hG (Nat.le_succ k)
  have hR1 := RT_mono hR (Nat.le_succ k)
  have h06 : B 0 ≤ 6 := hR.1.1
  have hC : CR B ki := RT_cr hR (by omega)
  have hgk := hC.1
  have hcal := RT_cal hR
  obtain ⟨hN, hSn⟩ := nw_ok2 hR.2.1
  have h5 := hR.2.2.1.1
  have h6 := hR.2.2.1.2.1
  have h7 := hR.2.2.1.2.2.1
  have h8 := hR.2.2.2.1.1
  have hk2 := hR.2.2.2.2.1.1
  have h12 := hR.2.2.2.2.1.2.1
  have h10 := hR.2.2.2.2.2.1
  have e1 : nI (5 * k) + 1 = nI (5 * k + 1) := nI_add _ 1
  have l1 : 5 * k + 1 < L := by omega
  obtain ⟨x1, hx1⟩ : ∃ v, xs (5 * k + 1) = v := ⟨_, rfl⟩
  have e2 : nI (5 * k) + 2 = nI (5 * k + 2) := nI_add _ 2
  have l2 : 5 * k + 2 < L := by omega
  obtain ⟨x2, hx2⟩ : ∃ v, xs (5 * k + 2) = v := ⟨_, rfl⟩
  have e3 : nI (5 * k) + 3 = nI (5 * k + 3) := nI_add _ 3
  have l3 : 5 * k + 3 < L := by omega
  obtain ⟨x3, hx3⟩ : ∃ v, xs (5 * k + 3) = v := ⟨_, rfl⟩
  have e4 : nI (5 * k) + 4 = nI (5 * k + 4) := nI_add _ 4
  have l4 : 5 * k + 4 < L := by omega
  obtain ⟨x4, hx4⟩ : ∃ v, xs (5 * k + 4) = v := ⟨_, rfl⟩
  have hcl9 := hR.2.2.2.2.2.2.2.1
  have hcf : ∀ a b, a < 21 → b < 21 → cfB ca clt (B 4) a b = (fun a b => cfM B a b (B 4)) a b := fun a b ha hb => cf_pm (fun j hj => ⟨(hcl9 j hj).2.2.1, (hcl9 j hj).2.2.2, (hcl9 j hj).1, (hcl9 j hj).2.1⟩) (by omega) (by omega)
  have hla := laO_R hcf 21 (Nat.le_refl _)
  have hv0 := congrArg (fun z => nI z) hla.1
  have hv1 := congrArg (fun z => oI z) hla.2.1
  have hm : ∀ j, j < B 4 → B (42 + 2 * j) ≤ 20 ∧ B (43 + 2 * j) ≤ 1 := fun j hj => ⟨(hcl9 j hj).1, (hcl9 j hj).2.1⟩
  refine hK 0 9999 1027 _ _ _ ⟨_, _, e1, l1, hx1, _, _, _, _, _, _, _, _, _, _, _, _, _, _, _, _, _, _, _, _, _, _, _, _, _, _, _, _, B 4, rfl, rfl, rfl, h10, fun a b => ?_, fun a => ?_, fun a => ?_⟩
  · exact ⟨_, _, e1, l1, hx1, _, _, _, _, _, _, _, _, _, _, _, _, _, _, _, _, _, _, _, _, _, _, _, _, _, rfl, rfl, h10, hm, fun _ _ => ⟨fun _ => E _ (INV_i hR1 hz hY hT rfl rfl rf_bad10 rfl rfl rfl rfl hS hM hG1), fun h => absurd rfl h⟩, fun h => absurd h a, fun h => absurd h b⟩
  · exact ⟨_, _, e1, l1, hx1, _, _, _, _, _, _, _, _, _, _, _, _, _, _, _, _, _, _, _, _, _, _, _, _, _, rfl, rfl, h10, hm, fun h => absurd a h, fun _ => ⟨fun _ => E _ (INV_i hR1 hz hY hT rfl rfl rfl rfl rfl rfl rfl hS hM hG1), fun h => absurd hv0 h⟩, fun h => absurd (h.symm.trans a) (by decide)⟩
  · exact ⟨_, _, e1, l1, hx1, _, _, _, _, _, _, _, _, _, _, _, _, _, _, _, _, _, _, _, _, _, _, _, _, _, rfl, rfl, h10, hm, fun _ h => absurd a h, fun h => absurd (h.symm.trans a) (by decide), fun _ => ⟨fun _ => E _ (INV_i hR1 hz hY hT rfl rfl rfl rfl rfl rfl rfl hS hM hG1), fun h => absurd hv1 h⟩⟩
theorem dif_at {B : Nat → Nat} {i j : Nat} (hN : SOK (nw B)) (hi : i < 6) (hj : j < 6) : dif (pm (nw B)) (nI i) (nI j) = nI (B (14 + i) ^^^ B (14 + j)) := by
  unfold dif
  rw [mo_at hN hi, mo_at hN hj, nI_xor]
theorem ch_fr {B : Nat → Nat} {i j z t : Nat} (hN : SOK (nw B)) (hi : i < 6) (hj : j < 6) (hz : z < 6) (ht : t ≤ 20) :
    nL (cU (faB (B 5) (B (14 + i) ^^^ B (14 + j)) (B (14 + i)) (B (14 + z)) t) 1024 / gcR 2000 (cU (faB (B 5) (B (14 + i) ^^^ B (14 + j)) (B (14 + i)) (B (14 + z)) t) 1024) (cU (suB (B (14 + i) ^^^ B (14 + j))) 1024)) = (nI (hvN (cU (chP (nI (B 5)) (mo (pm (nw B)) (nI i)) (dif (pm (nw B)) (nI i) (nI j)) (mo (pm (nw B)) (nI z)) (nI t)) 1024) (pcN (B (14 + i) ^^^ B (14 + j)) 10) (pcN (B (14 + i) ^^^ B (14 + j)) 10)).1).toInt64 ∧
    nL (cU (suB (B (14 + i) ^^^ B (14 + j))) 1024 / gcR 2000 (cU (faB (B 5) (B (14 + i) ^^^ B (14 + j)) (B (14 + i)) (B (14 + z)) t) 1024) (cU (suB (B (14 + i) ^^^ B (14 + j))) 1024)) = (nI (hvN (cU (chP (nI (B 5)) (mo (pm (nw B)) (nI i)) (dif (pm (nw B)) (nI i) (nI j)) (mo (pm (nw B)) (nI z)) (nI t)) 1024) (pcN (B (14 + i) ^^^ B (14 + j)) 10) (pcN (B (14 + i) ^^^ B (14 + j)) 10)).2).toInt64 := by
  have hx := hN i hi
  have hy := hN j hj
  have hw := hN z hz
  rw [nw_in (by omega)] at hx hy hw
  rw [mo_at hN hi, dif_at hN hi hj, mo_at hN hz, ch_pm hx (Nat.xor_lt_two_pow (n := 10) hx hy) hw ht]
  exact ⟨(nI_L (Nat.lt_of_le_of_lt (Nat.div_le_self _ _) (Nat.lt_of_le_of_lt cU_le (by decide)))).symm, (nI_L (Nat.lt_of_le_of_lt (Nat.div_le_self _ _) (Nat.lt_of_le_of_lt cU_le (by decide)))).symm⟩
theorem chk_in {t : Nat} (h : t ≤ 20) : chk (nI t) := ⟨nI_pos (by omega), nI_nlt (b := t) (a := 20) h (by omega)⟩
set_option maxRecDepth 100000 in
theorem cs_32 {Q : em_Q} {K : em_K} {L k : Nat} {xs : Nat → Int32} (hK : ∀ a b pc ls st hp, em_wp Q K (((T_L32 L xs).drop a).take b) pc ls st hp → K pc ls st hp) (E : ∀ hp, INV (k + 1) hp → K 1276 (LwS k) [] hp) (hk : k < 64) (hl : 5 * k + 5 ≤ L) {hp : em_H} (h : INV k hp) : K 1050 (LwS k) [] hp := by
  refine INV_e (P := fun hp => K 1050 (LwS k) [] hp) h (fun by9 tln tst ten mm fa9 fb9 rf im ki fi sd ma ea ca clt pe0 ki0 mi0 se0 we0 lea0 mst0 pa0 fi0 sd0 ev0 un0 ma0 ea0 co0 ca0 clt0 kp asd tx ty at9 st9 tk vl wd it mn sb my wem be9 rw fr G B C L9 S IM hR hz hY hT hS hM hG => ?_)
  have hG1 := IMG_mono hG (Nat.le_succ k)
  have hR1 := RT_mono hR (Nat.le_succ k)
  have h06 : B 0 ≤ 6 := hR.1.1
  have hC : CR B ki := RT_cr hR (by omega)
  have hgk := hC.1
  have hcal := RT_cal hR
  obtain ⟨hN, hSn⟩ := nw_ok2 hR.2.1
  have h5 := hR.2.2.1.1
  have h6 := hR.2.2.1.2.1
  have h7 := hR.2.2.1.2.2.1
  have h8 := hR.2.2.2.1.1
  have hk2 := hR.2.2.2.2.1.1
  have h12 := hR.2.2.2.2.1.2.1
  have h10 := hR.2.2.2.2.2.1
  have e1 : nI (5 * k) + 1 = nI (5 * k + 1) := nI_add _ 1
  have l1 : 5 * k + 1 < L := by omega
  obtain ⟨x1, hx1⟩ : ∃ v, xs (5 * k + 1) = v := ⟨_, rfl⟩
  have e2 : nI (5 * k) + 2 = nI (5 * k + 2) := nI_add _ 2
  have l2 : 5 * k + 2 < L := by omega
  obtain ⟨x2, hx2⟩ : ∃ v, xs (5 * k + 2) = v := ⟨_, rfl⟩
  have e3 : nI (5 * k) + 3 = nI (5 * k + 3) := nI_add _ 3
  have l3 : 5 * k + 3 < L := by omega
  obtain ⟨x3, hx3⟩ : ∃ v, xs (5 * k + 3) = v := ⟨_, rfl⟩
  have e4 : nI (5 * k) + 4 = nI (5 * k + 4) := nI_add _ 4
  have l4 : 5 * k + 4 < L := by omega
  obtain ⟨x4, hx4⟩ : ∃ v, xs (5 * k + 4) = v := ⟨_, rfl⟩
  have hbc : ∀ i j, i < B 0 → j < B 0 → bcI (dif (pm (nw B)) (nI i) (nI j)) = nI (pcN (B (14 + i) ^^^ B (14 + j)) 10) ∧ pcN (B (14 + i) ^^^ B (14 + j)) 10 ≤ 10 := fun i j hi hj => by
    have hx := hN i (by omega)
    have hy := hN j (by omega)
    rw [nw_in (by omega)] at hx hy
    exact ⟨by rw [dif_at hN (by omega) (by omega), bcI_nI _ (Nat.xor_lt_two_pow (n := 10) hx hy)], pcN_le _ _⟩
  by_cases hb : h2 (nI (B 0)) x1 x2 ∧ hs (nI (B 0)) x3 ∧ chk x4
  · obtain ⟨i, j, hi, hj, hij, rfl, rfl⟩ := h2_of hb.1
    obtain ⟨z, hz9, rfl⟩ := hs_of hb.2.1
    obtain ⟨t, ht, rfl⟩ := chk_of hb.2.2
    refine hK 0 9999 1050 _ _ _ ⟨_, _, e1, l1, hx1, _, _, e2, l2, hx2, _, _, e3, l3, hx3, _, _, e4, l4, hx4, _, _, _, _, _, _, _, _, _, _, _, _, _, _, _, _, _, _, _, _, _, _, _, _, _, _, _, _, _, _, _, pcN (B (14 + i) ^^^ B (14 + j)) 10, rfl, rfl, fun _ => hbc i j hi hj, fun h => absurd hb h, fun _ _ _ => ?_⟩
    refine ⟨_, _, e1, l1, hx1, _, _, e2, l2, hx2, _, _, e3, l3, hx3, _, _, e4, l4, hx4, _, _, _, _, _, _, _, _, _, _, _, _, _, _, _, _, _, _, _, _, _, _, _, _, _, _, _, _, rfl, rfl, hgk, fun h => absurd hb h, fun i2 j2 z2 t2 a1 a2 a3 a4 a5 a6 a7 a8 a9 => ?_⟩
    have q1 := nI_inj (by omega) (by omega) a1
    have q2 := nI_inj (by omega) (by omega) a2
    have q3 := nI_inj (by omega) (by omega) a3
    have q4 := nI_inj (by omega) (by omega) a4
    subst q1
    subst q2
    subst q3
    subst q4
    obtain ⟨hf1, hf2⟩ := ch_fr (B := B) (i := i) (j := j) (z := z) (t := t) hN (by omega) (by omega) (by omega) ht
    exact ⟨fun _ => E _ (INV_i hR1 hz hY hT rfl rfl rfl rfl hf1 hf2 rfl hS hM hG1), fun h => absurd rfl h⟩
  · obtain ⟨h, hh⟩ : ∃ h, h2 (nI (B 0)) x1 x2 → bcI (dif (pm (nw B)) x1 x2) = nI h ∧ h ≤ 10 := by
      by_cases q : h2 (nI (B 0)) x1 x2
      · obtain ⟨i, j, hi, hj, hij, e1, e2⟩ := h2_of q
        rw [e1, e2]
        exact ⟨_, fun _ => hbc i j hi hj⟩
      · exact ⟨0, fun z => absurd z q⟩
    exact hK 0 9999 1050 _ _ _ ⟨_, _, e1, l1, hx1, _, _, e2, l2, hx2, _, _, e3, l3, hx3, _, _, e4, l4, hx4, _, _, _, _, _, _, _, _, _, _, _, _, _, _, _, _, _, _, _, _, _, _, _, _, _, _, _, _, _, _, _, h, rfl, rfl, hh, fun _ => ⟨_, _, e1, l1, hx1, _, _, e2, l2, hx2, _, _, e3, l3, hx3, _, _, e4, l4, hx4, _, _, _, _, _, _, _, _, _, _, _, _, _, _, _, _, _, _, _, _, _, _, _, _, _, _, _, _, rfl, rfl, hgk, fun _ => ⟨fun _ => E _ (INV_i hR1 hz hY hT rfl rfl rf_bad rfl rfl rfl rfl hS hM hG1), fun h => absurd rfl h⟩, fun i2 j2 z2 t2 a1 a2 a3 a4 a5 a6 a7 a8 a9 => absurd ⟨a1 ▸ a2 ▸ h2_in h06 a5 a6 a7, a3 ▸ hs_in h06 a8, a4 ▸ chk_in a9⟩ hb⟩, fun a b c => absurd ⟨a, b, c⟩ hb⟩
set_option maxRecDepth 100000 in
theorem cs_33 {Q : em_Q} {K : em_K} {L k : Nat} {xs : Nat → Int32} (hK : ∀ a b pc ls st hp, em_wp Q K (((T_L33 L xs).drop a).take b) pc ls st hp → K pc ls st hp) (E : ∀ hp, INV (k + 1) hp → K 1276 (LwS k) [] hp) (hk : k < 64) (hl : 5 * k + 5 ≤ L) {hp : em_H} (h : INV k hp) : K 1103 (LwS k) [] hp := by
  refine INV_e (P := fun hp => K 1103 (LwS k) [] hp) h (fun by9 tln tst ten mm fa9 fb9 rf im ki fi sd ma ea ca clt pe0 ki0 mi0 se0 we0 lea0 mst0 pa0 fi0 sd0 ev0 un0 ma0 ea0 co0 ca0 clt0 kp asd tx ty at9 st9 tk vl wd it mn sb my wem be9 rw fr G B C L9 S IM hR hz hY hT hS hM hG => ?_)
  have hG1 := IMG_mono hG (Nat.le_succ k)
  have hR1 := RT_mono hR (Nat.le_succ k)
  have h06 : B 0 ≤ 6 := hR.1.1
  have hC : CR B ki := RT_cr hR (by omega)
  have hgk := hC.1
  have hcal := RT_cal hR
  obtain ⟨hN, hSn⟩ := nw_ok2 hR.2.1
  have h5 := hR.2.2.1.1
  have h6 := hR.2.2.1.2.1
  have h7 := hR.2.2.1.2.2.1
  have h8 := hR.2.2.2.1.1
  have hk2 := hR.2.2.2.2.1.1
  have h12 := hR.2.2.2.2.1.2.1
  have h10 := hR.2.2.2.2.2.1
  have e1 : nI (5 * k) + 1 = nI (5 * k + 1) := nI_add _ 1
  have l1 : 5 * k + 1 < L := by omega
  obtain ⟨x1, hx1⟩ : ∃ v, xs (5 * k + 1) = v := ⟨_, rfl⟩
  have e2 : nI (5 * k) + 2 = nI (5 * k + 2) := nI_add _ 2
  have l2 : 5 * k + 2 < L := by omega
  obtain ⟨x2, hx2⟩ : ∃ v, xs (5 * k + 2) = v := ⟨_, rfl⟩
  have e3 : nI (5 * k) + 3 = nI (5 * k + 3) := nI_add _ 3
  have l3 : 5 * k + 3 < L := by omega
  obtain ⟨x3, hx3⟩ : ∃ v, xs (5 * k + 3) = v := ⟨_, rfl⟩
  have e4 : nI (5 * k) + 4 = nI (5 * k + 4) := nI_add _ 4
  have l4 : 5 * k + 4 < L := by omega
  obtain ⟨x4, hx4⟩ : ∃ v, xs (5 * k + 4) = v := ⟨_, rfl⟩
  by_cases hb : h2 (nI (B 0)) x1 x2 ∧ sdk x3
  · obtain ⟨i, j, hi, hj, hij, rfl, rfl⟩ := h2_of hb.1
    have hx := hN i (by omega)
    have hy := hN j (by omega)
    rw [nw_in (by omega)] at hx hy
    have hv : (brn (mo (pm (nw B)) (nI i)) (mo (pm (nw B)) (nI j)) x3.toInt64 10).1 = (brM (B (14 + i) ^^^ B (14 + j)) (nI (B (14 + i))) x3.toInt64 10).1 := by
      obtain ⟨-, c, -, q1, q2, -⟩ := brn_pm hx hy x3.toInt64 10 (Nat.le_refl _)
      rw [mo_at hN (by omega), mo_at hN (by omega), q1, q2]
    refine hK 0 9999 1103 _ _ _ ⟨_, _, e1, l1, hx1, _, _, e2, l2, hx2, _, _, e3, l3, hx3, _, _, _, _, _, _, _, _, _, _, _, _, _, _, _, _, _, _, _, _, _, _, _, _, _, _, _, _, _, _, rfl, rfl, fun h => absurd hb h, fun _ _ => ⟨_, _, e1, l1, hx1, _, _, e2, l2, hx2, _, _, e3, l3, hx3, _, _, _, _, _, _, _, _, _, _, _, _, _, _, _, _, _, _, _, _, _, _, _, _, _, _, _, rfl, rfl, hgk, fun h => absurd hb h, fun i2 j2 a1 a2 a3 a4 a5 _ => ?_⟩⟩
    have q1 := nI_inj (by omega) (by omega) a1
    have q2 := nI_inj (by omega) (by omega) a2
    subst q1
    subst q2
    exact ⟨fun _ => E _ (INV_i hR1 hz hY hT rfl rfl rfl rfl rfl rfl rfl hS hM hG1), fun h => absurd hv h⟩
  · exact hK 0 9999 1103 _ _ _ ⟨_, _, e1, l1, hx1, _, _, e2, l2, hx2, _, _, e3, l3, hx3, _, _, _, _, _, _, _, _, _, _, _, _, _, _, _, _, _, _, _, _, _, _, _, _, _, _, _, _, _, _, rfl, rfl, fun _ => ⟨_, _, e1, l1, hx1, _, _, e2, l2, hx2, _, _, e3, l3, hx3, _, _, _, _, _, _, _, _, _, _, _, _, _, _, _, _, _, _, _, _, _, _, _, _, _, _, _, rfl, rfl, hgk, fun _ => ⟨fun _ => E _ (INV_i hR1 hz hY hT rfl rfl rf_bad rfl rfl rfl rfl hS hM hG1), fun h => absurd rfl h⟩, fun i j a1 a2 a3 a4 a5 a6 => absurd ⟨a1 ▸ a2 ▸ h2_in h06 a3 a4 a5, a6⟩ hb⟩, fun h h9 => absurd ⟨h, h9⟩ hb⟩
set_option maxRecDepth 100000 in
theorem cs_34 {Q : em_Q} {K : em_K} {L k : Nat} {xs : Nat → Int32} (hK : ∀ a b pc ls st hp, em_wp Q K (((T_L34 L xs).drop a).take b) pc ls st hp → K pc ls st hp) (E : ∀ hp, INV (k + 1) hp → K 1276 (LwS k) [] hp) (hk : k < 64) (hl : 5 * k + 5 ≤ L) {hp : em_H} (h : INV k hp) : K 1146 (LwS k) [] hp := by
  refine INV_e (P := fun hp => K 1146 (LwS k) [] hp) h (fun by9 tln tst ten mm fa9 fb9 rf im ki fi sd ma ea ca clt pe0 ki0 mi0 se0 we0 lea0 mst0 pa0 fi0 sd0 ev0 un0 ma0 ea0 co0 ca0 clt0 kp asd tx ty at9 st9 tk vl wd it mn sb my wem be9 rw fr G B C L9 S IM hR hz hY hT hS hM hG => ?_)
  have hG1 := IMG_mono hG (Nat.le_succ k)
  have hR1 := RT_mono hR (Nat.le_succ k)
  have h06 : B 0 ≤ 6 := hR.1.1
  have hC : CR B ki := RT_cr hR (by omega)
  have hgk := hC.1
  have hcal := RT_cal hR
  obtain ⟨hN, hSn⟩ := nw_ok2 hR.2.1
  have h5 := hR.2.2.1.1
  have h6 := hR.2.2.1.2.1
  have h7 := hR.2.2.1.2.2.1
  have h8 := hR.2.2.2.1.1
  have hk2 := hR.2.2.2.2.1.1
  have h12 := hR.2.2.2.2.1.2.1
  have h10 := hR.2.2.2.2.2.1
  have e1 : nI (5 * k) + 1 = nI (5 * k + 1) := nI_add _ 1
  have l1 : 5 * k + 1 < L := by omega
  obtain ⟨x1, hx1⟩ : ∃ v, xs (5 * k + 1) = v := ⟨_, rfl⟩
  have e2 : nI (5 * k) + 2 = nI (5 * k + 2) := nI_add _ 2
  have l2 : 5 * k + 2 < L := by omega
  obtain ⟨x2, hx2⟩ : ∃ v, xs (5 * k + 2) = v := ⟨_, rfl⟩
  have e3 : nI (5 * k) + 3 = nI (5 * k + 3) := nI_add _ 3
  have l3 : 5 * k + 3 < L := by omega
  obtain ⟨x3, hx3⟩ : ∃ v, xs (5 * k + 3) = v := ⟨_, rfl⟩
  have e4 : nI (5 * k) + 4 = nI (5 * k + 4) := nI_add _ 4
  have l4 : 5 * k + 4 < L := by omega
  obtain ⟨x4, hx4⟩ : ∃ v, xs (5 * k + 4) = v := ⟨_, rfl⟩
  refine hK 0 9999 1146 _ _ _ ⟨_, _, e1, l1, hx1, _, _, _, _, _, _, _, _, _, _, _, _, _, _, _, _, _, _, _, _, _, _, _, _, _, _, _, _, rfl, rfl, fun a b => ?_, fun a => ?_, fun a => ?_⟩
  · exact ⟨_, _, e1, l1, hx1, _, _, _, _, _, _, _, _, _, _, _, _, _, _, _, _, _, _, _, _, _, _, _, _, _, rfl, rfl, fun _ _ => ⟨fun _ => E _ (INV_i hR1 hz hY hT rfl rfl rf_bad rfl rfl rfl rfl hS hM hG1), fun h => absurd (lg_cmp0.mpr rfl) h⟩, fun h => absurd h a, fun h => absurd h b⟩
  · exact ⟨_, _, e1, l1, hx1, _, _, _, _, _, _, _, _, _, _, _, _, _, _, _, _, _, _, _, _, _, _, _, _, _, rfl, rfl, fun h => absurd a h, fun _ => ⟨fun _ => E _ (INV_i hR1 hz hY hT rfl rfl rfl rfl rfl rfl rfl hS hM hG1), fun h => absurd (lg_cmp0.mpr rfl) h⟩, fun h => absurd (h.symm.trans a) (by decide)⟩
  · exact ⟨_, _, e1, l1, hx1, _, _, _, _, _, _, _, _, _, _, _, _, _, _, _, _, _, _, _, _, _, _, _, _, _, rfl, rfl, fun _ h => absurd a h, fun h => absurd (h.symm.trans a) (by decide), fun _ => ⟨fun _ => E _ (INV_i hR1 hz hY hT rfl rfl rfl rfl rfl rfl rfl hS hM hG1), fun h => absurd (lg_cmp0.mpr rfl) h⟩⟩
