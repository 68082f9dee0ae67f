/-! ===== the law's cases (6) ===== -/
theorem j3_in {j : Nat} (h : j < 3) : ¬ nI j < 0 ∧ nI j < 3 := ⟨nI_pos (by omega), nI_lt (b := 3) h (by omega)⟩
set_option maxRecDepth 100000 in
theorem cs_37 {Q : em_Q} {K : em_K} {L k : Nat} {xs : Nat → Int32} (hK : ∀ a b pc ls st hp, em_wp Q K (((T_L37 L xs).drop a).take b) pc ls st hp → K pc ls st hp) (E : ∀ hp, INV (k + 1) hp → K 1276 (LwS k) [] hp) (hk : k < 64) (hl : 5 * k + 5 ≤ L) {hp : em_H} (h : INV k hp) : K 1216 (LwS k) [] hp := by
  refine INV_e (P := fun hp => K 1216 (LwS k) [] hp) h (fun by9 tln tst ten mm fa9 fb9 rf im ki fi sd ma ea ca clt pe0 ki0 mi0 se0 we0 lea0 mst0 pa0 fi0 sd0 ev0 un0 ma0 ea0 co0 ca0 clt0 kp asd tx ty at9 st9 tk vl wd it mn sb my wem be9 rw fr G B C L9 S IM hR hz hY hT hS hM hG => ?_)
  have hG1 := IMG_mono hG (Nat.le_succ k)
  have hR1 := RT_mono hR (Nat.le_succ k)
  have h06 : B 0 ≤ 6 := hR.1.1
  have hC : CR B ki := RT_cr hR (by omega)
  have hgk := hC.1
  have hcal := RT_cal hR
  obtain ⟨hN, hSn⟩ := nw_ok2 hR.2.1
  have h5 := hR.2.2.1.1
  have h6 := hR.2.2.1.2.1
  have h7 := hR.2.2.1.2.2.1
  have h8 := hR.2.2.2.1.1
  have hk2 := hR.2.2.2.2.1.1
  have h12 := hR.2.2.2.2.1.2.1
  have h10 := hR.2.2.2.2.2.1
  have e1 : nI (5 * k) + 1 = nI (5 * k + 1) := nI_add _ 1
  have l1 : 5 * k + 1 < L := by omega
  obtain ⟨x1, hx1⟩ : ∃ v, xs (5 * k + 1) = v := ⟨_, rfl⟩
  have e2 : nI (5 * k) + 2 = nI (5 * k + 2) := nI_add _ 2
  have l2 : 5 * k + 2 < L := by omega
  obtain ⟨x2, hx2⟩ : ∃ v, xs (5 * k + 2) = v := ⟨_, rfl⟩
  have e3 : nI (5 * k) + 3 = nI (5 * k + 3) := nI_add _ 3
  have l3 : 5 * k + 3 < L := by omega
  obtain ⟨x3, hx3⟩ : ∃ v, xs (5 * k + 3) = v := ⟨_, rfl⟩
  have e4 : nI (5 * k) + 4 = nI (5 * k + 4) := nI_add _ 4
  have l4 : 5 * k + 4 < L := by omega
  obtain ⟨x4, hx4⟩ : ∃ v, xs (5 * k + 4) = v := ⟨_, rfl⟩
  by_cases hb : ¬ x1 < 0 ∧ x1 < 3
  · obtain ⟨j, hj, rfl⟩ := nI_of2 (M := 2) (n := 2) (x := x1) (by decide) hb.1 (by
      obtain ⟨j, hj, rfl⟩ := nI_of hb.1
      have := (nI_ltI (a := j) (b := 3) hj (by omega)).mp hb.2
      exact nI_le (b := 2) (by omega) (by omega))
    refine hK 0 9999 1216 _ _ _ ⟨_, _, e1, l1, hx1, _, _, _, _, _, _, _, _, _, _, _, _, _, _, _, _, _, _, _, _, _, _, _, _, _, _, _, _, rfl, rfl, fun h => absurd hb h, fun j2 a a2 => ?_⟩
    have q1 := nI_inj (by omega) (by omega) a
    subst q1
    refine ⟨_, _, e1, l1, hx1, _, _, _, _, _, _, _, _, _, _, _, _, _, _, _, _, _, _, _, _, _, _, _, _, _, rfl, rfl, fun h => absurd hb h, fun j2 a a2 => ?_⟩
    have q1 := nI_inj (by omega) (by omega) a
    subst q1
    exact ⟨fun _ => E _ (INV_i hR1 hz hY hT rfl rfl rfl rfl rfl rfl rfl hS hM hG1), fun h => absurd rfl h⟩
  · exact hK 0 9999 1216 _ _ _ ⟨_, _, e1, l1, hx1, _, _, _, _, _, _, _, _, _, _, _, _, _, _, _, _, _, _, _, _, _, _, _, _, _, _, _, _, rfl, rfl, fun _ => ⟨_, _, e1, l1, hx1, _, _, _, _, _, _, _, _, _, _, _, _, _, _, _, _, _, _, _, _, _, _, _, _, _, rfl, rfl, fun _ => ⟨fun _ => E _ (INV_i hR1 hz hY hT rfl rfl rf_bad rfl rfl rfl rfl hS hM hG1), fun h => absurd rfl h⟩, fun j a a2 => absurd (a ▸ j3_in a2) hb⟩, fun j a a2 => absurd (a ▸ j3_in a2) hb⟩
theorem hm_eq {B : Nat → Nat} {tln ty : Int32} (h : tln = ty) : ∀ j, j < 6 → hmy (nI (B 0)) (nI (B 1)) (nI (B 2)) (nI (B 3)) (nI (B 4)) tln (nI j) = hmM (nB B) ty j := by
  intro j hj
  subst h
  rcases (show j = 0 ∨ j = 1 ∨ j = 2 ∨ j = 3 ∨ j = 4 ∨ j = 5 by omega) with rfl | rfl | rfl | rfl | rfl | rfl <;> rfl
set_option maxRecDepth 100000 in
theorem cs_38 {Q : em_Q} {K : em_K} {L k : Nat} {xs : Nat → Int32} (hK : ∀ a b pc ls st hp, em_wp Q K (((T_L38 L xs).drop a).take b) pc ls st hp → K pc ls st hp) (E : ∀ hp, INV (k + 1) hp → K 1276 (LwS k) [] hp) (hk : k < 64) (hl : 5 * k + 5 ≤ L) {hp : em_H} (h : INV k hp) : K 1239 (LwS k) [] hp := by
  refine INV_e (P := fun hp => K 1239 (LwS k) [] hp) h (fun by9 tln tst ten mm fa9 fb9 rf im ki fi sd ma ea ca clt pe0 ki0 mi0 se0 we0 lea0 mst0 pa0 fi0 sd0 ev0 un0 ma0 ea0 co0 ca0 clt0 kp asd tx ty at9 st9 tk vl wd it mn sb my wem be9 rw fr G B C L9 S IM hR hz hY hT hS hM hG => ?_)
  have hG1 := IMG_mono hG (Nat.le_succ k)
  have hR1 := RT_mono hR (Nat.le_succ k)
  have h06 : B 0 ≤ 6 := hR.1.1
  have hC : CR B ki := RT_cr hR (by omega)
  have hgk := hC.1
  have hcal := RT_cal hR
  obtain ⟨hN, hSn⟩ := nw_ok2 hR.2.1
  have h5 := hR.2.2.1.1
  have h6 := hR.2.2.1.2.1
  have h7 := hR.2.2.1.2.2.1
  have h8 := hR.2.2.2.1.1
  have hk2 := hR.2.2.2.2.1.1
  have h12 := hR.2.2.2.2.1.2.1
  have h10 := hR.2.2.2.2.2.1
  have e1 : nI (5 * k) + 1 = nI (5 * k + 1) := nI_add _ 1
  have l1 : 5 * k + 1 < L := by omega
  obtain ⟨x1, hx1⟩ : ∃ v, xs (5 * k + 1) = v := ⟨_, rfl⟩
  have e2 : nI (5 * k) + 2 = nI (5 * k + 2) := nI_add _ 2
  have l2 : 5 * k + 2 < L := by omega
  obtain ⟨x2, hx2⟩ : ∃ v, xs (5 * k + 2) = v := ⟨_, rfl⟩
  have e3 : nI (5 * k) + 3 = nI (5 * k + 3) := nI_add _ 3
  have l3 : 5 * k + 3 < L := by omega
  obtain ⟨x3, hx3⟩ : ∃ v, xs (5 * k + 3) = v := ⟨_, rfl⟩
  have e4 : nI (5 * k) + 4 = nI (5 * k + 4) := nI_add _ 4
  have l4 : 5 * k + 4 < L := by omega
  obtain ⟨x4, hx4⟩ : ∃ v, xs (5 * k + 4) = v := ⟨_, rfl⟩
  have hE := hY.2.1.trans hT.2.1.symm
  by_cases hb : ¬ x1 < 0 ∧ x1 ≤ 5
  · obtain ⟨j, hj, rfl⟩ := nI_of2 (M := 5) (n := 5) (by decide) hb.1 hb.2
    have hv := hm_eq (B := B) hE j (by omega)
    refine hK 0 9999 1239 _ _ _ ⟨_, _, e1, l1, hx1, _, _, _, _, _, _, _, _, _, _, _, _, _, _, _, _, _, _, _, _, _, _, _, _, _, _, _, _, rfl, rfl, fun h => absurd hb h, fun _ _ => ?_⟩
    refine ⟨_, _, e1, l1, hx1, _, _, _, _, _, _, _, _, _, _, _, _, _, _, _, _, _, _, _, _, _, _, _, _, _, rfl, rfl, fun h => absurd hb h, fun j2 a a2 => ?_⟩
    have q1 := nI_inj (by omega) (by omega) a
    subst q1
    exact ⟨fun _ => E _ (INV_i hR1 hz hY hT rfl rfl rfl rfl rfl rfl rfl hS hM hG1), fun h => absurd hv h⟩
  · exact hK 0 9999 1239 _ _ _ ⟨_, _, e1, l1, hx1, _, _, _, _, _, _, _, _, _, _, _, _, _, _, _, _, _, _, _, _, _, _, _, _, _, _, _, _, rfl, rfl, fun _ => ⟨_, _, e1, l1, hx1, _, _, _, _, _, _, _, _, _, _, _, _, _, _, _, _, _, _, _, _, _, _, _, _, _, rfl, rfl, fun _ => ⟨fun _ => E _ (INV_i hR1 hz hY hT rfl rfl rf_bad rfl rfl rfl rfl hS hM hG1), fun h => absurd rfl h⟩, fun j a a2 => absurd (a ▸ ⟨nI_pos (by omega), nI_le (b := 5) (by omega) (by omega)⟩) hb⟩, fun a a2 => absurd ⟨a, a2⟩ hb⟩
set_option maxRecDepth 100000 in
theorem cs_39 {Q : em_Q} {K : em_K} {L k : Nat} {xs : Nat → Int32} (hK : ∀ a b pc ls st hp, em_wp Q K (((T_L39 L xs).drop a).take b) pc ls st hp → K pc ls st hp) (E : ∀ hp, INV (k + 1) hp → K 1276 (LwS k) [] hp) (hk : k < 64) (hl : 5 * k + 5 ≤ L) {hp : em_H} (h : INV k hp) : K 1262 (LwS k) [] hp := by
  refine INV_e (P := fun hp => K 1262 (LwS k) [] hp) h (fun by9 tln tst ten mm fa9 fb9 rf im ki fi sd ma ea ca clt pe0 ki0 mi0 se0 we0 lea0 mst0 pa0 fi0 sd0 ev0 un0 ma0 ea0 co0 ca0 clt0 kp asd tx ty at9 st9 tk vl wd it mn sb my wem be9 rw fr G B C L9 S IM hR hz hY hT hS hM hG => ?_)
  have hG1 := IMG_mono hG (Nat.le_succ k)
  have hR1 := RT_mono hR (Nat.le_succ k)
  have h06 : B 0 ≤ 6 := hR.1.1
  have hC : CR B ki := RT_cr hR (by omega)
  have hgk := hC.1
  have hcal := RT_cal hR
  obtain ⟨hN, hSn⟩ := nw_ok2 hR.2.1
  have h5 := hR.2.2.1.1
  have h6 := hR.2.2.1.2.1
  have h7 := hR.2.2.1.2.2.1
  have h8 := hR.2.2.2.1.1
  have hk2 := hR.2.2.2.2.1.1
  have h12 := hR.2.2.2.2.1.2.1
  have h10 := hR.2.2.2.2.2.1
  have e1 : nI (5 * k) + 1 = nI (5 * k + 1) := nI_add _ 1
  have l1 : 5 * k + 1 < L := by omega
  obtain ⟨x1, hx1⟩ : ∃ v, xs (5 * k + 1) = v := ⟨_, rfl⟩
  have e2 : nI (5 * k) + 2 = nI (5 * k + 2) := nI_add _ 2
  have l2 : 5 * k + 2 < L := by omega
  obtain ⟨x2, hx2⟩ : ∃ v, xs (5 * k + 2) = v := ⟨_, rfl⟩
  have e3 : nI (5 * k) + 3 = nI (5 * k + 3) := nI_add _ 3
  have l3 : 5 * k + 3 < L := by omega
  obtain ⟨x3, hx3⟩ : ∃ v, xs (5 * k + 3) = v := ⟨_, rfl⟩
  have e4 : nI (5 * k) + 4 = nI (5 * k + 4) := nI_add _ 4
  have l4 : 5 * k + 4 < L := by omega
  obtain ⟨x4, hx4⟩ : ∃ v, xs (5 * k + 4) = v := ⟨_, rfl⟩
  have hE := hY.2.1.trans hT.2.1.symm
  have hcl9 := hR.2.2.2.2.2.2.2.1
  have hcc := hR.2.2.2.1.2.2
  have hv : hx (hx (adC ca (fun j => bz (clt j)) (adC fi sd (adP ki (pm (nw B)) (pm (sn B)) (hx (hx (hx (dgN (nI (B 0)) (nI (B 1)) (nI (B 2)) (nI (B 3)) (nI (B 4)) tln 6) (nI (B 5))) (nI (B 6))) (nI (B 7))) (B 0)) (B 1)) (B 4)) fa9) fb9 = 31 * (31 * mxM (nB B) (mxM (nB B) (dpM (nB B) (mxM (nB B) (dgM (nB B) ty 6) 5 3) (B 0)) 26 (2 * B 1)) 42 (2 * B 4) + fa9.toInt64) + fb9.toInt64 := by
    rw [← hE, dg_eq (pe := nI (B 0)) (pa := nI (B 1)) (ev := nI (B 2)) (un := nI (B 3)) (co := nI (B 4)) rfl rfl rfl rfl rfl]
    rw [mx_ad (f := ca) (g := fun j => bz (clt j)) (B 4) (fun j hj => ?_), mx_ad (f := fi) (g := sd) (B 1) (fun j hj => ?_), dp_ad (ki := ki) hN hSn (B 0) h06 (fun j hj => ?_)]
    · rfl
    · exact ⟨hR.1.2.2.2 j hj, by rw [nw_in (by omega)]; rfl, by unfold sn; rw [if_pos (by omega)]; rfl⟩
    · obtain ⟨-, a, b⟩ := hcc j hj
      exact ⟨a, by rw [show 26 + 2 * j + 1 = 27 + 2 * j by omega]; exact b⟩
    · obtain ⟨-, a, b, c⟩ := hcl9 j hj
      refine ⟨b, ?_⟩
      show bz (clt j) = _
      rw [c, show 42 + 2 * j + 1 = 43 + 2 * j by omega]
      show bz (nI _) = nI _
      rcases (show B (43 + 2 * j) = 0 ∨ B (43 + 2 * j) = 1 by omega) with q | q <;> rw [q] <;> rfl
  exact hK 0 9999 1262 _ _ _ ⟨_, _, _, _, _, _, _, _, _, _, _, _, _, _, _, _, _, _, _, _, _, _, _, _, _, _, _, B 0, B 1, B 4, rfl, rfl, rfl, h06, rfl, h8, rfl, h10, _, _, _, _, _, _, _, _, _, _, _, _, _, _, _, _, _, _, _, _, _, _, _, _, B 0, B 1, B 4, rfl, rfl, rfl, h06, rfl, h8, rfl, h10, ⟨fun _ => E _ (INV_i hR1 hz hY hT rfl rfl rfl rfl rfl rfl rfl hS hM hG1), fun h => absurd (lg_cmp0.mpr hv) h⟩⟩
