/-! ===== the law's cases (8): from ===== -/
theorem frN_lo {B IM : Nat → Nat} {i : Nat} : ∀ j, j < 146 → frN B IM i j = (fun x => IM (146 * i + x)) j := fun j hj => if_pos hj
set_option maxRecDepth 100000 in
theorem cs_36 {Q : em_Q} {K : em_K} {L k : Nat} {xs : Nat → Int32} (hK : ∀ a b pc ls st hp, em_wp Q K (((T_L36 L xs).drop a).take b) pc ls st hp → K pc ls st hp) (E : ∀ hp, INV (k + 1) hp → K 1276 (LwS k) [] hp) (hk : k < 64) (hl : 5 * k + 5 ≤ L) {hp : em_H} (h : INV k hp) : K 1193 (LwS k) [] hp := by
  refine INV_e (P := fun hp => K 1193 (LwS k) [] hp) h (fun by9 tln tst ten mm fa9 fb9 rf im ki fi sd ma ea ca clt pe0 ki0 mi0 se0 we0 lea0 mst0 pa0 fi0 sd0 ev0 un0 ma0 ea0 co0 ca0 clt0 kp asd tx ty at9 st9 tk vl wd it mn sb my wem be9 rw fr G B C L9 S IM hR hz hY hT hS hM hG => ?_)
  have hG1 := IMG_mono hG (Nat.le_succ k)
  have hR1 := RT_mono hR (Nat.le_succ k)
  have h06 : B 0 ≤ 6 := hR.1.1
  have hC : CR B ki := RT_cr hR (by omega)
  have hgk := hC.1
  have hcal := RT_cal hR
  obtain ⟨hN, hSn⟩ := nw_ok2 hR.2.1
  have h5 := hR.2.2.1.1
  have h6 := hR.2.2.1.2.1
  have h7 := hR.2.2.1.2.2.1
  have h8 := hR.2.2.2.1.1
  have hk2 := hR.2.2.2.2.1.1
  have h12 := hR.2.2.2.2.1.2.1
  have h10 := hR.2.2.2.2.2.1
  have e1 : nI (5 * k) + 1 = nI (5 * k + 1) := nI_add _ 1
  have l1 : 5 * k + 1 < L := by omega
  obtain ⟨x1, hx1⟩ : ∃ v, xs (5 * k + 1) = v := ⟨_, rfl⟩
  have e2 : nI (5 * k) + 2 = nI (5 * k + 2) := nI_add _ 2
  have l2 : 5 * k + 2 < L := by omega
  obtain ⟨x2, hx2⟩ : ∃ v, xs (5 * k + 2) = v := ⟨_, rfl⟩
  have e3 : nI (5 * k) + 3 = nI (5 * k + 3) := nI_add _ 3
  have l3 : 5 * k + 3 < L := by omega
  obtain ⟨x3, hx3⟩ : ∃ v, xs (5 * k + 3) = v := ⟨_, rfl⟩
  have e4 : nI (5 * k) + 4 = nI (5 * k + 4) := nI_add _ 4
  have l4 : 5 * k + 4 < L := by omega
  obtain ⟨x4, hx4⟩ : ∃ v, xs (5 * k + 4) = v := ⟨_, rfl⟩
  have hcz := hR.2.2.2.2.2.2.2.2
  by_cases hb : x1 = 0 ∨ x1 = 1
  · obtain ⟨i, hi, rfl⟩ := j01_of hb
    have hbad : ∀ {P : Prop}, ¬ nI i = 0 → ¬ nI i = 1 → P := fun a b => (hb.elim a b).elim
    obtain ⟨h0, ⟨a0, a1, b0, b1, rfl⟩ | ⟨j, pe1, ki1, mi1, se1, we1, lea1, mst1, pa1, fi1, sd1, ev1, un1, ma1, ea1, co1, ca1, clt1, hj, g1, g2, g3, g4, rfl, hRj⟩ | ⟨j, pe1, ki1, mi1, se1, we1, lea1, mst1, pa1, fi1, sd1, ev1, un1, ma1, ea1, co1, ca1, clt1, pe2, ki2, mi2, se2, we2, lea2, mst2, pa2, fi2, sd2, ev2, un2, ma2, ea2, co2, ca2, clt2, hj, g1, g2, g3, g4, rfl, hRj, hRk⟩⟩ := id hG1
    · have him : im i = none := by
        rcases (show i = 0 ∨ i = 1 by omega) with rfl | rfl
        · exact a0
        · exact a1
      have hk0 : kp i = 0 := by
        rcases (show i = 0 ∨ i = 1 by omega) with rfl | rfl
        · exact b0
        · exact b1
      refine hK 0 9999 1193 _ _ _ ⟨_, _, e1, l1, hx1, _, _, _, _, _, _, _, _, _, _, _, _, _, _, _, _, _, _, _, _, _, _, _, _, _, _, _, _, _, _, _, _, _, _, _, _, _, _, _, _, _, _, _, _, _, _, _, _, _, _, _, rfl, rfl, hcz, Or.inr (Or.inl ⟨i, rfl, hi, him, ?_⟩)⟩
      refine ⟨_, _, e1, l1, hx1, _, _, _, _, _, _, _, _, _, _, _, _, _, _, _, _, _, _, _, _, _, _, _, _, _, rfl, rfl, hbad, fun i2 a a2 _ => ⟨fun _ => E _ (INV_i hR1 hz hY hT rfl rfl rf_no rfl rfl rfl rfl hS hM hG1), fun h => absurd rfl h⟩, fun i2 a a2 hk9 => ?_⟩
      have q1 := nI_inj (by omega) (by omega) a
      subst q1
      exact absurd hk0 hk9
    · by_cases hij : i = j
      · subst hij
        have hk1 : ¬ kp i = 0 := by rw [g3]; decide
        refine hK 0 9999 1193 _ _ _ ⟨_, _, e1, l1, hx1, _, _, _, _, _, _, _, _, _, _, _, _, _, _, _, _, _, _, _, _, _, _, _, _, _, _, _, _, _, _, _, _, _, _, _, _, _, _, _, _, _, _, _, _, _, _, _, _, _, _, _, rfl, rfl, hcz, Or.inr (Or.inr (Or.inl ⟨i, _, _, _, _, _, _, _, _, _, _, _, _, _, _, _, _, _, _, rfl, hi, g1, rfl, hRj.2.2.2.2.2.2.2.2, ?_⟩))⟩
        refine ⟨_, _, e1, l1, hx1, _, _, _, _, _, _, _, _, _, _, _, _, _, _, _, _, _, _, _, _, _, _, _, _, _, rfl, rfl, hbad, fun i2 a a2 hk9 => ?_, fun i2 a a2 _ => ?_⟩
        · have q1 := nI_inj (by omega) (by omega) a
          subst q1
          exact absurd hk9 hk1
        · have q1 := nI_inj (by omega) (by omega) a
          subst q1
          exact ⟨fun _ => E _ (INV_i (RT_img hRj frN_lo) hz hY hT frN_eq rfl rfl rfl rfl rfl rfl hS hM hG1), fun h => absurd rfl h⟩
      · have him : im i = none := by rw [show i = 1 - j by omega]; exact g2
        have hk0 : kp i = 0 := by rw [show i = 1 - j by omega]; exact g4
        refine hK 0 9999 1193 _ _ _ ⟨_, _, e1, l1, hx1, _, _, _, _, _, _, _, _, _, _, _, _, _, _, _, _, _, _, _, _, _, _, _, _, _, _, _, _, _, _, _, _, _, _, _, _, _, _, _, _, _, _, _, _, _, _, _, _, _, _, _, rfl, rfl, hcz, Or.inr (Or.inl ⟨i, rfl, hi, him, ?_⟩)⟩
        refine ⟨_, _, e1, l1, hx1, _, _, _, _, _, _, _, _, _, _, _, _, _, _, _, _, _, _, _, _, _, _, _, _, _, rfl, rfl, hbad, fun i2 a a2 _ => ⟨fun _ => E _ (INV_i hR1 hz hY hT rfl rfl rf_no rfl rfl rfl rfl hS hM hG1), fun h => absurd rfl h⟩, fun i2 a a2 hk9 => ?_⟩
        have q1 := nI_inj (by omega) (by omega) a
        subst q1
        exact absurd hk0 hk9
    · by_cases hij : i = j
      · subst hij
        have hk1 : ¬ kp i = 0 := by rw [g3]; decide
        refine hK 0 9999 1193 _ _ _ ⟨_, _, e1, l1, hx1, _, _, _, _, _, _, _, _, _, _, _, _, _, _, _, _, _, _, _, _, _, _, _, _, _, _, _, _, _, _, _, _, _, _, _, _, _, _, _, _, _, _, _, _, _, _, _, _, _, _, _, rfl, rfl, hcz, Or.inr (Or.inr (Or.inl ⟨i, _, _, _, _, _, _, _, _, _, _, _, _, _, _, _, _, _, _, rfl, hi, g1, rfl, hRj.2.2.2.2.2.2.2.2, ?_⟩))⟩
        refine ⟨_, _, e1, l1, hx1, _, _, _, _, _, _, _, _, _, _, _, _, _, _, _, _, _, _, _, _, _, _, _, _, _, rfl, rfl, hbad, fun i2 a a2 hk9 => ?_, fun i2 a a2 _ => ?_⟩
        · have q1 := nI_inj (by omega) (by omega) a
          subst q1
          exact absurd hk9 hk1
        · have q1 := nI_inj (by omega) (by omega) a
          subst q1
          exact ⟨fun _ => E _ (INV_i (RT_img hRj frN_lo) hz hY hT frN_eq rfl rfl rfl rfl rfl rfl hS hM hG1), fun h => absurd rfl h⟩
      · have him : im i = some 47 := by rw [show i = 1 - j by omega]; exact g2
        have hk1 : ¬ kp i = 0 := by rw [show i = 1 - j by omega, g4]; decide
        rw [show 1 - j = i by omega] at hRk
        refine hK 0 9999 1193 _ _ _ ⟨_, _, e1, l1, hx1, _, _, _, _, _, _, _, _, _, _, _, _, _, _, _, _, _, _, _, _, _, _, _, _, _, _, _, _, _, _, _, _, _, _, _, _, _, _, _, _, _, _, _, _, _, _, _, _, _, _, _, rfl, rfl, hcz, Or.inr (Or.inr (Or.inr ⟨i, _, _, _, _, _, _, _, _, _, _, _, _, _, _, _, _, _, _, _, _, _, _, _, _, _, _, rfl, hi, him, rfl, hRk.2.2.2.2.2.2.2.2, ?_⟩))⟩
        refine ⟨_, _, e1, l1, hx1, _, _, _, _, _, _, _, _, _, _, _, _, _, _, _, _, _, _, _, _, _, _, _, _, _, rfl, rfl, hbad, fun i2 a a2 hk9 => ?_, fun i2 a a2 _ => ?_⟩
        · have q1 := nI_inj (by omega) (by omega) a
          subst q1
          exact absurd hk9 hk1
        · have q1 := nI_inj (by omega) (by omega) a
          subst q1
          exact ⟨fun _ => E _ (INV_i (RT_img hRk frN_lo) hz hY hT frN_eq rfl rfl rfl rfl rfl rfl hS hM hG1), fun h => absurd rfl h⟩
  · have hq : ∀ i, x1 = nI i → i < 2 → False := fun i a a2 => hb (a ▸ j01_in a2)
    exact hK 0 9999 1193 _ _ _ ⟨_, _, e1, l1, hx1, _, _, _, _, _, _, _, _, _, _, _, _, _, _, _, _, _, _, _, _, _, _, _, _, _, _, _, _, _, _, _, _, _, _, _, _, _, _, _, _, _, _, _, _, _, _, _, _, _, _, _, rfl, rfl, hcz, Or.inl ⟨fun h => hb (Or.inl h), fun h => hb (Or.inr h), _, _, e1, l1, hx1, _, _, _, _, _, _, _, _, _, _, _, _, _, _, _, _, _, _, _, _, _, _, _, _, _, rfl, rfl, fun _ _ => ⟨fun _ => E _ (INV_i hR1 hz hY hT rfl rfl rf_bad rfl rfl rfl rfl hS hM hG1), fun h => absurd rfl h⟩, fun i a a2 _ => (hq i a a2).elim, fun i a a2 _ => (hq i a a2).elim⟩⟩
