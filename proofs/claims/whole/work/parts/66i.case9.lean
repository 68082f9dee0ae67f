/-! ===== the law's cases (9): read ===== -/
def em_fx : em_H → Prop
  | [] => True
  | x :: r => em_rnE x = x ∧ em_fx r
theorem em_fx_get : ∀ {T : em_H} (j : Nat), em_fx T → T[j]? = (T[j]?).map em_rnE
  | [], j, _ => rfl
  | x :: r, 0, h => congrArg some h.1.symm
  | x :: r, j + 1, h => em_fx_get (T := r) j h.2
theorem IMG_im {nn : Nat} {im : Nat → Option Nat} {kp : Nat → Int32} {IM : Nat → Nat} {G : em_H} (h : IMG nn im kp IM G) : im = fun i => (im i).map swp := by
  have h0 : ∀ i, im i = none ∨ im i = some 39 ∨ im i = some 47 := by
    obtain ⟨h0, ⟨a0, a1, b0, b1, g⟩ | ⟨j, pe1, ki1, mi1, se1, we1, lea1, mst1, pa1, fi1, sd1, ev1, un1, ma1, ea1, co1, ca1, clt1, hj, g1, g2, g3, g4, g, hRj⟩ | ⟨j, pe1, ki1, mi1, se1, we1, lea1, mst1, pa1, fi1, sd1, ev1, un1, ma1, ea1, co1, ca1, clt1, pe2, ki2, mi2, se2, we2, lea2, mst2, pa2, fi2, sd2, ev2, un2, ma2, ea2, co2, ca2, clt2, hj, g1, g2, g3, g4, g, hRj, hRk⟩⟩ := h
    · intro i
      rcases (show i = 0 ∨ i = 1 ∨ 2 ≤ i by omega) with rfl | rfl | z
      · exact Or.inl a0
      · exact Or.inl a1
      · exact Or.inl (h0 i z)
    · intro i
      rcases (show i = j ∨ i = 1 - j ∨ 2 ≤ i by omega) with rfl | rfl | z
      · exact Or.inr (Or.inl g1)
      · exact Or.inl g2
      · exact Or.inl (h0 i z)
    · intro i
      rcases (show i = j ∨ i = 1 - j ∨ 2 ≤ i by omega) with rfl | rfl | z
      · exact Or.inr (Or.inl g1)
      · exact Or.inr (Or.inr g2)
      · exact Or.inl (h0 i z)
  funext i
  rcases h0 i with q | q | q <;> rw [q] <;> rfl
theorem IMG_fx {nn : Nat} {im : Nat → Option Nat} {kp : Nat → Int32} {IM : Nat → Nat} {G : em_H} (h : IMG nn im kp IM G) : em_fx G := by
  obtain ⟨h0, ⟨a0, a1, b0, b1, g⟩ | ⟨j, pe1, ki1, mi1, se1, we1, lea1, mst1, pa1, fi1, sd1, ev1, un1, ma1, ea1, co1, ca1, clt1, hj, g1, g2, g3, g4, g, hRj⟩ | ⟨j, pe1, ki1, mi1, se1, we1, lea1, mst1, pa1, fi1, sd1, ev1, un1, ma1, ea1, co1, ca1, clt1, pe2, ki2, mi2, se2, we2, lea2, mst2, pa2, fi2, sd2, ev2, un2, ma2, ea2, co2, ca2, clt2, hj, g1, g2, g3, g4, g, hRj, hRk⟩⟩ := h <;> subst g
  · exact trivial
  · exact ⟨rfl, rfl, rfl, rfl, rfl, rfl, rfl, rfl, trivial⟩
  · exact ⟨rfl, rfl, rfl, rfl, rfl, rfl, rfl, rfl, rfl, rfl, rfl, rfl, rfl, rfl, rfl, rfl, trivial⟩
set_option maxRecDepth 100000 in
theorem SWP_L {nn : Nat} {by9 : Nat → Int32} {tln : Int32} {tst : Int32} {ten : Int32} {mm : Nat → Int64} {fa9 : Int32} {fb9 : Int32} {rf : Nat → Int32} {im : Nat → Option Nat} {pe : Int32} {ki : Nat → Int32} {mi : Int64} {se : Int64} {we : Int32} {lea : Int32} {mst : Int32} {pa : Int32} {fi : Nat → Int32} {sd : Nat → Int32} {ev : Int32} {un : Int32} {ma : Nat → Int64} {ea : Nat → Int32} {co : Int32} {ca : Nat → Int32} {clt : Nat → Int32} {pe0 : Int32} {ki0 : Nat → Int32} {mi0 : Int64} {se0 : Int64} {we0 : Int32} {lea0 : Int32} {mst0 : Int32} {pa0 : Int32} {fi0 : Nat → Int32} {sd0 : Nat → Int32} {ev0 : Int32} {un0 : Int32} {ma0 : Nat → Int64} {ea0 : Nat → Int32} {co0 : Int32} {ca0 : Nat → Int32} {clt0 : Nat → Int32} {bk : Nat → Int32} {imm : Nat → Int32} {kp : Nat → Int32} {asd : Nat → Int32} {rfm : Nat → Int32} {qt : Int32} {ab : Int64} {be : Int64} {tx : Nat → Int32} {ty : Int32} {at9 : Int32} {st9 : Int32} {tk : Int32} {vl : Int32} {wd : Int64} {it : Nat → Int32} {mn : Int32} {so : Nat → Int32} {sb : Nat → Int64} {my : Nat → Int32} {wem : Nat → Int32} {be9 : Nat → Int32} {rw : Nat → Int32} {fr : Nat → Int32} {G : em_H} {IM : Nat → Nat} (hG : IMG nn im kp IM G) : SWP (wX2 by9 tln tst ten mm fa9 fb9 rf im pe ki mi se we lea mst pa fi sd ev un ma ea co ca clt (tw16 pe0 ki0 mi0 se0 we0 lea0 mst0 pa0 fi0 sd0 ev0 un0 ma0 ea0 co0 ca0 clt0 (wM24 bk imm kp asd rfm qt ab be tx ty at9 st9 tk vl wd it mn so sb my wem be9 rw fr G ))) (wX by9 tln tst ten mm fa9 fb9 rf im pe0 ki0 mi0 se0 we0 lea0 mst0 pa0 fi0 sd0 ev0 un0 ma0 ea0 co0 ca0 clt0 (tw16 pe ki mi se we lea mst pa fi sd ev un ma ea co ca clt (wM24 bk imm kp asd rfm qt ab be tx ty at9 st9 tk vl wd it mn so sb my wem be9 rw fr G ))) := fun j => match j with
  | 0 => rfl
  | 1 => rfl
  | 2 => rfl
  | 3 => rfl
  | 4 => rfl
  | 5 => rfl
  | 6 => rfl
  | 7 => congrArg (fun f : Nat → Option Nat => some (Sum.inl (4, 2, Sum.inr (Sum.inr (Sum.inr (Sum.inr f)))) : va_E)) (IMG_im hG)
  | 8 => rfl
  | 9 => rfl
  | 10 => rfl
  | 11 => rfl
  | 12 => rfl
  | 13 => rfl
  | 14 => rfl
  | 15 => rfl
  | 16 => rfl
  | 17 => rfl
  | 18 => rfl
  | 19 => rfl
  | 20 => rfl
  | 21 => rfl
  | 22 => rfl
  | 23 => rfl
  | j + 24 => by
    have hT : em_fx (wM24 bk imm kp asd rfm qt ab be tx ty at9 st9 tk vl wd it mn so sb my wem be9 rw fr G ) := ⟨rfl, rfl, rfl, rfl, rfl, rfl, rfl, rfl, rfl, rfl, rfl, rfl, rfl, rfl, rfl, IMG_fx hG⟩
    rw [swp_hi (by omega)]
    exact em_fx_get j hT
set_option maxRecDepth 100000 in
theorem cs_9 {Q : em_Q} {K : em_K} {L k : Nat} {xs : Nat → Int32} (hK : ∀ a b pc ls st hp, em_wp Q K (((T_L9 L xs).drop a).take b) pc ls st hp → K pc ls st hp) (E : ∀ hp, INV (k + 1) hp → K 1276 (LwS k) [] hp) (SW : ∀ (pc : Nat) (hp hp2 : em_H), SWP hp hp2 → K pc (LwS k) [] hp2 → K pc (LwS k) [] hp) (hk : k < 64) (hl : 5 * k + 5 ≤ L) {hp : em_H} (h : INV k hp) : K 445 (LwS k) [] hp := by
  refine INV_e (P := fun hp => K 445 (LwS k) [] hp) h (fun by9 tln tst ten mm fa9 fb9 rf im ki fi sd ma ea ca clt pe0 ki0 mi0 se0 we0 lea0 mst0 pa0 fi0 sd0 ev0 un0 ma0 ea0 co0 ca0 clt0 kp asd tx ty at9 st9 tk vl wd it mn sb my wem be9 rw fr G B C L9 S IM hR hz hY hT hS hM hG => ?_)
  have hG1 := IMG_mono hG (Nat.le_succ k)
  have hR1 := RT_mono hR (Nat.le_succ k)
  have h06 : B 0 ≤ 6 := hR.1.1
  have hC : CR B ki := RT_cr hR (by omega)
  have hgk := hC.1
  have hcal := RT_cal hR
  obtain ⟨hN, hSn⟩ := nw_ok2 hR.2.1
  have h5 := hR.2.2.1.1
  have h6 := hR.2.2.1.2.1
  have h7 := hR.2.2.1.2.2.1
  have h8 := hR.2.2.2.1.1
  have hk2 := hR.2.2.2.2.1.1
  have h12 := hR.2.2.2.2.1.2.1
  have h10 := hR.2.2.2.2.2.1
  have e1 : nI (5 * k) + 1 = nI (5 * k + 1) := nI_add _ 1
  have l1 : 5 * k + 1 < L := by omega
  obtain ⟨x1, hx1⟩ : ∃ v, xs (5 * k + 1) = v := ⟨_, rfl⟩
  have e2 : nI (5 * k) + 2 = nI (5 * k + 2) := nI_add _ 2
  have l2 : 5 * k + 2 < L := by omega
  obtain ⟨x2, hx2⟩ : ∃ v, xs (5 * k + 2) = v := ⟨_, rfl⟩
  have e3 : nI (5 * k) + 3 = nI (5 * k + 3) := nI_add _ 3
  have l3 : 5 * k + 3 < L := by omega
  obtain ⟨x3, hx3⟩ : ∃ v, xs (5 * k + 3) = v := ⟨_, rfl⟩
  have e4 : nI (5 * k) + 4 = nI (5 * k + 4) := nI_add _ 4
  have l4 : 5 * k + 4 < L := by omega
  obtain ⟨x4, hx4⟩ : ∃ v, xs (5 * k + 4) = v := ⟨_, rfl⟩
  have hcz := hR.2.2.2.2.2.2.2.2
  refine hK 0 9999 445 _ _ _ ⟨_, _, _, _, _, _, _, _, _, _, _, _, _, _, _, _, _, _, _, _, _, _, _, _, _, _, _, _, _, _, _, _, _, _, _, _, _, _, _, _, _, _, _, _, C, L9, k + 1, B, rfl, rfl, hY, hz, fun f s2 e2 B1 pe1 ki1 mi1 se1 we1 lea1 mst1 pa1 fi1 sd1 ev1 un1 ma1 ea1 co1 ca1 clt1 hf hR9 => ?_, fun s2 e2 B1 pe1 ki1 mi1 se1 we1 lea1 mst1 pa1 fi1 sd1 ev1 un1 ma1 ea1 co1 ca1 clt1 hn hR9 => ⟨fun ht hB => ?_, fun ht => ?_⟩⟩
  · refine ⟨_, _, _, _, _, _, _, _, _, _, _, _, _, _, _, _, _, _, _, _, _, _, _, _, C, L9, rfl, rfl, rfl, hT, fun f2 at2 st2 tk2 vl2 wd2 it2 mn2 hf2 => ?_, fun at2 st2 tk2 vl2 wd2 it2 mn2 asd2 hn2 => (nomatch hf.symm.trans hn2)⟩
    have q := Option.some.inj (hf.symm.trans hf2)
    subst q
    exact ⟨fun _ => E _ (INV_i hR1 (hR9.2.2.2.2.2.2.2.2) hY hT rfl rfl rfl rfl rfl rfl rfl hS hM hG1), fun h => absurd rfl h⟩
  · subst hB
    exact ⟨_, _, _, _, _, _, _, _, _, _, _, _, _, _, _, _, _, _, _, _, _, _, _, _, C, L9, rfl, rfl, rfl, hT, fun f2 at2 st2 tk2 vl2 wd2 it2 mn2 hf2 => (nomatch hn.symm.trans hf2), fun at2 st2 tk2 vl2 wd2 it2 mn2 asd2 hn2 => ⟨fun _ => ⟨fun _ => SW _ _ _ (SWP_L hG1) (E _ (INV_i hR9 hcz hY hT rfl rfl rfl rfl rfl rfl rfl hS hM hG1)), fun h => absurd rfl h⟩, fun h => absurd (ht.symm.trans h) (by decide)⟩⟩
  · exact ⟨_, _, _, _, _, _, _, _, _, _, _, _, _, _, _, _, _, _, _, _, _, _, _, _, C, L9, rfl, rfl, rfl, hT, fun f2 at2 st2 tk2 vl2 wd2 it2 mn2 hf2 => (nomatch hn.symm.trans hf2), fun at2 st2 tk2 vl2 wd2 it2 mn2 asd2 hn2 => ⟨fun h => absurd (h.symm.trans ht) (by decide), fun _ => ⟨fun _ => E _ (INV_i hR1 (hR9.2.2.2.2.2.2.2.2) hY hT rfl rfl rfl rfl rfl rfl rfl hS hM hG1), fun h => absurd rfl h⟩⟩⟩
