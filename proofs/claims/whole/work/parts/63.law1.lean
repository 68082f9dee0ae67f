/-! ===== the law: its ops ===== -/
def R_law : String := "WedApartLaw"
def lw_P (b : Addr) (xs : List Int32) (args : Array Value) (s : State) : Prop := args = #[.ref b] ∧ s.IntsAt b xs ∧ xs.length ≤ 320 ∧ (Jvm.Cond.and given_1 narrow_1).before args s = true
def lw_Q (_ : Array Value) (s : State) (o : Outcome) (t : State) : Prop := o = .returned (some (.int 1)) ∧ Framed s o t [] 600000 7302250
def lw_Z (below : List Frame) (a : Array Value) (s : State) : State → Prop := fun t => ∃ o, t.status = .running ∧ Ended t below o ∧ lw_Q a s o t
/-- the law's own end, with 1 on the stack, nothing written that was there before, its room as the claim has it -/
theorem lw_ret {p : Program} {l : Launch} {e : Env} {s : State} {m : MethodId} {below : List Frame} {meth : Method} {c : Code} {b : Nat} (hx : p.tables.exec = Jvm.exec) (hb : c.code = code) (hr : meth.sig.returnType = ret) (hlocks : meth.locks = false) {pc : Nat} {H : Heap} {ls : Array Slot} (hdg : decode code pc = .ok (.ireturn, 1)) : W p l e room_1 s m #[Value.ref b] below meth c H [] 600000 7302250 (lw_Z below #[Value.ref b] s) (F0 m pc ls [.int 1]) := by
  intro T hT X
  obtain ⟨fs, hret, hrun, hended, hW, hframe⟩ := X.leave (v := some (.int 1)) (hlocks := hlocks) (fun h => by rw [hr] at h; cases h)
  have hmeth' : T.vm.method? m = some meth := X.method'
  refine ⟨T.setFrames fs, ?_, .returned (some (.int 1)), hrun, hended, rfl, ⟨_, rfl⟩, hW, hframe⟩
  jvm_step X.here [X.here.top, hx, hb, hdg, hmeth', hr, ret, narrow_b1]
  (try refine ⟨rfl, ?_⟩); (try refine ⟨rfl, ?_⟩)
  first | (intro acts; rw [hret _ acts rfl rfl rfl]) | rw [hret _ _ rfl rfl rfl]
  exact Steps.refl _
/-- what holds at the law's entry: the machine, the code, the tables' words (any of lw_tbl by 'hts w (by decide +kernel)'), the script of L ints xs at the cell b, what the Statement gives of the start (any of its parts by flat_of_before) -/
def lw_At (p : Program) (s : State) (m : MethodId) (meth : Method) (c : Code) (b L : Nat) (xs : Nat → Int32) : Prop :=
  p.tables.exec = Jvm.exec ∧ c.code = code ∧ meth.sig.returnType = ret ∧ c.maxLocals = 4 ∧ s.vm.findClass R_law = some m.cls ∧ (∀ w ∈ lw_tbl, w.before #[Value.ref b] s = true) ∧ va_X b L xs s s.heap ∧ b < s.heap.size ∧ meth.locks = false ∧ (Jvm.Cond.and given_1 narrow_1).before #[Value.ref b] s = true
section EMG
variable {p : Program} {l : Launch} {e : Env} {R : Room} {s : State} {m : MethodId} {args : Array Value} {below : List Frame} {meth : Method} {c : Code} {D : va_G} {cl : List vw_C} {dA : Nat → ClassId} {σ : Nat → Nat} {A : Nat → Prop} {nL : Nat} {cnt : Nat → Nat × Nat} {Pr : (Nat → Nat) → Prop} {Z : State → Prop}
variable {cc : ByteArray} {Q : em_Q} {own : String} {tys : List (ClassId × FieldType)} {b L : Nat} {xs : Nat → Int32}
def o_sld (L : Nat) (xs : Nat → Int32) (n : Nat) : em_Op := fun _ K ls st hp => match st with | .int i :: .retAddr k :: r => bif Nat.beq k 11 then (∃ (j : Nat) (v : Int32), i = nI j ∧ j < L ∧ xs j = v ∧ K n ls (.int v :: r) hp) else False | _ => False
theorem s_sld (C : em_Cx p s m args c D cl A nL tys cc own) (hX : va_X b L xs s s.heap) (hbl : b < s.heap.size) (hbA : ¬ A b) (hσ : σ 11 = b) (hL : L < 2 ^ 31) {pc n : Nat} (hd : decode cc pc = .ok (.iaload, 1)) (hn : pc + 1 = n) (hc : cnt n = cnt pc) : em_Snd p l e R s m args below meth c D cl dA σ A nL cnt Pr Z Q pc (o_sld L xs n) := by
  intro K hK ls st hp h ρ arr H locs hr hl hP hD hS
  subst hn
  unfold o_sld at h
  split at h
  · rename_i i k r
    cases hb : Nat.beq k 11 with
    | false => rw [hb] at h; exact h.elim
    | true =>
      rw [hb] at h
      have hk := Nat.eq_of_beq_eq_true hb
      subst hk
      obtain ⟨j, v, rfl, hj, rfl, h⟩ := h
      have h9 := hK _ _ _ _ h ρ arr H locs hr hl hP hD hS
      rw [hc] at h9
      have e0 : (List.map (em_v σ ρ) (.int (nI j) :: .retAddr 11 :: r)) = .int (nI j) :: .ref b :: r.map (em_v σ ρ) := by
        show .int (nI j) :: Value.ref (σ 11) :: r.map (em_v σ ρ) = _
        rw [hσ]
      rw [e0]
      refine va_sld C.1 C.2.1 hX hbl hbA hS (vp_in_nI hj (by omega)) hd ?_
      rw [nI_clamp (by omega)]
      exact h9
  · exact h.elim
def o_slen (L : Nat) (n : Nat) : em_Op := fun _ K ls st hp => match st with | .retAddr k :: r => bif Nat.beq k 11 then K n ls (.int (nI L) :: r) hp else False | _ => False
theorem s_slen (C : em_Cx p s m args c D cl A nL tys cc own) (hX : va_X b L xs s s.heap) (hbl : b < s.heap.size) (hbA : ¬ A b) (hσ : σ 11 = b) {pc n : Nat} (hd : decode cc pc = .ok (.arraylength, 1)) (hn : pc + 1 = n) (hc : cnt n = cnt pc) : em_Snd p l e R s m args below meth c D cl dA σ A nL cnt Pr Z Q pc (o_slen L n) := by
  intro K hK ls st hp h ρ arr H locs hr hl hP hD hS
  subst hn
  unfold o_slen at h
  split at h
  · rename_i k r
    cases hb : Nat.beq k 11 with
    | false => rw [hb] at h; exact h.elim
    | true =>
      rw [hb] at h
      have hk := Nat.eq_of_beq_eq_true hb
      subst hk
      have h9 := hK _ _ _ _ h ρ arr H locs hr hl hP hD hS
      rw [hc] at h9
      have e0 : (List.map (em_v σ ρ) (.retAddr 11 :: r)) = .ref b :: r.map (em_v σ ρ) := by
        show Value.ref (σ 11) :: r.map (em_v σ ρ) = _
        rw [hσ]
      rw [e0]
      exact va_slen C.1 C.2.1 hX hbl hbA hS hd h9
  · exact h.elim
theorem s_icmpeqW (C : em_Cx p s m args c D cl A nL tys cc own) {pc t n : Nat} {off : Int} (hd : decode cc pc = .ok (.if_icmp .eq off, 3)) (ht : (pc : Int) + off = (t : Int)) (hn : pc + 3 = n) (hc : cnt n = cnt pc) (hc2 : (cnt pc).1 ≤ (cnt t).1 ∧ (cnt pc).2 ≤ (cnt t).2) : em_Snd p l e R s m args below meth c D cl dA σ A nL cnt Pr Z Q pc (o_icmpeq t n) := by
  intro k hk ls st hp h ρ arr H locs hr hl hP hD hS
  subst hn
  unfold o_icmpeq at h
  split at h
  · refine lv_icmp_eq C.1 C.2.1 hd ht (fun z => ?_) (fun z => ?_)
    · have h9 := hk _ _ _ _ (h.1 z) ρ arr H locs hr hl hP hD hS
      exact W.widen hc2.1 hc2.2 h9
    · have h9 := hk _ _ _ _ (h.2 z) ρ arr H locs hr hl hP hD hS
      rw [hc] at h9
      exact h9
  · exact h.elim
theorem s_icmpgtW (C : em_Cx p s m args c D cl A nL tys cc own) {pc t n : Nat} {off : Int} (hd : decode cc pc = .ok (.if_icmp .gt off, 3)) (ht : (pc : Int) + off = (t : Int)) (hn : pc + 3 = n) (hc : cnt n = cnt pc) (hc2 : (cnt pc).1 ≤ (cnt t).1 ∧ (cnt pc).2 ≤ (cnt t).2) : em_Snd p l e R s m args below meth c D cl dA σ A nL cnt Pr Z Q pc (o_icmpgt t n) := by
  intro k hk ls st hp h ρ arr H locs hr hl hP hD hS
  subst hn
  unfold o_icmpgt at h
  split at h
  · refine lv_icmp_gt C.1 C.2.1 hd ht (fun z => ?_) (fun z => ?_)
    · have h9 := hk _ _ _ _ (h.1 z) ρ arr H locs hr hl hP hD hS
      exact W.widen hc2.1 hc2.2 h9
    · have h9 := hk _ _ _ _ (h.2 z) ρ arr H locs hr hl hP hD hS
      rw [hc] at h9
      exact h9
  · exact h.elim
theorem s_ifeqW (C : em_Cx p s m args c D cl A nL tys cc own) {pc t n : Nat} {off : Int} (hd : decode cc pc = .ok (.ifCond .eq off, 3)) (ht : (pc : Int) + off = (t : Int)) (hn : pc + 3 = n) (hc : cnt n = cnt pc) (hc2 : (cnt pc).1 ≤ (cnt t).1 ∧ (cnt pc).2 ≤ (cnt t).2) : em_Snd p l e R s m args below meth c D cl dA σ A nL cnt Pr Z Q pc (o_ifeq t n) := by
  intro k hk ls st hp h ρ arr H locs hr hl hP hD hS
  subst hn
  unfold o_ifeq at h
  split at h
  · refine lv_if_eq C.1 C.2.1 hd ht (fun z => ?_) (fun z => ?_)
    · have h9 := hk _ _ _ _ (h.1 z) ρ arr H locs hr hl hP hD hS
      exact W.widen hc2.1 hc2.2 h9
    · have h9 := hk _ _ _ _ (h.2 z) ρ arr H locs hr hl hP hD hS
      rw [hc] at h9
      exact h9
  · exact h.elim
theorem s_swW (C : em_Cx p s m args c D cl A nL tys cc own) {pc d len : Nat} {Lt : List (Int32 × Nat)} {dflt lo hi : Int} {offs : Array Int} (hd : decode cc pc = .ok (.tableswitch dflt lo hi offs, len)) (hL : Lt = offs.toList.mapIdx (fun i o => (Int32.ofInt (lo + i), ((pc : Int) + o).toNat))) (hz : hi = lo + offs.size - 1 ∧ -1000 ≤ lo ∧ hi ≤ 1000 ∧ (∀ o ∈ offs.toList, (0 : Int) ≤ (pc : Int) + o)) (ht : (pc : Int) + dflt = (d : Int)) (hc : ∀ t, (cnt pc).1 ≤ (cnt t).1 ∧ (cnt pc).2 ≤ (cnt t).2) : em_Snd p l e R s m args below meth c D cl dA σ A nL cnt Pr Z Q pc (o_sw Lt d) := by
  intro k hk ls st hp h ρ arr H locs hr hl hP hD hS
  unfold o_sw at h
  split at h
  · rename_i x r
    rcases em_sw_to h with ⟨i, q, h1, h2, h3⟩ | ⟨h1, h2⟩
    · have h9 := hk _ _ _ _ h3 ρ arr H locs hr hl hP hD hS
      have h9 := W.widen (hc q.2).1 (hc q.2).2 h9
      rw [hL, List.getElem?_mapIdx] at h1
      have hlt : i < offs.toList.length := by
        rcases Nat.lt_or_ge i offs.toList.length with z | z
        · exact z
        · rw [List.getElem?_eq_none z] at h1; cases h1
      rw [List.getElem?_eq_getElem hlt] at h1
      cases h1
      have hsz : offs.toList.length = offs.size := by simp
      have hx : x.toInt = lo + i := by
        rw [h2]
        have a1 : (i : Int) < offs.size := by omega
        rw [Int32.toInt_ofInt_of_le (by omega) (by omega)]
      have e1 : (x.toInt - lo).toNat = i := by omega
      have hmem := hz.2.2.2 _ (List.getElem_mem hlt)
      refine lv_tableIn (off := offs.toList[i]) (tgt := ((pc : Int) + offs.toList[i]).toNat) C.1 C.2.1 hd (by omega) (by omega) ?_ (by omega) h9
      rw [e1]
      rw [← Array.getElem?_toList, List.getElem?_eq_getElem hlt]
    · have h9 := hk _ _ _ _ h2 ρ arr H locs hr hl hP hD hS
      have h9 := W.widen (hc d).1 (hc d).2 h9
      refine lv_tableOut C.1 C.2.1 hd ?_ ht h9
      rcases Int.lt_or_le x.toInt lo with z | z
      · exact Or.inl z
      · rcases Int.lt_or_le hi x.toInt with z2 | z2
        · exact Or.inr z2
        · exfalso
          have hsz : offs.toList.length = offs.size := by simp
          have hlt : (x.toInt - lo).toNat < offs.toList.length := by omega
          refine h1 (Int32.ofInt (lo + (x.toInt - lo).toNat), ((pc : Int) + offs.toList[(x.toInt - lo).toNat]).toNat) ?_ ?_
          · rw [hL]
            refine List.mem_of_getElem? (i := (x.toInt - lo).toNat) ?_
            rw [List.getElem?_mapIdx, List.getElem?_eq_getElem hlt]
            rfl
          · show x = Int32.ofInt (lo + (x.toInt - lo).toNat)
            rw [show lo + ((x.toInt - lo).toNat : Int) = x.toInt by omega]
            simp
  · exact h.elim
/-- back to the loop's head, a new turn -/
def o_gotoX (X : em_L → List Value → em_H → Prop) : em_Op := fun _ _ ls st hp => X ls st hp
theorem s_gotoX (C : em_Cx p s m args c D cl A nL tys cc own) {cnt' : Nat → Nat × Nat} {X : em_L → List Value → em_H → Prop} {pc : Nat} {off : Int} {t : Nat} (hd : decode cc pc = .ok (.goto off, 3)) (ht : (pc : Int) + off = (t : Int)) (hc : (cnt pc).1 ≤ (cnt' t).1 ∧ (cnt pc).2 ≤ (cnt' t).2) (hX : ∀ ls st hp, X ls st hp → em_Ok p l e R s m args below meth c D cl dA σ A nL cnt' Pr Z t ls st hp) : em_Snd p l e R s m args below meth c D cl dA σ A nL cnt Pr Z Q pc (o_gotoX X) := by
  intro k hk ls st hp h ρ arr H locs hr hl hP hD hS
  have h9 := hX _ _ _ h ρ arr H locs hr hl hP hD hS
  exact W.widen hc.1 hc.2 (lv_goto C.1 C.2.1 hd ht h9)
end EMG
/-- the law's end -/
def o_lawret : em_Op := fun _ _ _ st _ => st = [.int 1]
theorem s_lawret {p : Program} {l : Launch} {e : Env} {s : State} {m : MethodId} {below : List Frame} {meth : Method} {c : Code} {D : va_G} {cl : List vw_C} {dA : Nat → ClassId} {σ : Nat → Nat} {A : Nat → Prop} {nL : Nat} {cnt : Nat → Nat × Nat} {Pr : (Nat → Nat) → Prop} {Q : em_Q} {own : String} {tys : List (ClassId × FieldType)} {b pc : Nat} (C : em_Cx p s m #[Value.ref b] c D cl A nL tys code own) (hd : decode code pc = .ok (.ireturn, 1)) (hr : meth.sig.returnType = ret) (hlk : meth.locks = false) (hA : ∀ q, A q → s.heap.size ≤ q) (hcm : (cnt pc).1 ≤ 600000 ∧ (cnt pc).2 ≤ 7302250) : em_Snd p l e room_1 s m #[Value.ref b] below meth c D cl dA σ A nL cnt Pr (lw_Z below #[Value.ref b] s) Q pc o_lawret := by
  intro k hk ls st hp h ρ arr H locs hr0 hl hP hD hS
  unfold o_lawret at h
  subst h
  refine va_forget (fun q hq => hA _ (hS.2.2 q hq)) ?_
  refine W.widen hcm.1 hcm.2 ?_
  exact lw_ret C.1 C.2.1 hr hlk hd
/-! how many cells and elements: at the law's start, and in the k-th turn -/
def cntP : Nat → Nat × Nat := em_cn [(3, 1, 7), (7, 24, 536), (11, 25, 560), (15, 39, 1682)] (0, 0)
def cntL (k : Nat) : Nat → Nat × Nat := fun pc => bif Nat.blt pc 1179 then (39 + 8 * k, 1682 + 83 * k) else (39 + 8 * k + 8, 1682 + 83 * k + 83)
theorem cntL_b (k pc : Nat) : 39 + 8 * k ≤ (cntL k pc).1 ∧ 1682 + 83 * k ≤ (cntL k pc).2 ∧ (cntL k pc).1 ≤ 39 + 8 * k + 8 ∧ (cntL k pc).2 ≤ 1682 + 83 * k + 83 := by
  unfold cntL
  cases Nat.blt pc 1179 with
  | true => dsimp only [cond_true]; omega
  | false => dsimp only [cond_false]; omega
theorem cntL_le {k pc t : Nat} (h : pc < 1179 ∨ 1179 ≤ t) : (cntL k pc).1 ≤ (cntL k t).1 ∧ (cntL k pc).2 ≤ (cntL k t).2 := by
  rcases h with h | h
  · have e : cntL k pc = (39 + 8 * k, 1682 + 83 * k) := by unfold cntL; rw [show Nat.blt pc 1179 = true from Nat.ble_eq_true_of_le h]; rfl
    have := cntL_b k t
    rw [e]
    exact ⟨this.1, this.2.1⟩
  · have e : cntL k t = (39 + 8 * k + 8, 1682 + 83 * k + 83) := by
      unfold cntL
      cases hb : Nat.blt t 1179 with
      | false => rfl
      | true => exact absurd (Nat.le_of_ble_eq_true hb) (Nat.not_le.mpr (Nat.lt_succ_of_le h))
    have := cntL_b k pc
    rw [e]
    exact ⟨this.2.2.1, this.2.2.2⟩
theorem cntL_le0 {k t : Nat} : (cntL k 32).1 ≤ (cntL k t).1 ∧ (cntL k 32).2 ≤ (cntL k t).2 := cntL_le (Or.inl (by decide))
theorem cntL_up {k pc t : Nat} : (cntL k pc).1 ≤ (cntL (k + 1) t).1 ∧ (cntL k pc).2 ≤ (cntL (k + 1) t).2 := by
  have h1 := cntL_b k pc
  have h2 := cntL_b (k + 1) t
  omega
theorem cntL_0 {k pc : Nat} (h : k ≤ 64) : (cntL k pc).1 + 0 ≤ room_1.cells ∧ (cntL k pc).2 + 0 ≤ room_1.slots := by
  have h1 := cntL_b k pc
  show _ ≤ 600000 ∧ _ ≤ 7302250
  omega
theorem cntL_8 {k pc : Nat} (h : k ≤ 64) : (cntL k pc).1 + 8 ≤ room_1.cells ∧ (cntL k pc).2 + 83 ≤ room_1.slots := by
  have h1 := cntL_b k pc
  show _ ≤ 600000 ∧ _ ≤ 7302250
  omega
theorem cntL_r {k pc : Nat} (h : k ≤ 64) : (cntL k pc).1 ≤ 600000 ∧ (cntL k pc).2 ≤ 7302250 := by
  have h1 := cntL_b k pc
  omega
/-! two towns changed for one another -/
def swp (k : Nat) : Nat := if 8 ≤ k ∧ k < 16 then k + 8 else if 16 ≤ k ∧ k < 24 then k - 8 else k
theorem swp_swp (k : Nat) : swp (swp k) = k := by
  unfold swp
  by_cases h1 : 8 ≤ k ∧ k < 16
  · rw [if_pos h1, if_neg (by omega), if_pos (by omega)]; omega
  · rw [if_neg h1]
    by_cases h2 : 16 ≤ k ∧ k < 24
    · rw [if_pos h2, if_pos (by omega)]; omega
    · rw [if_neg h2, if_neg h1, if_neg h2]
theorem swp_hi {k : Nat} (h : 24 ≤ k) : swp k = k := by
  unfold swp
  rw [if_neg (by omega), if_neg (by omega)]
def em_rnV : Value → Value
  | .ref a => .ref (swp a)
  | v => v
def em_rnE : va_E → va_E
  | .inr (c, fs) => .inr (c, fs.map em_rnV)
  | .inl (t, n, .inr (.inr (.inr (.inr f)))) => .inl (t, n, .inr (.inr (.inr (.inr (fun i => (f i).map swp)))))
  | x => x
def SWP (hp hp' : em_H) : Prop := ∀ j, hp'[j]? = (hp[swp j]?).map em_rnE
theorem em_rnV_v {σ ρ : Nat → Nat} (v : Value) : em_v σ (fun i => ρ (swp i)) (em_rnV v) = em_v σ ρ v := by
  cases v with
  | ref a => show Value.ref (ρ (swp (swp a))) = Value.ref (ρ a); rw [swp_swp]
  | _ => rfl
theorem em_rnE_e {σ ρ : Nat → Nat} {dA : Nat → ClassId} (x : va_E) : em_e σ dA (fun i => ρ (swp i)) (em_rnE x) = em_e σ dA ρ x := by
  match x with
  | .inr (c, fs) =>
    show Sum.inr (c, _) = Sum.inr (c, _)
    rw [List.map_map]
    congr 2
    exact List.map_congr_left (fun v _ => em_rnV_v v)
  | .inl (t, n, .inl f) => rfl
  | .inl (t, n, .inr (.inl f)) => rfl
  | .inl (t, n, .inr (.inr (.inl f))) => rfl
  | .inl (t, n, .inr (.inr (.inr (.inl f)))) => rfl
  | .inl (t, n, .inr (.inr (.inr (.inr f)))) =>
    show Sum.inl (dA t, n, _) = Sum.inl (dA t, n, _)
    congr 7
    funext i
    show Option.map (fun i => ρ (swp i)) (Option.map swp (f i)) = Option.map ρ (f i)
    cases f i with
    | none => rfl
    | some q => show some (ρ (swp (swp q))) = some (ρ q); rw [swp_swp]
theorem em_w_swp {σ ρ : Nat → Nat} {dA : Nat → ClassId} {hp hp' : em_H} (h : SWP hp hp') (j : Nat) : (em_w σ dA (fun i => ρ (swp i)) hp')[j]? = (em_w σ dA ρ hp)[swp j]? := by
  simp only [em_w, List.getElem?_mapIdx]
  rw [h j]
  cases hp[swp j]? with
  | none => rfl
  | some x => show some (ρ (swp j), em_e σ dA (fun i => ρ (swp i)) (em_rnE x)) = some (ρ (swp j), em_e σ dA ρ x); rw [em_rnE_e]
theorem em_Ok_swp {p : Program} {l : Launch} {e : Env} {R : Room} {s : State} {m : MethodId} {args : Array Value} {below : List Frame} {meth : Method} {c : Code} {D : va_G} {cl : List vw_C} {dA : Nat → ClassId} {σ : Nat → Nat} {A : Nat → Prop} {nL : Nat} {cnt : Nat → Nat × Nat} {Z : State → Prop} {pc : Nat} {ls : em_L} {hp hp' : em_H} (h : SWP hp hp') (hls : ∀ i v, em_nth ls i = some v → em_rnV v = v) (k : em_Ok p l e R s m args below meth c D cl dA σ A nL cnt (fun _ => True) Z pc ls [] hp') : em_Ok p l e R s m args below meth c D cl dA σ A nL cnt (fun _ => True) Z pc ls [] hp := by
  intro ρ arr H locs hr hl hP hD hS
  refine k (fun i => ρ (swp i)) arr H locs trivial ⟨hl.1, hl.2.1, hl.2.2.1, fun q hq => ?_⟩ (fun j q hq => ?_) ⟨fun i j x y hi hj hxy => ?_, fun j q hq => ?_⟩ hS
  · obtain ⟨i, v, h1, rfl⟩ := em_al_to _ 0 q hq
    have h2 := hls i v h1
    have h3 := em_rnV_v (σ := σ) (ρ := ρ) v
    rw [h2] at h3
    rw [Nat.zero_add, h3]
    exact hl.at h1
  · rw [em_w_swp h] at hq
    exact hP _ q hq
  · rw [em_w_swp h] at hi hj
    have := hD.1 _ _ x y hi hj hxy
    rw [← swp_swp i, this, swp_swp]
  · rw [em_w_swp h] at hq
    exact hD.2 _ q hq
/-! ===== the law's world ===== -/
/-- the reference's cells, at the places from 24 on, and what lies behind them -/
def wM24 (bk : Nat → Int32) (imm : Nat → Int32) (kp : Nat → Int32) (asd : Nat → Int32) (rfm : Nat → Int32) (qt : Int32) (ab : Int64) (be : Int64) (tx : Nat → Int32) (ty : Int32) (at9 : Int32) (st9 : Int32) (tk : Int32) (vl : Int32) (wd : Int64) (it : Nat → Int32) (mn : Int32) (so : Nat → Int32) (sb : Nat → Int64) (my : Nat → Int32) (wem : Nat → Int32) (be9 : Nat → Int32) (rw : Nat → Int32) (fr : Nat → Int32) (G : em_H) : em_H := .inr (5, [.ref 25, .ref 26, .ref 27, .ref 28, .ref 29, .int qt, .long ab, .long be, .ref 30, .int ty, .int at9, .int st9, .int tk, .int vl, .long wd, .ref 31, .int mn, .ref 32, .ref 33, .ref 34, .ref 35, .ref 36, .ref 37, .ref 38]) :: .inl (0, 146, .inl bk) :: .inl (0, 292, .inl imm) :: .inl (3, 2, .inl kp) :: .inl (0, 146, .inl asd) :: .inl (0, 3, .inl rfm) :: .inl (0, 150, .inl tx) :: .inl (0, 150, .inl it) :: .inl (0, 6, .inl so) :: .inl (1, 201, .inr (.inl sb)) :: .inl (0, 6, .inl my) :: .inl (0, 6, .inl wem) :: .inl (0, 6, .inl be9) :: .inl (0, 4, .inl rw) :: .inl (0, 4, .inl fr) :: G
/-- the class, its spare town, the reference, the towns kept -/
def wL (by9 : Nat → Int32) (tln : Int32) (tst : Int32) (ten : Int32) (mm : Nat → Int64) (fa9 : Int32) (fb9 : Int32) (rf : Nat → Int32) (im : Nat → Option Nat) (pe : Int32) (ki : Nat → Int32) (mi : Int64) (se : Int64) (we : Int32) (lea : Int32) (mst : Int32) (pa : Int32) (fi : Nat → Int32) (sd : Nat → Int32) (ev : Int32) (un : Int32) (ma : Nat → Int64) (ea : Nat → Int32) (co : Int32) (ca : Nat → Int32) (clt : Nat → Int32) (pe0 : Int32) (ki0 : Nat → Int32) (mi0 : Int64) (se0 : Int64) (we0 : Int32) (lea0 : Int32) (mst0 : Int32) (pa0 : Int32) (fi0 : Nat → Int32) (sd0 : Nat → Int32) (ev0 : Int32) (un0 : Int32) (ma0 : Nat → Int64) (ea0 : Nat → Int32) (co0 : Int32) (ca0 : Nat → Int32) (clt0 : Nat → Int32) (bk : Nat → Int32) (imm : Nat → Int32) (kp : Nat → Int32) (asd : Nat → Int32) (rfm : Nat → Int32) (qt : Int32) (ab : Int64) (be : Int64) (tx : Nat → Int32) (ty : Int32) (at9 : Int32) (st9 : Int32) (tk : Int32) (vl : Int32) (wd : Int64) (it : Nat → Int32) (mn : Int32) (so : Nat → Int32) (sb : Nat → Int64) (my : Nat → Int32) (wem : Nat → Int32) (be9 : Nat → Int32) (rw : Nat → Int32) (fr : Nat → Int32) (G : em_H) : em_H := wX by9 tln tst ten mm fa9 fb9 rf im pe ki mi se we lea mst pa fi sd ev un ma ea co ca clt (tw16 pe0 ki0 mi0 se0 we0 lea0 mst0 pa0 fi0 sd0 ev0 un0 ma0 ea0 co0 ca0 clt0 (wM24 bk imm kp asd rfm qt ab be tx ty at9 st9 tk vl wd it mn so sb my wem be9 rw fr G ))
/-- the towns kept, on both sides -/
def IMG (nn : Nat) (im : Nat → Option Nat) (kp : Nat → Int32) (IM : Nat → Nat) (G : em_H) : Prop :=
  (∀ j, 2 ≤ j → im j = none) ∧ ((im 0 = none ∧ im 1 = none ∧ kp 0 = 0 ∧ kp 1 = 0 ∧ G = []) ∨
  (∃ i pe0 ki0 mi0 se0 we0 lea0 mst0 pa0 fi0 sd0 ev0 un0 ma0 ea0 co0 ca0 clt0, i < 2 ∧ im i = some 39 ∧ im (1 - i) = none ∧ kp i = 1 ∧ kp (1 - i) = 0 ∧ G = twn 39 pe0 ki0 mi0 se0 we0 lea0 mst0 pa0 fi0 sd0 ev0 un0 ma0 ea0 co0 ca0 clt0 [] ∧ RT nn (fun j => IM (146 * i + j)) pe0 ki0 mi0 se0 we0 lea0 mst0 pa0 fi0 sd0 ev0 un0 ma0 ea0 co0 ca0 clt0) ∨
  (∃ i pe0 ki0 mi0 se0 we0 lea0 mst0 pa0 fi0 sd0 ev0 un0 ma0 ea0 co0 ca0 clt0 pe1 ki1 mi1 se1 we1 lea1 mst1 pa1 fi1 sd1 ev1 un1 ma1 ea1 co1 ca1 clt1, i < 2 ∧ im i = some 39 ∧ im (1 - i) = some 47 ∧ kp i = 1 ∧ kp (1 - i) = 1 ∧ G = twn 39 pe0 ki0 mi0 se0 we0 lea0 mst0 pa0 fi0 sd0 ev0 un0 ma0 ea0 co0 ca0 clt0 (twn 47 pe1 ki1 mi1 se1 we1 lea1 mst1 pa1 fi1 sd1 ev1 un1 ma1 ea1 co1 ca1 clt1 []) ∧ RT nn (fun j => IM (146 * i + j)) pe0 ki0 mi0 se0 we0 lea0 mst0 pa0 fi0 sd0 ev0 un0 ma0 ea0 co0 ca0 clt0 ∧ RT nn (fun j => IM (146 * (1 - i) + j)) pe1 ki1 mi1 se1 we1 lea1 mst1 pa1 fi1 sd1 ev1 un1 ma1 ea1 co1 ca1 clt1))
theorem IMG_mono {nn nn' : Nat} {im : Nat → Option Nat} {kp : Nat → Int32} {IM : Nat → Nat} {G : em_H} (h : IMG nn im kp IM G) (hn : nn ≤ nn') : IMG nn' im kp IM G := by
  obtain ⟨h0, h | ⟨i, pe0, ki0, mi0, se0, we0, lea0, mst0, pa0, fi0, sd0, ev0, un0, ma0, ea0, co0, ca0, clt0, a, b, c, d, e, f, g⟩ | ⟨i, pe0, ki0, mi0, se0, we0, lea0, mst0, pa0, fi0, sd0, ev0, un0, ma0, ea0, co0, ca0, clt0, pe1, ki1, mi1, se1, we1, lea1, mst1, pa1, fi1, sd1, ev1, un1, ma1, ea1, co1, ca1, clt1, a, b, c, d, e, f, g, g2⟩⟩ := h
  · exact ⟨h0, Or.inl h⟩
  · exact ⟨h0, Or.inr (Or.inl ⟨i, _, _, _, _, _, _, _, _, _, _, _, _, _, _, _, _, _, a, b, c, d, e, f, RT_mono g hn⟩)⟩
  · exact ⟨h0, Or.inr (Or.inr ⟨i, _, _, _, _, _, _, _, _, _, _, _, _, _, _, _, _, _, _, _, _, _, _, _, _, _, _, _, _, _, _, _, _, _, _, a, b, c, d, e, f, RT_mono g hn, RT_mono g2 hn⟩)⟩
/-- class and reference hold the same, nn calls behind the start -/
def INV (nn : Nat) (hp : em_H) : Prop := ∃ by9 tln tst ten mm fa9 fb9 rf im pe ki mi se we lea mst pa fi sd ev un ma ea co ca clt pe0 ki0 mi0 se0 we0 lea0 mst0 pa0 fi0 sd0 ev0 un0 ma0 ea0 co0 ca0 clt0 bk imm kp asd rfm qt ab be tx ty at9 st9 tk vl wd it mn so sb my wem be9 rw fr G B C L9 S IM, hp = (wL by9 tln tst ten mm fa9 fb9 rf im pe ki mi se we lea mst pa fi sd ev un ma ea co ca clt pe0 ki0 mi0 se0 we0 lea0 mst0 pa0 fi0 sd0 ev0 un0 ma0 ea0 co0 ca0 clt0 bk imm kp asd rfm qt ab be tx ty at9 st9 tk vl wd it mn so sb my wem be9 rw fr G) ∧ (RT nn B pe ki mi se we lea mst pa fi sd ev (un) ma ea co ca clt) ∧ (∀ j, j < 10 → clt0 j = 0 ∨ clt0 j = 1) ∧ TY by9 tln C L9 ∧ TX tx ty C L9 ∧ bk = nB B ∧ imm = nB IM ∧ rf = rfm ∧ qt = 0 ∧ ab = fa9.toInt64 ∧ be = fb9.toInt64 ∧ so = nB S ∧ Z6 S ∧ Z6i my ∧ IMG nn im kp IM G
theorem INV_i {nn : Nat} {by9 : Nat → Int32} {tln : Int32} {tst : Int32} {ten : Int32} {mm : Nat → Int64} {fa9 : Int32} {fb9 : Int32} {rf : Nat → Int32} {im : Nat → Option Nat} {pe : Int32} {ki : Nat → Int32} {mi : Int64} {se : Int64} {we : Int32} {lea : Int32} {mst : Int32} {pa : Int32} {fi : Nat → Int32} {sd : Nat → Int32} {ev : Int32} {un : Int32} {ma : Nat → Int64} {ea : Nat → Int32} {co : Int32} {ca : Nat → Int32} {clt : Nat → Int32} {pe0 : Int32} {ki0 : Nat → Int32} {mi0 : Int64} {se0 : Int64} {we0 : Int32} {lea0 : Int32} {mst0 : Int32} {pa0 : Int32} {fi0 : Nat → Int32} {sd0 : Nat → Int32} {ev0 : Int32} {un0 : Int32} {ma0 : Nat → Int64} {ea0 : Nat → Int32} {co0 : Int32} {ca0 : Nat → Int32} {clt0 : Nat → Int32} {bk : Nat → Int32} {imm : Nat → Int32} {kp : Nat → Int32} {asd : Nat → Int32} {rfm : Nat → Int32} {qt : Int32} {ab : Int64} {be : Int64} {tx : Nat → Int32} {ty : Int32} {at9 : Int32} {st9 : Int32} {tk : Int32} {vl : Int32} {wd : Int64} {it : Nat → Int32} {mn : Int32} {so : Nat → Int32} {sb : Nat → Int64} {my : Nat → Int32} {wem : Nat → Int32} {be9 : Nat → Int32} {rw : Nat → Int32} {fr : Nat → Int32} {G : em_H} {B C S IM : Nat → Nat} {L9 : Nat} (h1 : (RT nn B pe ki mi se we lea mst pa fi sd ev (un) ma ea co ca clt)) (h2 : ∀ j, j < 10 → clt0 j = 0 ∨ clt0 j = 1) (h3 : TY by9 tln C L9) (h4 : TX tx ty C L9) (h5 : bk = nB B) (h6 : imm = nB IM) (h7 : rf = rfm) (h8 : qt = 0) (h9 : ab = fa9.toInt64) (h10 : be = fb9.toInt64) (h11 : so = nB S) (h12 : Z6 S) (h13 : Z6i my) (h14 : IMG nn im kp IM G) : INV nn (wL by9 tln tst ten mm fa9 fb9 rf im pe ki mi se we lea mst pa fi sd ev un ma ea co ca clt pe0 ki0 mi0 se0 we0 lea0 mst0 pa0 fi0 sd0 ev0 un0 ma0 ea0 co0 ca0 clt0 bk imm kp asd rfm qt ab be tx ty at9 st9 tk vl wd it mn so sb my wem be9 rw fr G) :=
  ⟨_, _, _, _, _, _, _, _, _, _, _, _, _, _, _, _, _, _, _, _, _, _, _, _, _, _, _, _, _, _, _, _, _, _, _, _, _, _, _, _, _, _, _, _, _, _, _, _, _, _, _, _, _, _, _, _, _, _, _, _, _, _, _, _, _, _, _, _, _, _, _, _, _, rfl, h1, h2, h3, h4, h5, h6, h7, h8, h9, h10, h11, h12, h13, h14⟩
/-- the law's locals in its k-th turn -/
abbrev LwS (k : Nat) : em_L := [some (.retAddr 11), some (.ref 0), some (.ref 24), some (.int (nI (5 * k)))]
theorem rf_bad {rf : Nat → Int32} : rfu rf (-2) = rfM 0 rf 0 := rfl
theorem rf_bad10 {rf : Nat → Int32} : rfu rf (-10) = rfM 0 rf 0 := rfl
theorem rf_no {rf : Nat → Int32} : rfu rf (-3) = rfM 0 rf 1 := rfl
theorem rf_full {rf : Nat → Int32} : rfu rf (-4) = rfM 0 rf 2 := rfl
