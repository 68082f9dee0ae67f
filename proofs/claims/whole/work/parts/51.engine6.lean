/-! ===== constructors called; calls that make cells; a call over two towns wherever they lie ===== -/
/-- how many cells and elements have been made, by the place -/
def em_cn : List (Nat × Nat × Nat) → Nat × Nat → Nat → Nat × Nat
  | [], a, _ => a
  | (p, c, s) :: r, a, pc => bif Nat.blt pc p then a else em_cn r (c, s) pc
def em_fr : em_H → (em_H → va_E → Prop) → Prop
  | [], _ => False
  | x :: [], k => k [] x
  | x :: y :: r, k => em_fr (y :: r) (fun f z => k (x :: f) z)
theorem em_fr_to : ∀ {hp : em_H} {k : em_H → va_E → Prop}, em_fr hp k → ∃ f z, hp = f ++ [z] ∧ k f z
  | [], k, h => h.elim
  | x :: [], k, h => ⟨[], x, rfl, h⟩
  | x :: y :: r, k, h => by
    obtain ⟨f, z, h1, h2⟩ := em_fr_to (hp := y :: r) h
    exact ⟨x :: f, z, by rw [h1]; rfl, h2⟩
def em_shV (b : Nat) : Value → Value
  | .ref j => .ref (b + j)
  | v => v
def em_shE (b : Nat) : va_E → va_E
  | .inr (c, fs) => .inr (c, fs.map (em_shV b))
  | .inl (t, n, .inr (.inr (.inr (.inr f)))) => .inl (t, n, .inr (.inr (.inr (.inr (fun i => (f i).map (fun j => b + j))))))
  | x => x
theorem em_shE_e {σ ρ ρ' : Nat → Nat} {dA : Nat → ClassId} {b : Nat} (hr : ∀ j, ρ (b + j) = ρ' j) (x : va_E) : em_e σ dA ρ (em_shE b x) = em_e σ dA ρ' x := by
  match x with
  | .inr (c, fs) =>
    show Sum.inr (c, _) = Sum.inr (c, _)
    rw [List.map_map]
    congr 2
    refine List.map_congr_left (fun v _ => ?_)
    cases v with
    | ref a => show Value.ref (ρ (b + a)) = Value.ref (ρ' a); rw [hr]
    | _ => rfl
  | .inl (t, n, .inl f) => rfl
  | .inl (t, n, .inr (.inl f)) => rfl
  | .inl (t, n, .inr (.inr (.inl f))) => rfl
  | .inl (t, n, .inr (.inr (.inr (.inl f)))) => rfl
  | .inl (t, n, .inr (.inr (.inr (.inr f)))) =>
    show Sum.inl (dA t, n, _) = Sum.inl (dA t, n, _)
    congr 7
    funext i
    show Option.map ρ (Option.map (fun j => b + j) (f i)) = Option.map ρ' (f i)
    cases f i with
    | none => rfl
    | some q => show some (ρ (b + q)) = some (ρ' q); rw [hr]
theorem em_w_app2 {σ ρ ρ' : Nat → Nat} {dA : Nat → ClassId} {b : Nat} {f g : em_H} (hb : f.length = b) (hr : ∀ j, ρ (b + j) = ρ' j) : em_w σ dA ρ (f ++ g.map (em_shE b)) = em_w σ dA ρ f ++ em_w σ dA ρ' g := by
  apply List.ext_getElem?
  intro k
  rw [List.getElem?_append]
  simp only [em_w, List.length_mapIdx, List.getElem?_mapIdx]
  rw [List.getElem?_append]
  by_cases h : k < f.length
  · rw [if_pos h, if_pos h]
  · rw [if_neg h, if_neg h, List.getElem?_map]
    cases g[k - f.length]? with
    | none => rfl
    | some x =>
      simp only [Option.map_some]
      have e : ρ k = ρ' (k - f.length) := by rw [← hr, ← hb, show f.length + (k - f.length) = k by omega]
      rw [em_shE_e hr, e]
/-- two worlds side by side: the one as it was but for what the other may have changed -/
theorem em_D_app {A : Nat → Prop} {w1 w2 : va_W} (h1 : va_D A w1) (h2 : va_D A w2) (hx : ∀ (i j : Nat) (p q : Nat × va_E), w1[i]? = some p → w2[j]? = some q → p.1 ≠ q.1) : va_D A (w1 ++ w2) := by
  refine ⟨fun i j p q hi hj hpq => ?_, fun k q hk => ?_⟩
  · rw [List.getElem?_append] at hi hj
    by_cases ci : i < w1.length
    · rw [if_pos ci] at hi
      by_cases cj : j < w1.length
      · rw [if_pos cj] at hj
        exact h1.1 i j p q hi hj hpq
      · rw [if_neg cj] at hj
        exact absurd hpq (hx _ _ _ _ hi hj)
    · rw [if_neg ci] at hi
      by_cases cj : j < w1.length
      · rw [if_pos cj] at hj
        exact absurd hpq.symm (hx _ _ _ _ hj hi)
      · rw [if_neg cj] at hj
        have := h2.1 _ _ p q hi hj hpq
        omega
  · rw [List.getElem?_append] at hk
    by_cases ck : k < w1.length
    · rw [if_pos ck] at hk
      exact h1.2 _ _ hk
    · rw [if_neg ck] at hk
      exact h2.2 _ _ hk
section EMF
variable {p : Program} {l : Launch} {e : Env} {R : Room} {s : State} {m : MethodId} {args : Array Value} {below : List Frame} {meth : Method} {c : Code} {D : va_G} {cl : List vw_C} {dA : Nat → ClassId} {σ : Nat → Nat} {A : Nat → Prop} {nL : Nat} {cnt : Nat → Nat × Nat} {Pr : (Nat → Nat) → Prop} {Z : State → Prop}
variable {cc : ByteArray} {Q : em_Q} {own : String}
/-- a constructor without arguments, of the cell that was made last -/
def o_callI (N0 : Nat) (sp : em_Sp) (n : Nat) : em_Op := fun _ K ls st hp => match st with
  | .ref b :: r => bif Nat.ble (em_cat r) 8 then em_fr hp (fun f z => f.length = b ∧ N0 ≤ b + 1 ∧ (em_okl (b + 1) ls && em_oks (b + 1) r) = true ∧ em_okH (b + 1) f ∧ em_okE 0 z ∧ sp [.ref 0] [z] (fun v lw' => v = none ∧ em_ap f (lw'.map (em_shE b)) (fun hp2 => K n ls r hp2))) else False
  | _ => False
theorem s_callI (C : em_Cx p s m args c D cl A nL (em_tys dA) cc own) {F : em_FT} {N0 : Nat} (hPr : ∀ ρ ρ' : Nat → Nat, Pr ρ → (∀ k, k < N0 → ρ' k = ρ k) → Pr ρ') {pc n index maxL mc ms : Nat} {y : MethodName} {bytes : ByteArray} {rm : Room} {sp : em_Sp} (hFok : em_Fok F) (hF : F A s s.heap) (hM : em_CA l D cl dA σ F 1 y bytes maxL none rm sp mc ms) (hrm : rm.cells = mc ∧ rm.slots = ms) (hw1 : Cond.code y bytes maxL none ∈ em_tb) (hwl : Cond.methodLink own index y ∈ em_tb) (hws : Cond.instanceMethod y ∈ em_tb) (hwi : Cond.initialized y.cls ∈ em_tb) (hy : y.name = "<init>") (hd2 : y.cls ≠ "java/lang/invoke/MethodHandle" ∧ y.cls ≠ "java/lang/invoke/VarHandle" ∧ (parseMethodDescriptor y.desc).map (fun d => d.parameters.length) = some 0) (hR : rm.frames + 1 ≤ R.frames ∧ 8 + (maxL + 11) + rm.locals ≤ R.locals) (hd : decode cc pc = .ok (.invokespecial index, 3)) (hn : pc + 3 = n) (hc : cnt n = ((cnt pc).1 + mc, (cnt pc).2 + ms)) (hcr : (cnt pc).1 + mc ≤ R.cells ∧ (cnt pc).2 + ms ≤ R.slots) : em_Snd p l e R s m args below meth c D cl dA σ A nL cnt Pr Z Q pc (o_callI N0 sp n) := by
  intro k hk ls st hp h ρ arr H locs hr hl hP hD hS
  subst hn
  unfold o_callI at h
  split at h
  · rename_i b0 r
    obtain ⟨b, hb0⟩ : ∃ b : Nat, b = b0 := ⟨b0, rfl⟩
    subst hb0
    cases hb8 : Nat.ble (em_cat r) 8 with
    | false => rw [hb8] at h; exact h.elim
    | true =>
      rw [hb8] at h
      have h8 := Nat.le_of_ble_eq_true hb8
      obtain ⟨f, z, rfl, hb, hN0, hok, hokF, hokz, hsp⟩ := em_fr_to h
      have hok := Bool.and_eq_true_iff.mp hok
      obtain ⟨ρc, hρc⟩ : ∃ ρc : Nat → Nat, ρc = fun i => ρ (b + i) := ⟨_, rfl⟩
      have hρc0 : ρc 0 = ρ b := by rw [hρc]; rfl
      have hw : em_w σ dA ρ (f ++ [z]) = em_w σ dA ρ f ++ [(ρ b, em_e σ dA ρ z)] := by rw [em_w_app, hb]
      have hwc : em_w σ dA ρc [z] = [(ρ b, em_e σ dA ρ z)] := by
        show [(ρc 0, em_e σ dA ρc z)] = _
        rw [hρc0, em_okE_e (n := 0) (ρ := ρ) (fun k hk => by omega) hokz]
      have hwb : (em_w σ dA ρ (f ++ [z]))[b]? = some (ρ b, em_e σ dA ρ z) := by
        rw [hw, List.getElem?_append_right (by rw [em_w_len, hb]; exact Nat.le_refl _), em_w_len, hb, Nat.sub_self]; rfl
      have hwf : ∀ (i : Nat) (q : Nat × va_E), (em_w σ dA ρ f)[i]? = some q → (em_w σ dA ρ (f ++ [z]))[i]? = some q ∧ i < b := fun i q hq => by
        have hi : i < (em_w σ dA ρ f).length := (List.getElem?_eq_some_iff.mp hq).1
        exact ⟨by rw [hw, List.getElem?_append_left hi]; exact hq, by rw [em_w_len, hb] at hi; exact hi⟩
      have h1 : ∀ (i : Nat) (q : Nat × va_E), [(ρ b, em_e σ dA ρ z)][i]? = some q → i = 0 ∧ q = (ρ b, em_e σ dA ρ z) := fun i q hq => by
        cases i with
        | zero => exact ⟨rfl, (Option.some.inj hq).symm⟩
        | succ i => cases hq
      have hPl : va_P D cl (em_w σ dA ρc [z]) H := by
        rw [hwc]
        intro i q hq
        rw [(h1 i q hq).2]
        exact hP b _ hwb
      have hDl : va_D A (em_w σ dA ρc [z]) := by
        rw [hwc]
        refine ⟨fun i j p q hi hj _ => by rw [(h1 i p hi).1, (h1 j q hj).1], fun i q hq => ?_⟩
        rw [(h1 i q hq).2]
        exact hD.2 b _ hwb
      obtain ⟨hbl, hpr, hFc⟩ := em_pre (av := [.ref 0]) C hFok hF hPl hDl hS
      have hG : GoodIn em_tb (Cond.code y bytes maxL none :: em_tb) := fun w hw => by
        rcases List.mem_cons.mp hw with rfl | hw
        · exact em_tb_good _ hw1
        · exact em_tb_good _ hw
      have cw := cwI (R := R) (s := s) (args := args) (own := own) (index := index) (y := y) (bytes := bytes) (maxL := maxL) (rm := rm) 0 C.2.2.2.2.1 hG rfl hrm.1 hrm.2 (C.2.2.2.2.1 _ hwi) (C.2.2.2.2.1 _ hwl) (C.2.2.2.2.1 _ hws) hy hd2 hR
      have hrun := va_runI (b := ρ b) (As := []) (rest := r.map (em_v σ ρ)) (g := F0 m pc arr (.ref (ρ b) :: r.map (em_v σ ρ))) (cells := (cnt pc).1) (slots := (cnt pc).2) (meth := meth) (locs := locs) (e := e) (below := below) ⟨C.1, C.2.1, C.2.2.1, C.2.2.2.1, C.2.2.2.2.1⟩ (hM ρc [z] H.size [.ref 0] _ hsp) cw (by rw [← hρc0]; exact ⟨hbl, hpr⟩) rfl rfl hl.2.1 rfl (lv_room (by rw [em_cat_eq]; exact h8)) hd hcr
      intro T hT X
      obtain ⟨v, st₀, t, T', L, h0, X', hL, e1, e2, ⟨⟨v2, ρ', lw', hv, hpv, ⟨hv2, hQ⟩, hρ, hP', hD'⟩, hz, hq9⟩, st⟩ := hrun T hT X
      cases hv
      subst hv2
      rw [h0] at hz hq9
      rw [em_ap_eq] at hQ
      have hρ0 : ρ' 0 = ρ b := by rw [hρ 0 (by omega), hρc0]
      obtain ⟨ρ2, hρ2⟩ : ∃ ρ2 : Nat → Nat, ρ2 = fun i => if i < b then ρ i else ρ' (i - b) := ⟨_, rfl⟩
      have a1 : ∀ i : Nat, i < b + 1 → ρ2 i = ρ i := fun i hi => by
        rw [hρ2]
        by_cases hib : i < b
        · exact if_pos hib
        · have : i = b := by omega
          subst this
          show (if i < i then ρ i else ρ' (i - i)) = ρ i
          rw [if_neg hib, Nat.sub_self, hρ0]
      have a2 : ∀ j : Nat, ρ2 (b + j) = ρ' j := fun j => by
        rw [hρ2]
        show (if b + j < b then ρ (b + j) else ρ' (b + j - b)) = ρ' j
        rw [if_neg (by omega), show b + j - b = j by omega]
      have ew : em_w σ dA ρ2 (f ++ lw'.map (em_shE b)) = em_w σ dA ρ f ++ em_w σ dA ρ' lw' := by
        rw [em_w_app2 hb a2, em_w_ok a1 (by omega) hokF]
      have hS' : va_S A s.heap T'.heap (locs ++ L) := ⟨Nat.le_trans hS.1 (by rw [e1]; exact hz), fun q h1 h2 => by rw [e1, hq9 q (Nat.lt_of_lt_of_le h1 hS.1) (fun z => h2 (hFc q z))]; exact hS.2.1 q h1 h2, fun q hq => by
        rcases List.mem_append.mp hq with h | h
        · exact hS.2.2 q h
        · exact hFc _ (hL q h)⟩
      have nA : ∀ (i : Nat) (q : Nat × va_E), (em_w σ dA ρ f)[i]? = some q → ¬ va_A (em_w σ dA ρc [z]) H.size q.1 := fun i q hq hA9 => by
        obtain ⟨c1, c2⟩ := hwf i q hq
        rcases hA9 with ⟨j, x, hj⟩ | hge
        · rw [hwc] at hj
          have := (h1 j _ hj).2
          have := hD.1 i b q _ c1 hwb (Prod.mk.inj this).1
          omega
        · have := (hP i q c1).lt
          exact absurd hge (Nat.not_le.mpr this)
      have hPf : va_P D cl (em_w σ dA ρ f) T'.heap := fun i q hq => by
        have hat := hP i q (hwf i q hq).1
        exact hat.kept (by rw [e1]; exact hq9 _ hat.lt (nA i q hq))
      have hP9 : va_P D cl (em_w σ dA ρ2 (f ++ lw'.map (em_shE b))) T'.heap := by
        rw [ew]
        exact hPf.app (by rw [e1]; exact hP')
      have hDf : va_D A (em_w σ dA ρ f) := ⟨fun i j p q hi hj => hD.1 i j p q (hwf i p hi).1 (hwf j q hj).1, fun i q hq => hD.2 i q (hwf i q hq).1⟩
      have hD9 : va_D A (em_w σ dA ρ2 (f ++ lw'.map (em_shE b))) := by
        rw [ew]
        refine em_D_app hDf (hD'.weaken (fun _ q _ h => hFc q.1 h)) (fun i j p q hi hj hpq => nA i p hi ?_)
        rw [hpq]
        exact hD'.2 j q hj
      have h9 := hk _ _ _ _ hQ ρ2 arr T'.heap (locs ++ L) (hPr ρ ρ2 hr (fun i hi => a1 i (by omega))) (em_LH_ok a1 hok.1 hl) hP9 hD9 hS'
      rw [hc, em_oks_v a1 hok.2] at h9
      obtain ⟨t2, g1, g2⟩ := h9 T' rfl X'
      exact ⟨t2, st t2 g1, g2⟩
  · exact h.elim
theorem s_callIN (C : em_Cx p s m args c D cl A nL (em_tys dA) cc own) {F : em_FT} {N0 : Nat} (hPr : ∀ ρ ρ' : Nat → Nat, Pr ρ → (∀ k, k < N0 → ρ' k = ρ k) → Pr ρ') {pc n index maxL mc ms : Nat} {y : MethodName} {bytes : ByteArray} {rm : Room} {sp : em_Sp} (hFok : em_Fok F) (hF : F A s s.heap) (hM : em_CA l D cl dA σ F 1 y bytes maxL none rm sp mc ms) (hrm : rm.cells = mc ∧ rm.slots = ms) (hw1 : Cond.code y bytes maxL none ∈ em_tb) {host : String} (hnl : va_Nw (.methodLinkNest own index y host) s) (hws : Cond.instanceMethod y ∈ em_tb) (hwi : Cond.initialized y.cls ∈ em_tb) (hy : y.name = "<init>") (hd2 : y.cls ≠ "java/lang/invoke/MethodHandle" ∧ y.cls ≠ "java/lang/invoke/VarHandle" ∧ (parseMethodDescriptor y.desc).map (fun d => d.parameters.length) = some 0) (hR : rm.frames + 1 ≤ R.frames ∧ 8 + (maxL + 11) + rm.locals ≤ R.locals) (hd : decode cc pc = .ok (.invokespecial index, 3)) (hn : pc + 3 = n) (hc : cnt n = ((cnt pc).1 + mc, (cnt pc).2 + ms)) (hcr : (cnt pc).1 + mc ≤ R.cells ∧ (cnt pc).2 + ms ≤ R.slots) : em_Snd p l e R s m args below meth c D cl dA σ A nL cnt Pr Z Q pc (o_callI N0 sp n) := by
  intro k hk ls st hp h ρ arr H locs hr hl hP hD hS
  subst hn
  unfold o_callI at h
  split at h
  · rename_i b0 r
    obtain ⟨b, hb0⟩ : ∃ b : Nat, b = b0 := ⟨b0, rfl⟩
    subst hb0
    cases hb8 : Nat.ble (em_cat r) 8 with
    | false => rw [hb8] at h; exact h.elim
    | true =>
      rw [hb8] at h
      have h8 := Nat.le_of_ble_eq_true hb8
      obtain ⟨f, z, rfl, hb, hN0, hok, hokF, hokz, hsp⟩ := em_fr_to h
      have hok := Bool.and_eq_true_iff.mp hok
      obtain ⟨ρc, hρc⟩ : ∃ ρc : Nat → Nat, ρc = fun i => ρ (b + i) := ⟨_, rfl⟩
      have hρc0 : ρc 0 = ρ b := by rw [hρc]; rfl
      have hw : em_w σ dA ρ (f ++ [z]) = em_w σ dA ρ f ++ [(ρ b, em_e σ dA ρ z)] := by rw [em_w_app, hb]
      have hwc : em_w σ dA ρc [z] = [(ρ b, em_e σ dA ρ z)] := by
        show [(ρc 0, em_e σ dA ρc z)] = _
        rw [hρc0, em_okE_e (n := 0) (ρ := ρ) (fun k hk => by omega) hokz]
      have hwb : (em_w σ dA ρ (f ++ [z]))[b]? = some (ρ b, em_e σ dA ρ z) := by
        rw [hw, List.getElem?_append_right (by rw [em_w_len, hb]; exact Nat.le_refl _), em_w_len, hb, Nat.sub_self]; rfl
      have hwf : ∀ (i : Nat) (q : Nat × va_E), (em_w σ dA ρ f)[i]? = some q → (em_w σ dA ρ (f ++ [z]))[i]? = some q ∧ i < b := fun i q hq => by
        have hi : i < (em_w σ dA ρ f).length := (List.getElem?_eq_some_iff.mp hq).1
        exact ⟨by rw [hw, List.getElem?_append_left hi]; exact hq, by rw [em_w_len, hb] at hi; exact hi⟩
      have h1 : ∀ (i : Nat) (q : Nat × va_E), [(ρ b, em_e σ dA ρ z)][i]? = some q → i = 0 ∧ q = (ρ b, em_e σ dA ρ z) := fun i q hq => by
        cases i with
        | zero => exact ⟨rfl, (Option.some.inj hq).symm⟩
        | succ i => cases hq
      have hPl : va_P D cl (em_w σ dA ρc [z]) H := by
        rw [hwc]
        intro i q hq
        rw [(h1 i q hq).2]
        exact hP b _ hwb
      have hDl : va_D A (em_w σ dA ρc [z]) := by
        rw [hwc]
        refine ⟨fun i j p q hi hj _ => by rw [(h1 i p hi).1, (h1 j q hj).1], fun i q hq => ?_⟩
        rw [(h1 i q hq).2]
        exact hD.2 b _ hwb
      obtain ⟨hbl, hpr, hFc⟩ := em_pre (av := [.ref 0]) C hFok hF hPl hDl hS
      have hG : GoodIn em_tb (Cond.code y bytes maxL none :: em_tb) := fun w hw => by
        rcases List.mem_cons.mp hw with rfl | hw
        · exact em_tb_good _ hw1
        · exact em_tb_good _ hw
      have cb := va_cnB (R := R) (args := args) (own := own) (index := index) (y := y) (bytes := bytes) (maxL := maxL) (ret := none) (rm := rm) 0 C.2.2.2.2.1 hG rfl hrm.1 hrm.2 hnl (C.2.2.2.2.1 _ hwi) hd2 hR
      have hrun := va_runIN (b := ρ b) (As := []) (rest := r.map (em_v σ ρ)) (g := F0 m pc arr (.ref (ρ b) :: r.map (em_v σ ρ))) (cells := (cnt pc).1) (slots := (cnt pc).2) (meth := meth) (locs := locs) (e := e) (below := below) ⟨C.1, C.2.1, C.2.2.1, C.2.2.2.1, C.2.2.2.2.1⟩ (hM ρc [z] H.size [.ref 0] _ hsp) ⟨cb, hy, C.2.2.2.2.1 _ hws⟩ (by rw [← hρc0]; exact ⟨hbl, hpr⟩) rfl rfl hl.2.1 rfl (lv_room (by rw [em_cat_eq]; exact h8)) hd hcr
      intro T hT X
      obtain ⟨v, st₀, t, T', L, h0, X', hL, e1, e2, ⟨⟨v2, ρ', lw', hv, hpv, ⟨hv2, hQ⟩, hρ, hP', hD'⟩, hz, hq9⟩, st⟩ := hrun T hT X
      cases hv
      subst hv2
      rw [h0] at hz hq9
      rw [em_ap_eq] at hQ
      have hρ0 : ρ' 0 = ρ b := by rw [hρ 0 (by omega), hρc0]
      obtain ⟨ρ2, hρ2⟩ : ∃ ρ2 : Nat → Nat, ρ2 = fun i => if i < b then ρ i else ρ' (i - b) := ⟨_, rfl⟩
      have a1 : ∀ i : Nat, i < b + 1 → ρ2 i = ρ i := fun i hi => by
        rw [hρ2]
        by_cases hib : i < b
        · exact if_pos hib
        · have : i = b := by omega
          subst this
          show (if i < i then ρ i else ρ' (i - i)) = ρ i
          rw [if_neg hib, Nat.sub_self, hρ0]
      have a2 : ∀ j : Nat, ρ2 (b + j) = ρ' j := fun j => by
        rw [hρ2]
        show (if b + j < b then ρ (b + j) else ρ' (b + j - b)) = ρ' j
        rw [if_neg (by omega), show b + j - b = j by omega]
      have ew : em_w σ dA ρ2 (f ++ lw'.map (em_shE b)) = em_w σ dA ρ f ++ em_w σ dA ρ' lw' := by
        rw [em_w_app2 hb a2, em_w_ok a1 (by omega) hokF]
      have hS' : va_S A s.heap T'.heap (locs ++ L) := ⟨Nat.le_trans hS.1 (by rw [e1]; exact hz), fun q h1 h2 => by rw [e1, hq9 q (Nat.lt_of_lt_of_le h1 hS.1) (fun z => h2 (hFc q z))]; exact hS.2.1 q h1 h2, fun q hq => by
        rcases List.mem_append.mp hq with h | h
        · exact hS.2.2 q h
        · exact hFc _ (hL q h)⟩
      have nA : ∀ (i : Nat) (q : Nat × va_E), (em_w σ dA ρ f)[i]? = some q → ¬ va_A (em_w σ dA ρc [z]) H.size q.1 := fun i q hq hA9 => by
        obtain ⟨c1, c2⟩ := hwf i q hq
        rcases hA9 with ⟨j, x, hj⟩ | hge
        · rw [hwc] at hj
          have := (h1 j _ hj).2
          have := hD.1 i b q _ c1 hwb (Prod.mk.inj this).1
          omega
        · have := (hP i q c1).lt
          exact absurd hge (Nat.not_le.mpr this)
      have hPf : va_P D cl (em_w σ dA ρ f) T'.heap := fun i q hq => by
        have hat := hP i q (hwf i q hq).1
        exact hat.kept (by rw [e1]; exact hq9 _ hat.lt (nA i q hq))
      have hP9 : va_P D cl (em_w σ dA ρ2 (f ++ lw'.map (em_shE b))) T'.heap := by
        rw [ew]
        exact hPf.app (by rw [e1]; exact hP')
      have hDf : va_D A (em_w σ dA ρ f) := ⟨fun i j p q hi hj => hD.1 i j p q (hwf i p hi).1 (hwf j q hj).1, fun i q hq => hD.2 i q (hwf i q hq).1⟩
      have hD9 : va_D A (em_w σ dA ρ2 (f ++ lw'.map (em_shE b))) := by
        rw [ew]
        refine em_D_app hDf (hD'.weaken (fun _ q _ h => hFc q.1 h)) (fun i j p q hi hj hpq => nA i p hi ?_)
        rw [hpq]
        exact hD'.2 j q hj
      have h9 := hk _ _ _ _ hQ ρ2 arr T'.heap (locs ++ L) (hPr ρ ρ2 hr (fun i hi => a1 i (by omega))) (em_LH_ok a1 hok.1 hl) hP9 hD9 hS'
      rw [hc, em_oks_v a1 hok.2] at h9
      obtain ⟨t2, g1, g2⟩ := h9 T' rfl X'
      exact ⟨t2, st t2 g1, g2⟩
  · exact h.elim
/-- a call on an object of the world that makes cells behind the world's own -/
def o_callVA (a : Nat) (ci N0 N1 : Nat) (sp : em_Sp) (n : Nat) : em_Op := fun _ K ls st hp => em_popn a st [] (fun av r => bif Nat.ble (em_cat r) 8 then em_rcv (some ci) av hp (N0 ≤ N1 ∧ (em_okl N1 ls && em_oks N1 r) = true ∧ sp av hp (em_ret K n ls r)) else False)
theorem s_callVA (C : em_Cx p s m args c D cl A nL (em_tys dA) cc own) {F : em_FT} {N0 N1 : Nat} (hPr : ∀ ρ ρ' : Nat → Nat, Pr ρ → (∀ k, k < N0 → ρ' k = ρ k) → Pr ρ') {pc n index a maxL mc ms : Nat} {y : MethodName} {bytes : ByteArray} {ret : Option FieldType} {rm : Room} {sp : em_Sp} (hFok : em_Fok F) (hF : F A s s.heap) (hM : em_CA l D cl dA σ F N1 y bytes maxL ret rm sp mc ms) (hrm : rm.cells = mc ∧ rm.slots = ms) (hw1 : Cond.code y bytes maxL ret ∈ em_tb) {ci : Nat} {T : u_T} {N : Nat} (hcl : em_Cl cl ci y.cls T N) (hwl : Cond.methodLink own index y ∈ em_tb) (hws : Cond.instanceMethod y ∈ em_tb) (hwe : Cond.selects y.cls y y ∈ em_tb) (hwi : Cond.initialized y.cls ∈ em_tb) (hd2 : y.cls ≠ "java/lang/invoke/MethodHandle" ∧ y.cls ≠ "java/lang/invoke/VarHandle" ∧ (parseMethodDescriptor y.desc).map (fun d => d.parameters.length) = some a) (hR : rm.frames + 1 ≤ R.frames ∧ 8 + (maxL + 11) + rm.locals ≤ R.locals) (hd : decode cc pc = .ok (.invokevirtual index, 3)) (hn : pc + 3 = n) (hc : cnt n = ((cnt pc).1 + mc, (cnt pc).2 + ms)) (hcr : (cnt pc).1 + mc ≤ R.cells ∧ (cnt pc).2 + ms ≤ R.slots) : em_Snd p l e R s m args below meth c D cl dA σ A nL cnt Pr Z Q pc (o_callVA (a + 1) ci N0 N1 sp n) := by
  intro k hk ls st hp h ρ arr H locs hr hl hP hD hS
  unfold o_callVA at h
  obtain ⟨av, r, hst, hav, h⟩ := em_popn_to _ _ _ _ h
  rw [List.append_nil] at h
  cases hb8 : Nat.ble (em_cat r) 8 with
  | false => rw [hb8] at h; exact h.elim
  | true =>
    rw [hb8] at h
    have h8 := Nat.le_of_ble_eq_true hb8
    have h : em_rcv (some ci) av hp (N0 ≤ N1 ∧ (em_okl N1 ls && em_oks N1 r) = true ∧ sp av hp (em_ret k n ls r)) := h
    obtain ⟨⟨hN, hok, h⟩, hrc⟩ := em_rcv_to h
    have hok := Bool.and_eq_true_iff.mp hok
    obtain ⟨hbl, hpr, hFc⟩ := em_pre (av := av) C hFok hF hP hD hS
    have hG : GoodIn em_tb (Cond.code y bytes maxL ret :: em_tb) := fun w hw => by
      rcases List.mem_cons.mp hw with rfl | hw
      · exact em_tb_good _ hw1
      · exact em_tb_good _ hw
    obtain ⟨b, vs, fs, rfl, he⟩ := hrc ci rfl
    have cb := callB_of (R := R) (s := s) (args := args) (own := own) (index := index) (y := y) (bytes := bytes) (maxL := maxL) (ret := ret) (rm := rm) a C.2.2.2.2.1 hG rfl hrm.1 hrm.2 (C.2.2.2.2.1 _ hwi) (C.2.2.2.2.1 _ hwl) hd2 hR
    have hrun := va_runV (C := y.cls) (b := ρ b) (As := vs.map (em_v σ ρ)) (rest := r.map (em_v σ ρ)) (g := F0 m pc arr (st.map (em_v σ ρ))) (cells := (cnt pc).1) (slots := (cnt pc).2) (meth := meth) (locs := locs) (e := e) (below := below) ⟨C.1, C.2.1, C.2.2.1, C.2.2.2.1, C.2.2.2.2.1⟩ (hM ρ hp H.size _ _ h) ⟨cb, C.2.2.2.2.1 _ hws, C.2.2.2.2.1 _ hwe⟩ ⟨hbl, va_recv C.2.2.2.2.2.1 hP hcl.1 (em_w_get he), hpr⟩ rfl (by rw [List.length_map]; simpa using hav) hl.2.1 (by rw [hst]; simp [em_v]) (lv_room (by rw [em_cat_eq]; exact h8)) hd hcr
    intro T hT X
    obtain ⟨v, st₀, t, T', L, h0, X', hL, e1, e2, ⟨⟨v2, ρ', hp', hv, hpv, hQ, hρ, hP', hD'⟩, hz, hq9⟩, st⟩ := hrun T hT X
    cases hv
    rw [h0] at hz hq9
    have hS' : va_S A s.heap T'.heap (locs ++ L) := ⟨Nat.le_trans hS.1 (by rw [e1]; exact hz), fun q h1 h2 => by rw [e1, hq9 q (Nat.lt_of_lt_of_le h1 hS.1) (fun z => h2 (hFc q z))]; exact hS.2.1 q h1 h2, fun q hq => by
      rcases List.mem_append.mp hq with h | h
      · exact hS.2.2 q h
      · exact hFc _ (hL q h)⟩
    have hP9 : va_P D cl (em_w σ dA ρ' hp') T'.heap := by rw [e1]; exact hP'
    have hD9 : va_D A (em_w σ dA ρ' hp') := hD'.weaken (fun k q _ h => hFc q.1 h)
    have hPr9 := hPr ρ ρ' hr (fun k hk => hρ k (by omega))
    subst hn
    cases v with
    | none =>
      have h9 := hk _ _ _ _ hQ ρ' arr T'.heap (locs ++ L) hPr9 (em_LH_ok hρ hok.1 hl) hP9 hD9 hS'
      rw [hc, em_oks_v hρ hok.2] at h9
      obtain ⟨t2, a1, b1⟩ := h9 T' rfl X'
      exact ⟨t2, st t2 a1, b1⟩
    | some x =>
      have h9 := hk _ _ _ _ hQ ρ' arr T'.heap (locs ++ L) hPr9 (em_LH_ok hρ hok.1 hl) hP9 hD9 hS'
      rw [hc, List.map_cons, em_pv_v hpv, em_oks_v hρ hok.2] at h9
      obtain ⟨t2, a1, b1⟩ := h9 T' rfl X'
      exact ⟨t2, st t2 a1, b1⟩
/-- the places of two towns -/
def em_pkT : List Value → List Nat
  | .ref q :: .ref b :: _ => [q, q + 1, q + 2, q + 3, q + 4, q + 5, q + 6, q + 7, b, b + 1, b + 2, b + 3, b + 4, b + 5, b + 6, b + 7]
  | _ => []
def o_callPD (a : Nat) (rc : Option Nat) (sp : em_Sp) (n : Nat) : em_Op := fun Q K ls st hp => em_popn a st [] (fun av _ => va_nd (em_pkT av) = true ∧ o_callP a rc (em_pkT av) sp n Q K ls st hp)
theorem s_callPVD (C : em_Cx p s m args c D cl A nL (em_tys dA) cc own) {pc n index a maxL : Nat} {F : em_FT} {y : MethodName} {bytes : ByteArray} {ret : Option FieldType} {rm : Room} {sp : em_Sp} (hFok : em_Fok F) (hF : F A s s.heap) (hM : em_CT l D cl dA σ F y bytes maxL ret rm sp) (hrm : rm.cells = 0 ∧ rm.slots = 0) (hw1 : Cond.code y bytes maxL ret ∈ em_tb) {ci : Nat} {T : u_T} {N : Nat} (hcl : em_Cl cl ci y.cls T N) (hwl : Cond.methodLink own index y ∈ em_tb) (hws : Cond.instanceMethod y ∈ em_tb) (hwe : Cond.selects y.cls y y ∈ em_tb) (hwi : Cond.initialized y.cls ∈ em_tb) (hd2 : y.cls ≠ "java/lang/invoke/MethodHandle" ∧ y.cls ≠ "java/lang/invoke/VarHandle" ∧ (parseMethodDescriptor y.desc).map (fun d => d.parameters.length) = some a) (hR : rm.frames + 1 ≤ R.frames ∧ 8 + (maxL + 11) + rm.locals ≤ R.locals) (hd : decode cc pc = .ok (.invokevirtual index, 3)) (hn : pc + 3 = n) (hc : cnt n = cnt pc) (hcr : (cnt pc).1 + 0 ≤ R.cells ∧ (cnt pc).2 + 0 ≤ R.slots) : em_Snd p l e R s m args below meth c D cl dA σ A nL cnt Pr Z Q pc (o_callPD (a + 1) (some ci) sp n) := by
  intro k hk ls st hp h
  obtain ⟨av, r, hst, hav, hnd, h⟩ := em_popn_to _ _ _ _ h
  exact s_callPV C hFok hF hM hrm hw1 hcl hwl hws hwe hwi hd2 hR hd hn hc (Q := Q) hcr hnd k hk ls st hp h
theorem s_ifnonnullW (C : em_Cx p s m args c D cl A nL (em_tys dA) cc own) {pc t n : Nat} {off : Int} (hd : decode cc pc = .ok (.ifnonnull off, 3)) (ht : (pc : Int) + off = (t : Int)) (hn : pc + 3 = n) (hc : cnt n = cnt pc) (hc2 : (cnt pc).1 ≤ (cnt t).1 ∧ (cnt pc).2 ≤ (cnt t).2) : em_Snd p l e R s m args below meth c D cl dA σ A nL cnt Pr Z Q pc (o_ifnonnull t n) := by
  intro k hk ls st hp h ρ arr H locs hr hl hP hD hS
  subst hn
  unfold o_ifnonnull at h
  split at h
  · have h9 := hk _ _ _ _ h ρ arr H locs hr hl hP hD hS
    exact W.widen hc2.1 hc2.2 (lv_ifnonnull C.1 C.2.1 hd ht h9)
  · have h9 := hk _ _ _ _ h ρ arr H locs hr hl hP hD hS
    rw [hc] at h9
    exact lv_ifnonnullN C.1 C.2.1 hd h9
  · exact h.elim
theorem s_gotoW (C : em_Cx p s m args c D cl A nL (em_tys dA) cc own) {pc t : Nat} {off : Int} (hd : decode cc pc = .ok (.goto off, 3)) (ht : (pc : Int) + off = (t : Int)) (hc : (cnt pc).1 ≤ (cnt t).1 ∧ (cnt pc).2 ≤ (cnt t).2) : em_Snd p l e R s m args below meth c D cl dA σ A nL cnt Pr Z Q pc (o_goto t) := by
  intro k hk ls st hp h ρ arr H locs hr hl hP hD hS
  have h9 := hk _ _ _ _ h ρ arr H locs hr hl hP hD hS
  exact W.widen hc.1 hc.2 (lv_goto C.1 C.2.1 hd ht h9)
end EMF
