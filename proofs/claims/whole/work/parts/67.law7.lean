/-! ===== the law's start ===== -/
theorem mem_tb {w : Cond} (h : w ∈ lw_tbl) (hg : goodWord w = true) : w ∈ em_tb := List.mem_filter.mpr ⟨h, hg⟩
theorem sub5 : ∀ L, L < 321 → (nI L - 5).toInt = (L : Int) - 5 := by decide +kernel
theorem lt5 {L n : Nat} (hL : L ≤ 320) (hn : n ≤ 320) : nI L - 5 < nI n ↔ L < n + 5 := by
  rw [Int32.lt_iff_toInt_lt, sub5 L (by omega), nI_toInt (by omega)]
  omega
def lw_tm (i : Nat) : Term := Term.string "WedApart$TownText" ([36, 81, 55, 61, 63].getD i 0)
set_option maxHeartbeats 4000000 in
theorem lw_F {p : Program} {s : State} {m : MethodId} {meth : Method} {c : Code} {b L : Nat} {xs : Nat → Int32} (C0 : lw_At p s m meth c b L xs) : ∃ σ : Nat → Nat, σ 11 = b ∧ em_F σ (fun q => s.heap.size ≤ q) s s.heap := by
  obtain ⟨hx, hb, hr, hml, hown, hts, hX, hbl, hlocks, hgv⟩ := C0
  have hs := flat_of_before _ hgv
  have hA : ∀ a : Nat, a < s.heap.size → ¬ s.heap.size ≤ a := fun a h => Nat.not_le.mpr h
  obtain ⟨adK, adV, hvk, htm⟩ := vk_Sof (args := #[Value.ref b]) (s := s) (N := 5) (tm := lw_tm) (len := em_len) (byt := em_byt) (A := fun q => s.heap.size ≤ q) (by decide)
    (fun i hi => by
      rcases (show i = 0 ∨ i = 1 ∨ i = 2 ∨ i = 3 ∨ i = 4 by omega) with rfl | rfl | rfl | rfl | rfl <;> exact hs _ (by decide +kernel))
    (fun i hi => by
      rcases (show i = 0 ∨ i = 1 ∨ i = 2 ∨ i = 3 ∨ i = 4 by omega) with rfl | rfl | rfl | rfl | rfl <;> exact hs _ (by decide +kernel))
    (fun i hi => by
      rcases (show i = 0 ∨ i = 1 ∨ i = 2 ∨ i = 3 ∨ i = 4 by omega) with rfl | rfl | rfl | rfl | rfl <;> exact hs _ (by decide +kernel))
    (fun i hi => by
      rcases (show i = 0 ∨ i = 1 ∨ i = 2 ∨ i = 3 ∨ i = 4 by omega) with rfl | rfl | rfl | rfl | rfl <;> exact hs _ (by decide +kernel))
    (fun i hi => by
      rcases (show i = 0 ∨ i = 1 ∨ i = 2 ∨ i = 3 ∨ i = 4 by omega) with rfl | rfl | rfl | rfl | rfl
      · intro j hj
        have hj : j < 6 := hj
        rcases (show j = 0 ∨ j = 1 ∨ j = 2 ∨ j = 3 ∨ j = 4 ∨ j = 5 by omega) with rfl | rfl | rfl | rfl | rfl | rfl <;> exact hs _ (by decide +kernel)
      · intro j hj
        have hj : j < 1 := hj
        rcases (show j = 0 by omega) with rfl <;> exact hs _ (by decide +kernel)
      · intro j hj
        have hj : j < 7 := hj
        rcases (show j = 0 ∨ j = 1 ∨ j = 2 ∨ j = 3 ∨ j = 4 ∨ j = 5 ∨ j = 6 by omega) with rfl | rfl | rfl | rfl | rfl | rfl | rfl <;> exact hs _ (by decide +kernel)
      · intro j hj
        have hj : j < 7 := hj
        rcases (show j = 0 ∨ j = 1 ∨ j = 2 ∨ j = 3 ∨ j = 4 ∨ j = 5 ∨ j = 6 by omega) with rfl | rfl | rfl | rfl | rfl | rfl | rfl <;> exact hs _ (by decide +kernel)
      · intro j hj
        have hj : j < 4 := hj
        rcases (show j = 0 ∨ j = 1 ∨ j = 2 ∨ j = 3 by omega) with rfl | rfl | rfl | rfl <;> exact hs _ (by decide +kernel))
    (fun i j hi hj hij => by
      rcases (show i = 0 ∨ i = 1 ∨ i = 2 ∨ i = 3 ∨ i = 4 by omega) with rfl | rfl | rfl | rfl | rfl <;> rcases (show j = 0 ∨ j = 1 ∨ j = 2 ∨ j = 3 ∨ j = 4 by omega) with rfl | rfl | rfl | rfl | rfl <;> first | exact absurd rfl hij | exact Or.inl (hs _ (by decide +kernel)) | exact Or.inr (hs _ (by decide +kernel)))
    hA
  have hZ1 := va_Zof (C := "java/lang/String") (n := "COMPACT_STRINGS") (d := "Z") (v := .int 1) (A := fun q => s.heap.size ≤ q) (hts _ (by decide +kernel)) (hts _ (by decide +kernel)) (va_eqi (hs _ (by decide +kernel))) hA
  have hZq := va_Zqof (C := "jdk/internal/util/Preconditions") (n := "SIOOBE_FORMATTER") (d := "Ljava/util/function/BiFunction;") (A := fun q => s.heap.size ≤ q) (hts _ (by decide +kernel)) (hts _ (by decide +kernel)) (hs _ (by decide +kernel)) hA
  obtain ⟨t, hZt⟩ : ∃ t : Nat, va_Z "jdk/internal/util/Preconditions" "SIOOBE_FORMATTER" "Ljava/util/function/BiFunction;" .null (fun q => s.heap.size ≤ q) s s.heap ∨ va_Z "jdk/internal/util/Preconditions" "SIOOBE_FORMATTER" "Ljava/util/function/BiFunction;" (.ref t) (fun q => s.heap.size ≤ q) s s.heap := by
    rcases hZq with h | ⟨t, h⟩
    · exact ⟨0, Or.inl h⟩
    · exact ⟨t, Or.inr h⟩
  obtain ⟨σ, hσ⟩ : ∃ σ : Nat → Nat, σ = fun k => if k < 5 then adK k else if k < 10 then adV (k - 5) else if k = 10 then t else b := ⟨_, rfl⟩
  have σK : ∀ i, i < 5 → σ i = adK i := fun i hi => by rw [hσ]; exact if_pos hi
  have σV : ∀ i, i < 5 → σ (5 + i) = adV i := fun i hi => by
    rw [hσ]
    show (if 5 + i < 5 then _ else _) = _
    rw [if_neg (by omega), if_pos (by omega), show 5 + i - 5 = i by omega]
  have σt : σ 10 = t := by rw [hσ]; rfl
  refine ⟨σ, by rw [hσ]; rfl, fun q hq => ?_, va_AO.of (hts (.arrayOver (.object "WedApart$Town")) (by decide +kernel)), ⟨fun i hi => ?_, fun i j hi hj hij => ?_⟩, fun k q hk => ?_, hZ1, by rw [σt]; exact hZt⟩
  · have : q = em_nests[0] ∨ q = em_nests[1] ∨ q = em_nests[2] ∨ q = em_nests[3] ∨ q = em_nests[4] ∨ q = em_nests[5] ∨ q = em_nests[6] := by simpa [em_nests] using hq
    rcases this with rfl | rfl | rfl | rfl | rfl | rfl | rfl <;> exact va_Nw.of rfl (hts _ (by decide +kernel))
  · rw [σK i hi, show (fun k => σ (5 + k)) i = adV i from σV i hi]
    exact hvk.1 i hi
  · rw [σK i hi, σK j hj] at hij
    exact hvk.2 i j hi hj hij
  · have hk5 : k < 5 := (List.getElem?_eq_some_iff.mp hk).1
    rw [σK k hk5]
    rcases (show k = 0 ∨ k = 1 ∨ k = 2 ∨ k = 3 ∨ k = 4 by omega) with rfl | rfl | rfl | rfl | rfl
    · cases hk; exact vk_R.of (hts _ (by decide +kernel)) (htm 0 (by decide))
    · cases hk; exact vk_R.of (hts _ (by decide +kernel)) (htm 1 (by decide))
    · cases hk; exact vk_R.of (hts _ (by decide +kernel)) (htm 2 (by decide))
    · cases hk; exact vk_R.of (hts _ (by decide +kernel)) (htm 3 (by decide))
    · cases hk; exact vk_R.of (hts _ (by decide +kernel)) (htm 4 (by decide))
set_option maxHeartbeats 4000000 in
theorem lw_K {p : Program} {s : State} {m : MethodId} {meth : Method} {c : Code} {b L : Nat} {xs : Nat → Int32} (C0 : lw_At p s m meth c b L xs) : ∃ (D : va_G) (dA : Nat → ClassId), va_K D em_cl (em_tys dA) s := by
  obtain ⟨hx, hb, hr, hml, hown, hts, hX, hbl, hlocks, hgv⟩ := C0
  have htb : ∀ w ∈ em_tb, w.before #[Value.ref b] s = true := fun w hw => hts w (List.mem_filter.mp hw).1
  obtain ⟨c0, iS0, hk0⟩ := u_known (C := "WedApart$Course") (T := TX0) (N := 1) (n := 1) htb em_cl_X0.2.1 (hts (.instantiable "WedApart$Course" 1) (by decide +kernel))
  obtain ⟨c1, iS1, hk1⟩ := u_known (C := "WedApart$Fraction") (T := TX2) (N := 2) (n := 2) htb em_cl_X2.2.1 (hts (.instantiable "WedApart$Fraction" 2) (by decide +kernel))
  obtain ⟨c2, iS2, hk2⟩ := u_known (C := "WedApart$Town") (T := TX7) (N := 17) (n := 17) htb em_cl_X7.2.1 (hts (.instantiable "WedApart$Town" 17) (by decide +kernel))
  obtain ⟨c3, iS3, hk3⟩ := u_known (C := "WedApart$TownText") (T := TX8) (N := 4) (n := 4) htb em_cl_X8.2.1 (hts (.instantiable "WedApart$TownText" 4) (by decide +kernel))
  obtain ⟨c4, iS4, hk4⟩ := u_known (C := "WedApart") (T := TX9) (N := 7) (n := 7) htb em_cl_X9.2.1 (hts (.instantiable "WedApart" 7) (by decide +kernel))
  obtain ⟨c5, iS5, hk5⟩ := u_known (C := "WedApartModel") (T := TX10) (N := 24) (n := 24) htb em_cl_X10.2.1 (hts (.instantiable "WedApartModel" 24) (by decide +kernel))
  obtain ⟨dC, dI, hKc⟩ : ∃ (dC : Nat → ClassId) (dI : Nat → Nat → Nat), ∀ (k : Nat) (q : vw_C), em_cl[k]? = some q → u_Kn s q.1 q.2.1 q.2.2 (dC k) (dI k) := by
    refine ⟨fun k => if k = 0 then c0 else if k = 1 then c1 else if k = 2 then c2 else if k = 3 then c3 else if k = 4 then c4 else c5, fun k => if k = 0 then iS0 else if k = 1 then iS1 else if k = 2 then iS2 else if k = 3 then iS3 else if k = 4 then iS4 else iS5, ?_⟩
    intro k q hq
    match k, hq with
    | 0, hq => cases hq; exact hk0
    | 1, hq => cases hq; exact hk1
    | 2, hq => cases hq; exact hk2
    | 3, hq => cases hq; exact hk3
    | 4, hq => cases hq; exact hk4
    | 5, hq => cases hq; exact hk5
    | k + 6, hq => simp [em_cl] at hq
  obtain ⟨a0, k0, p0, x0, y0, z0⟩ := Cond.arrayClass_spec (hts (.arrayClass .int) (by decide +kernel))
  obtain ⟨a1, k1, p1, x1, y1, z1⟩ := Cond.arrayClass_spec (hts (.arrayClass .long) (by decide +kernel))
  obtain ⟨a2, k2, p2, x2, y2, z2⟩ := Cond.arrayClass_spec (hts (.arrayClass .byte) (by decide +kernel))
  obtain ⟨a3, k3, p3, x3, y3, z3⟩ := Cond.arrayClass_spec (hts (.arrayClass .boolean) (by decide +kernel))
  obtain ⟨p4, a4, k4, w4, -, y4, z4, x4⟩ := Cond.arrayOver_spec (hts (.arrayOver (.object "WedApart$Town")) (by decide +kernel))
  refine ⟨(dC, dI), fun k => if k = 0 then a0 else if k = 1 then a1 else if k = 2 then a2 else if k = 3 then a3 else a4, hKc, fun k q hq => ?_⟩
  match k, hq with
  | 0, hq => cases hq; exact ⟨fun N z => ⟨(fun k h => by cases h), k0, y0, p0, z0⟩, x0⟩
  | 1, hq => cases hq; exact ⟨fun N z => ⟨(fun k h => by cases h), k1, y1, p1, z1⟩, x1⟩
  | 2, hq => cases hq; exact ⟨fun N z => ⟨(fun k h => by cases h), k2, y2, p2, z2⟩, x2⟩
  | 3, hq => cases hq; exact ⟨fun N z => ⟨(fun k h => by cases h), k3, y3, p3, z3⟩, x3⟩
  | 4, hq => cases hq; exact ⟨fun N z => ⟨(fun k h => by cases h), k4, y4, p4, z4⟩, k4, p4, y4, z4, w4, x4⟩
  | k + 5, hq => simp [em_tys] at hq
