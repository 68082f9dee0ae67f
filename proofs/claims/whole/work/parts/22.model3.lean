/-! ===== the book in small numbers ===== -/
def un (f : Nat → Nat) (k x : Nat) : Nat → Nat := fun j => if j = k then x else f j
theorem un_s {f : Nat → Nat} {k x : Nat} : un f k x k = x := if_pos rfl
theorem un_n {f : Nat → Nat} {k x j : Nat} (h : j ≠ k) : un f k x j = f j := if_neg h
def nB (B : Nat → Nat) : Nat → Int32 := fun k => nI (B k)
theorem nB_un (B : Nat → Nat) (k x : Nat) : nB (un B k x) = upd (nB B) k (nI x) := by
  funext j
  unfold nB un upd
  split <;> rfl
def SOK (S : Nat → Nat) : Prop := ∀ p, p < 6 → S p < 1024
def Z6 (S : Nat → Nat) : Prop := ∀ p, 6 ≤ p → S p = 0
def nw (B : Nat → Nat) : Nat → Nat := fun p => if p < 6 then B (14 + p) else 0
theorem nw_Z (B : Nat → Nat) : Z6 (nw B) := fun p h => if_neg (by omega)
theorem nw_in {B : Nat → Nat} {p : Nat} (h : p < 6) : nw B p = B (14 + p) := if_pos h
theorem nw_eq {B S : Nat → Nat} {so' : Nat → Int32} (hz : Z6 S) (h1 : ∀ p, p < 6 → so' p = nB B (14 + p)) (h2 : ∀ p, 6 ≤ p → so' p = nB S p) : so' = nB (nw B) := by
  funext p
  by_cases h : p < 6
  · rw [h1 p h]; unfold nB; rw [nw_in h]
  · rw [h2 p (by omega)]; unfold nB; rw [hz p (by omega), nw_Z B p (by omega)]
theorem p2_lt : ∀ m, m < 10 → 2 ^ m < 1024 := by decide
def tkN (x y b : Nat) : Nat := (x &&& c10 b) ||| (y &&& b)
theorem tkn_nI {x y b : Nat} (hx : x < 1024) : tkn (nI x) (nI y) (nI b) = nI (tkN x y b) := by
  rw [tkn, and_c10 hx, nI_and, nI_or]; rfl
theorem tkN_lt {x y b : Nat} (hx : x < 1024) (hy : y < 1024) : tkN x y b < 1024 := or_lt (and_lt hx) (and_lt hy)
def plN (i j x y b : Nat) : Nat := if j < i then tkN x y b else x
theorem plN_lt {i j x y b : Nat} (hx : x < 1024) (hy : y < 1024) : plN i j x y b < 1024 := by
  rw [plN]; split
  · exact tkN_lt hx hy
  · exact hx
def prN (w i j x y b : Nat) : Nat := if w &&& b = 0 then plN i j x y b else x
theorem prN_lt {w i j x y b : Nat} (hx : x < 1024) (hy : y < 1024) : prN w i j x y b < 1024 := by
  rw [prN]; split
  · exact plN_lt hx hy
  · exact hx
def swN (k w i j x y b nx : Nat) : Nat := if k = 0 then plN i j x y b else if k = 1 then prN w i j x y b else if k = 2 then tkN x y b else if k = 3 then (prN w i j x y b &&& c10 nx) ||| (nx &&& c10 x) else if k = 4 then x else tkN (tkN x y b) y nx
theorem swN_lt {k w i j x y b nx : Nat} (hx : x < 1024) (hy : y < 1024) (hn : nx < 1024) : swN k w i j x y b nx < 1024 := by
  unfold swN
  split
  · exact plN_lt hx hy
  · split
    · exact prN_lt hx hy
    · split
      · exact tkN_lt hx hy
      · split
        · exact or_lt (and_lt (prN_lt hx hy)) (and_lt hn)
        · split
          · exact hx
          · exact tkN_lt (tkN_lt hx hy) hy
theorem pln_nI {i j x y b : Nat} (hx : x < 1024) : (if j < i then tkn (nI x) (nI y) (nI b) else nI x) = nI (plN i j x y b) := by
  rw [plN, tkn_nI hx]; split <;> rfl
theorem swM_nI {k w i j x y m n : Nat} (hk : k < 6) (hx : x < 1024) (hy : y < 1024) (hm : m < 10) (hn : n < 10) : swM (nI k) (nI w) i j (nI x) (nI y) (bitM m) (bitM n) = nI (swN k w i j x y (2 ^ m) (2 ^ n)) := by
  have hb := p2_lt m hm
  have hc := p2_lt n hn
  have hwb : w &&& 2 ^ m < 1024 := Nat.lt_of_le_of_lt Nat.and_le_right hb
  have ec : (nI w &&& nI (2 ^ m) = 0) ↔ w &&& 2 ^ m = 0 := by
    rw [nI_and]; exact nI_eq (b := 0) (by omega) (by omega)
  unfold swM bitM
  rw [pln_nI hx, tkn_nI hx, tkn_nI (tkN_lt hx hy)]
  have ep : (if nI w &&& nI (2 ^ m) = 0 then nI (plN i j x y (2 ^ m)) else nI x) = nI (prN w i j x y (2 ^ m)) := by
    rw [prN]
    by_cases h : w &&& 2 ^ m = 0
    · rw [if_pos (ec.mpr h), if_pos h]
    · rw [if_neg (fun q => h (ec.mp q)), if_neg h]
  rw [ep]
  have e3 : (nI (prN w i j x y (2 ^ m)) &&& opn (nI (2 ^ n))) ||| (opn (nI x) &&& nI (2 ^ n)) = nI ((prN w i j x y (2 ^ m) &&& c10 (2 ^ n)) ||| (2 ^ n &&& c10 x)) := by
    unfold opn
    rw [and_c10 (prN_lt hx hy), Int32.and_comm (nI x ^^^ (-1)), and_c10 hc, nI_or]
  rw [e3]
  unfold swK swN
  have q : ∀ c, c < 6 → ((nI k = nI c) ↔ k = c) := fun c hc => nI_eq (by omega) (by omega)
  have q0 : nI k = 0 ↔ k = 0 := q 0 (by omega)
  have q1 : nI k = 1 ↔ k = 1 := q 1 (by omega)
  have q2 : nI k = 2 ↔ k = 2 := q 2 (by omega)
  have q3 : nI k = 3 ↔ k = 3 := q 3 (by omega)
  have q4 : nI k = 4 ↔ k = 4 := q 4 (by omega)
  by_cases h0 : k = 0
  · rw [if_pos (q0.mpr h0), if_pos h0]
  rw [if_neg (fun z => h0 (q0.mp z)), if_neg h0]
  by_cases h1 : k = 1
  · rw [if_pos (q1.mpr h1), if_pos h1]
  rw [if_neg (fun z => h1 (q1.mp z)), if_neg h1]
  by_cases h2 : k = 2
  · rw [if_pos (q2.mpr h2), if_pos h2]
  rw [if_neg (fun z => h2 (q2.mp z)), if_neg h2]
  by_cases h3 : k = 3
  · rw [if_pos (q3.mpr h3), if_pos h3]
  rw [if_neg (fun z => h3 (q3.mp z)), if_neg h3]
  by_cases h4 : k = 4
  · rw [if_pos (q4.mpr h4), if_pos h4]
  rw [if_neg (fun z => h4 (q4.mp z)), if_neg h4]
/-- a talk -/
def tlN (B S : Nat → Nat) (i j : Nat) : Nat → Nat := if ofN (B 5) (S i) (S j) = 0 then S else
  un (un S i (swN (B (8 + i)) (B 5) i j (S i) (S j) (2 ^ lsb (ofN (B 5) (S i) (S j))) (2 ^ ((lsb (ofN (B 5) (S i) (S j)) + 1) % 10)))) j (swN (B (8 + j)) (B 5) j i (S j) (S i) (2 ^ lsb (ofN (B 5) (S i) (S j))) (2 ^ ((lsb (ofN (B 5) (S i) (S j)) + 1) % 10)))
theorem tlk_nB {B S : Nat → Nat} {i j : Nat} (hi : i < 6) (hj : j < 6) (hS : SOK S) (hk : ∀ p, p < 6 → B (8 + p) < 6) : tlk (nB B) (nB S) (B 5) (S i) (S j) i j = nB (tlN B S i j) := by
  unfold tlk tlN
  by_cases h : ofN (B 5) (S i) (S j) = 0
  · rw [if_pos h, if_pos h]
  · rw [if_neg h, if_neg h, nB_un, nB_un]
    obtain ⟨hl, _⟩ := lsb_lt _ (ofN_lt (w := B 5) (hS i hi) (hS j hj)) (by omega)
    rw [← swM_nI (hk i hi) (hS i hi) (hS j hj) hl (Nat.mod_lt _ (by omega)), ← swM_nI (hk j hj) (hS j hj) (hS i hi) hl (Nat.mod_lt _ (by omega))]
    rfl
theorem tlN_ok {B S : Nat → Nat} {i j : Nat} (hi : i < 6) (hj : j < 6) (hS : SOK S) : SOK (tlN B S i j) := by
  intro p hp
  unfold tlN
  split
  · exact hS p hp
  · have hn := p2_lt ((lsb (ofN (B 5) (S i) (S j)) + 1) % 10) (Nat.mod_lt _ (by omega))
    unfold un
    split
    · exact swN_lt (hS j hj) (hS i hi) hn
    · split
      · exact swN_lt (hS i hi) (hS j hj) hn
      · exact hS p hp
theorem tlN_Z {B S : Nat → Nat} {i j : Nat} (hi : i < 6) (hj : j < 6) (hS : Z6 S) : Z6 (tlN B S i j) := by
  intro p hp
  unfold tlN
  split
  · exact hS p hp
  · rw [un_n (by omega), un_n (by omega)]; exact hS p hp
/-- what of the book the trying needs -/
def GK (B : Nat → Nat) : Prop := B 0 ≤ 6 ∧ B 1 ≤ 8 ∧ B 2 ≤ 1000 ∧ B 6 ≤ 20 ∧ B 7 ≤ 20 ∧ (∀ p, p < 6 → B (8 + p) < 6) ∧ (∀ p, p < 6 → B (14 + p) < 1024) ∧ (∀ k, k < B 1 → B (26 + 2 * k) < 6 ∧ B (27 + 2 * k) < 6)
theorem nw_ok {B : Nat → Nat} (h : GK B) : SOK (nw B) := fun p hp => by rw [nw_in hp]; exact h.2.2.2.2.2.2.1 p hp
def goN (B S : Nat → Nat) (e : Nat) : Nat → Nat := if B 1 = 0 then S else tlN B S (B (26 + 2 * (e % B 1))) (B (27 + 2 * (e % B 1)))
theorem goN_ok {B S : Nat → Nat} (hB : GK B) (hS : SOK S) (e : Nat) : SOK (goN B S e) := by
  unfold goN
  split
  · exact hS
  · have := hB.2.2.2.2.2.2.2 (e % B 1) (Nat.mod_lt _ (by omega))
    exact tlN_ok this.1 this.2 hS
theorem goN_Z {B S : Nat → Nat} (hB : GK B) (hS : Z6 S) (e : Nat) : Z6 (goN B S e) := by
  unfold goN
  split
  · exact hS
  · have := hB.2.2.2.2.2.2.2 (e % B 1) (Nat.mod_lt _ (by omega))
    exact tlN_Z this.1 this.2 hS
/-- behind each of the evenings -/
def trN (B : Nat → Nat) : Nat → Nat → Nat
  | 0 => nw B
  | t + 1 => goN B (trN B t) (B 2 + t)
theorem trN_ok {B : Nat → Nat} (hB : GK B) : ∀ t, SOK (trN B t)
  | 0 => nw_ok hB
  | t + 1 => goN_ok hB (trN_ok hB t) _
theorem trN_Z {B : Nat → Nat} (hB : GK B) : ∀ t, Z6 (trN B t)
  | 0 => nw_Z B
  | t + 1 => goN_Z hB (trN_Z hB t) _
def cn (w x : Nat) : Nat := pcN x 10 + pcN (x &&& w) 10
theorem cn_le {w x : Nat} : cn w x ≤ 20 := by
  have := pcN_le x 10
  have := pcN_le (x &&& w) 10
  unfold cn; omega
theorem cntd_nI {w x : Nat} (hx : x < 1024) : cntd (nI w) (nI x) = nI (cn w x) := by
  have := and_lt (b := w) hx
  rw [cntd, nI_and, btr_nI (by omega) 10 (by omega), btr_nI (by omega) 10 (by omega), nI_add]; rfl
def isL (B S : Nat → Nat) (a b : Nat) : Bool := decide (B 6 ≤ cn (B 5) (S a ^^^ S b) ∧ cn (B 5) (S a ^^^ S b) ≤ B 7)
theorem lw_isL {B S : Nat → Nat} {a b : Nat} (h6 : B 6 ≤ 20) (h7 : B 7 ≤ 20) (ha : S a < 1024) (hb : S b < 1024) : lwM (nB B) (nB S a) (nB S b) ↔ isL B S a b = true := by
  have hx := xor_lt ha hb
  have hc := cn_le (w := B 5) (x := S a ^^^ S b)
  unfold lwM nB
  rw [nI_xor, cntd_nI hx, inL_i, Int32.toInt_toInt64, Int32.toInt_toInt64, nI_toInt (by omega), nI_toInt (by omega), nI_toInt (by omega), isL, decide_eq_true_eq]
  omega
theorem isL_f {B S : Nat → Nat} {a b : Nat} (h6 : B 6 ≤ 20) (h7 : B 7 ≤ 20) (ha : S a < 1024) (hb : S b < 1024) (h : ¬ lwM (nB B) (nB S a) (nB S b)) : isL B S a b = false := by
  cases e : isL B S a b with
  | false => rfl
  | true => exact absurd ((lw_isL h6 h7 ha hb).mpr e) h
def sp_X10_goes : em_Sp := fun av hp Q => ∃ B im kp asd rf qt ab be tx ty at9 st9 tk vl wd it mn S sb my we be9 rw fr e, av = [.ref 0, .int (nI e)] ∧ hp = (wM (nB B) im kp asd rf qt ab be tx ty at9 st9 tk vl wd it mn (nB S) sb my we be9 rw fr) ∧ GK B ∧ SOK S ∧ e ≤ 2000 ∧ Q none (wM (nB B) im kp asd rf qt ab be tx ty at9 st9 tk vl wd it mn (nB (goN B S e)) sb my we be9 rw fr)
def T_X10_goes : List (Nat × em_Op) := [(0, o_aload 0 1), (1, o_getf 5 0 4), (4, o_iconst 1 5), (5, o_aldI 0 6), (6, o_ifle 46 9), (9, o_iload 1 10), (10, o_aload 0 11), (11, o_getf 5 0 14), (14, o_iconst 1 15), (15, o_aldI 0 16), (16, o_irem 17), (17, o_istore 2 18), (18, o_aload 0 19), (19, o_aload 0 20), (20, o_getf 5 0 23), (23, o_iconst 26 25), (25, o_iconst 2 26), (26, o_iload 2 27), (27, o_imul 28), (28, o_iadd 29), (29, o_aldI 0 30), (30, o_aload 0 31), (31, o_getf 5 0 34), (34, o_iconst 26 36), (36, o_iconst 2 37), (37, o_iload 2 38), (38, o_imul 39), (39, o_iadd 40), (40, o_iconst 1 41), (41, o_iadd 42), (42, o_aldI 0 43), (43, o_call 3 (some 5) (sp_X10_talks) 46), (46, o_vret)]
theorem me_X10_goes : em_Me T_X10_goes 3 sp_X10_goes := by
  intro Q K hK hle av hp hs
  obtain ⟨B, im, kp, asd, rf, qt, ab, be, tx, ty, at9, st9, tk, vl, wd, it, mn, S, sb, my, we, be9, rw, fr, e, rfl, rfl, hB, hS, he, hq⟩ := hs
  have h8 := hB.2.1
  refine ⟨Nat.le_of_ble_eq_true rfl, hK 0 9999 0 _ _ _ ?_⟩
  refine ⟨1, rfl, by decide, fun z => ?_, fun z => ?_⟩
  · have z := (nI_leI (a := B 1) (b := 0) (by omega) (by omega)).mp z
    rw [goN, if_pos (by omega)] at hq
    exact hq
  · have h0 : ¬ B 1 = 0 := fun q => z (by show nI (B 1) ≤ 0; rw [q]; decide)
    rw [goN, if_neg h0] at hq
    have hm := Nat.mod_lt e (show B 1 > 0 by omega)
    obtain ⟨p1, p2⟩ := hB.2.2.2.2.2.2.2 (e % B 1) hm
    rw [← tlk_nB p1 p2 hS hB.2.2.2.2.2.1] at hq
    have em : nI e - nI e / nI (B 1) * nI (B 1) = nI (e % B 1) := pk_rem (by omega) (by omega) (by omega)
    have e1 : (26 : Int32) + 2 * nI (e % B 1) = nI (26 + 2 * (e % B 1)) := by
      rw [show (2 : Int32) = nI 2 from rfl, pk_mul]
      exact nI_add 26 _
    have e2 : (26 : Int32) + 2 * nI (e % B 1) + 1 = nI (27 + 2 * (e % B 1)) := by
      rw [e1, nI_1]; congr 1; omega
    refine ⟨1, rfl, by decide, nI_ne0 (by omega) (by omega), 26 + 2 * (e % B 1), (by show _ + 2 * (nI e - nI e / nI (B 1) * nI (B 1)) = _; rw [em]; exact e1), by omega, 27 + 2 * (e % B 1), (by show _ + 2 * (nI e - nI e / nI (B 1) * nI (B 1)) + 1 = _; rw [em]; exact e2), by omega, ?_⟩
    exact ⟨_, _, _, _, _, _, _, _, _, _, _, _, _, _, _, _, _, _, _, _, _, _, _, _, _, _, _, _, _, rfl, rfl, p1, p2, rfl, rfl, rfl, hS _ p1, hS _ p2, hq⟩
abbrev rm_X10_goes : Room := { frames := 2, cells := 0, slots := 0, locals := 61 }
set_option maxRecDepth 100000 in
set_option maxHeartbeats 4000000 in
theorem ct_X10_goes (l : Launch) (D : va_G) (dA : Nat → ClassId) (σ : Nat → Nat) : em_CT l D em_cl dA σ (em_F σ) y_X10_goes c_X10_goes 3 (Option.none : Option ClassFile.FieldType) rm_X10_goes (sp_X10_goes ) := by
  refine em_CT_of (T := T_X10_goes ) (em_F_ok σ) (by decide) (fun p e s m args below meth c A ρ Q C hFok hF hret hlk hin => ?_) (me_X10_goes )
  unfold T_X10_goes
  refine List.forall_mem_cons.mpr ⟨s_aload_n C (by decide +kernel : decode c_X10_goes 0 = .ok (.aload_n 0, 1)) rfl rfl rfl, ?_⟩
  refine List.forall_mem_cons.mpr ⟨s_getf C (by decide +kernel : decode c_X10_goes 1 = .ok (.getfield 7, 3)) rfl rfl em_cl_X10 (by decide) ew691 rfl, ?_⟩
  refine List.forall_mem_cons.mpr ⟨s_iconst C (by decide +kernel : decode c_X10_goes 4 = .ok (.iconst 1, 1)) rfl rfl (by decide), ?_⟩
  refine List.forall_mem_cons.mpr ⟨s_iald C (by decide +kernel : decode c_X10_goes 5 = .ok (.iaload, 1)) rfl rfl, ?_⟩
  refine List.forall_mem_cons.mpr ⟨s_ifle C (by decide +kernel : decode c_X10_goes 6 = .ok (.ifCond .le 40, 3)) (by decide) rfl rfl rfl, ?_⟩
  refine List.forall_mem_cons.mpr ⟨s_iload_n C (by decide +kernel : decode c_X10_goes 9 = .ok (.iload_n 1, 1)) rfl rfl rfl, ?_⟩
  refine List.forall_mem_cons.mpr ⟨s_aload_n C (by decide +kernel : decode c_X10_goes 10 = .ok (.aload_n 0, 1)) rfl rfl rfl, ?_⟩
  refine List.forall_mem_cons.mpr ⟨s_getf C (by decide +kernel : decode c_X10_goes 11 = .ok (.getfield 7, 3)) rfl rfl em_cl_X10 (by decide) ew691 rfl, ?_⟩
  refine List.forall_mem_cons.mpr ⟨s_iconst C (by decide +kernel : decode c_X10_goes 14 = .ok (.iconst 1, 1)) rfl rfl (by decide), ?_⟩
  refine List.forall_mem_cons.mpr ⟨s_iald C (by decide +kernel : decode c_X10_goes 15 = .ok (.iaload, 1)) rfl rfl, ?_⟩
  refine List.forall_mem_cons.mpr ⟨s_irem C (by decide +kernel : decode c_X10_goes 16 = .ok (.irem, 1)) rfl rfl, ?_⟩
  refine List.forall_mem_cons.mpr ⟨s_istore_n C (by decide +kernel : decode c_X10_goes 17 = .ok (.istore_n 2, 1)) rfl rfl rfl (by decide), ?_⟩
  refine List.forall_mem_cons.mpr ⟨s_aload_n C (by decide +kernel : decode c_X10_goes 18 = .ok (.aload_n 0, 1)) rfl rfl rfl, ?_⟩
  refine List.forall_mem_cons.mpr ⟨s_aload_n C (by decide +kernel : decode c_X10_goes 19 = .ok (.aload_n 0, 1)) rfl rfl rfl, ?_⟩
  refine List.forall_mem_cons.mpr ⟨s_getf C (by decide +kernel : decode c_X10_goes 20 = .ok (.getfield 7, 3)) rfl rfl em_cl_X10 (by decide) ew691 rfl, ?_⟩
  refine List.forall_mem_cons.mpr ⟨s_bipush C (by decide +kernel : decode c_X10_goes 23 = .ok (.bipush 26, 2)) rfl rfl (by decide), ?_⟩
  refine List.forall_mem_cons.mpr ⟨s_iconst C (by decide +kernel : decode c_X10_goes 25 = .ok (.iconst 2, 1)) rfl rfl (by decide), ?_⟩
  refine List.forall_mem_cons.mpr ⟨s_iload_n C (by decide +kernel : decode c_X10_goes 26 = .ok (.iload_n 2, 1)) rfl rfl rfl, ?_⟩
  refine List.forall_mem_cons.mpr ⟨s_imul C (by decide +kernel : decode c_X10_goes 27 = .ok (.imul, 1)) rfl rfl, ?_⟩
  refine List.forall_mem_cons.mpr ⟨s_iadd C (by decide +kernel : decode c_X10_goes 28 = .ok (.iadd, 1)) rfl rfl, ?_⟩
  refine List.forall_mem_cons.mpr ⟨s_iald C (by decide +kernel : decode c_X10_goes 29 = .ok (.iaload, 1)) rfl rfl, ?_⟩
  refine List.forall_mem_cons.mpr ⟨s_aload_n C (by decide +kernel : decode c_X10_goes 30 = .ok (.aload_n 0, 1)) rfl rfl rfl, ?_⟩
  refine List.forall_mem_cons.mpr ⟨s_getf C (by decide +kernel : decode c_X10_goes 31 = .ok (.getfield 7, 3)) rfl rfl em_cl_X10 (by decide) ew691 rfl, ?_⟩
  refine List.forall_mem_cons.mpr ⟨s_bipush C (by decide +kernel : decode c_X10_goes 34 = .ok (.bipush 26, 2)) rfl rfl (by decide), ?_⟩
  refine List.forall_mem_cons.mpr ⟨s_iconst C (by decide +kernel : decode c_X10_goes 36 = .ok (.iconst 2, 1)) rfl rfl (by decide), ?_⟩
  refine List.forall_mem_cons.mpr ⟨s_iload_n C (by decide +kernel : decode c_X10_goes 37 = .ok (.iload_n 2, 1)) rfl rfl rfl, ?_⟩
  refine List.forall_mem_cons.mpr ⟨s_imul C (by decide +kernel : decode c_X10_goes 38 = .ok (.imul, 1)) rfl rfl, ?_⟩
  refine List.forall_mem_cons.mpr ⟨s_iadd C (by decide +kernel : decode c_X10_goes 39 = .ok (.iadd, 1)) rfl rfl, ?_⟩
  refine List.forall_mem_cons.mpr ⟨s_iconst C (by decide +kernel : decode c_X10_goes 40 = .ok (.iconst 1, 1)) rfl rfl (by decide), ?_⟩
  refine List.forall_mem_cons.mpr ⟨s_iadd C (by decide +kernel : decode c_X10_goes 41 = .ok (.iadd, 1)) rfl rfl, ?_⟩
  refine List.forall_mem_cons.mpr ⟨s_iald C (by decide +kernel : decode c_X10_goes 42 = .ok (.iaload, 1)) rfl rfl, ?_⟩
  refine List.forall_mem_cons.mpr ⟨s_callV C hFok hF (ct_X10_talks l D dA σ) ⟨rfl, rfl⟩ ew927 em_cl_X10 ew924 ew926 ewp30 ew6 ⟨by decide, by decide, by decide +kernel⟩ ⟨by decide, by decide⟩ (by decide +kernel : decode c_X10_goes 43 = .ok (.invokevirtual 192, 3)) rfl rfl ⟨Nat.zero_le _, Nat.zero_le _⟩, ?_⟩
  refine List.forall_mem_cons.mpr ⟨s_vret C (by decide +kernel : decode c_X10_goes 46 = .ok (.return_, 1)) hret hlk ⟨Nat.le_refl 0, Nat.le_refl 0⟩, ?_⟩
  exact fun _ h => absurd h List.not_mem_nil
