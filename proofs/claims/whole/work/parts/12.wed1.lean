/-! ===== WedApart: its world ===== -/
def wX (by9 : Nat → Int32) (tln tst ten : Int32) (mm : Nat → Int64) (fa9 fb9 : Int32) (rf : Nat → Int32) (im : Nat → Option Nat) (pe : Int32) (ki : Nat → Int32) (mi se : Int64) (we lea mst pa : Int32) (fi sd : Nat → Int32) (ev un : Int32) (ma : Nat → Int64) (ea : Nat → Int32) (co : Int32) (ca clt : Nat → Int32) (Y : em_H) : em_H :=
  .inr (4, [.ref 1, .ref 3, .ref 5, .ref 6, .ref 7, .ref 8, .ref 16]) :: .inr (3, [.ref 2, .int tln, .int tst, .int ten]) :: .inl (2, 150, .inl by9) :: .inr (0, [.ref 4]) :: .inl (1, 201, .inr (.inl mm)) :: .inr (1, [.int fa9, .int fb9]) :: .inl (0, 3, .inl rf) :: .inl (4, 2, .inr (.inr (.inr (.inr im)))) ::
  .inr (2, [.int pe, .ref 9, .long mi, .long se, .int we, .int lea, .int mst, .int pa, .ref 10, .ref 11, .int ev, .int un, .ref 12, .ref 13, .int co, .ref 14, .ref 15]) :: .inl (0, 6, .inl ki) :: .inl (0, 8, .inl fi) :: .inl (0, 8, .inl sd) :: .inl (1, 12, .inr (.inl ma)) :: .inl (0, 12, .inl ea) :: .inl (0, 10, .inl ca) :: .inl (3, 10, .inl clt) :: Y
def rfi (a : Int32) : Nat := if a = -3 then 1 else if a = -4 then 2 else 0
def rfu (rf : Nat → Int32) (a : Int32) : Nat → Int32 := upd rf (rfi a) (rf (rfi a) + 1)
def sp_X9_refuse : em_Sp := fun av hp Q => ∃ by9 tln tst ten mm fa9 fb9 rf im pe ki mi se we lea mst pa fi sd ev un ma ea co ca clt Y a, av = [.ref 0, .int a] ∧ hp = (wX by9 tln tst ten mm fa9 fb9 rf im pe ki mi se we lea mst pa fi sd ev un ma ea co ca clt Y) ∧ Q (some (.int a)) (wX by9 tln tst ten mm fa9 fb9 (rfu rf a) im pe ki mi se we lea mst pa fi sd ev un ma ea co ca clt Y)
def T_X9_refuse : List (Nat × em_Op) := [(0, o_iload 1 1), (1, o_iconst (-3) 3), (3, o_icmpne 19 6), (6, o_aload 0 7), (7, o_getf 4 3 10), (10, o_iconst 1 11), (11, o_dup2 12), (12, o_aldI 0 13), (13, o_iconst 1 14), (14, o_iadd 15), (15, o_iast 16), (16, o_goto 48), (19, o_iload 1 20), (20, o_iconst (-4) 22), (22, o_icmpne 38 25), (25, o_aload 0 26), (26, o_getf 4 3 29), (29, o_iconst 2 30), (30, o_dup2 31), (31, o_aldI 0 32), (32, o_iconst 1 33), (33, o_iadd 34), (34, o_iast 35), (35, o_goto 48), (38, o_aload 0 39), (39, o_getf 4 3 42), (42, o_iconst 0 43), (43, o_dup2 44), (44, o_aldI 0 45), (45, o_iconst 1 46), (46, o_iadd 47), (47, o_iast 48), (48, o_iload 1 49), (49, o_iret)]
theorem me_X9_refuse : em_Me T_X9_refuse 2 sp_X9_refuse := by
  intro Q K hK hle av hp hs
  obtain ⟨by9, tln, tst, ten, mm, fa9, fb9, rf, im, pe, ki, mi, se, we, lea, mst, pa, fi, sd, ev, un, ma, ea, co, ca, clt, Y, a, rfl, rfl, hq⟩ := hs
  refine ⟨Nat.le_of_ble_eq_true rfl, hK 0 9999 0 _ _ _ ?_⟩
  rw [rfu, rfi] at hq
  refine ⟨fun h1 => ⟨fun h2 => ?_, fun h2 => ?_⟩, fun h1 => ?_⟩
  · rw [if_neg h1, if_neg h2] at hq
    exact ⟨0, rfl, by decide, 0, rfl, by decide, hq⟩
  · rw [if_neg h1, if_pos h2] at hq
    exact ⟨2, rfl, by decide, 2, rfl, by decide, hq⟩
  · rw [if_pos h1] at hq
    exact ⟨1, rfl, by decide, 1, rfl, by decide, hq⟩
abbrev rm_X9_refuse : Room := { frames := 0, cells := 0, slots := 0, locals := 0 }
set_option maxRecDepth 100000 in
set_option maxHeartbeats 4000000 in
theorem ct_X9_refuse (l : Launch) (D : va_G) (dA : Nat → ClassId) (σ : Nat → Nat) : em_CT l D em_cl dA σ (em_F σ) y_X9_refuse c_X9_refuse 2 (Option.some ClassFile.FieldType.int) rm_X9_refuse (sp_X9_refuse ) := by
  refine em_CT_of (T := T_X9_refuse ) (em_F_ok σ) (by decide) (fun p e s m args below meth c A ρ Q C hFok hF hret hlk hin => ?_) (me_X9_refuse )
  unfold T_X9_refuse
  refine List.forall_mem_cons.mpr ⟨s_iload_n C (by decide +kernel : decode c_X9_refuse 0 = .ok (.iload_n 1, 1)) rfl rfl rfl, ?_⟩
  refine List.forall_mem_cons.mpr ⟨s_bipush C (by decide +kernel : decode c_X9_refuse 1 = .ok (.bipush (-3), 2)) rfl rfl (by decide), ?_⟩
  refine List.forall_mem_cons.mpr ⟨s_icmpne C (by decide +kernel : decode c_X9_refuse 3 = .ok (.if_icmp .ne 16, 3)) (by decide) rfl rfl rfl, ?_⟩
  refine List.forall_mem_cons.mpr ⟨s_aload_n C (by decide +kernel : decode c_X9_refuse 6 = .ok (.aload_n 0, 1)) rfl rfl rfl, ?_⟩
  refine List.forall_mem_cons.mpr ⟨s_getf C (by decide +kernel : decode c_X9_refuse 7 = .ok (.getfield 30, 3)) rfl rfl em_cl_X9 (by decide) ew155 rfl, ?_⟩
  refine List.forall_mem_cons.mpr ⟨s_iconst C (by decide +kernel : decode c_X9_refuse 10 = .ok (.iconst 1, 1)) rfl rfl (by decide), ?_⟩
  refine List.forall_mem_cons.mpr ⟨s_dup2 C (by decide +kernel : decode c_X9_refuse 11 = .ok (.dup2, 1)) rfl rfl, ?_⟩
  refine List.forall_mem_cons.mpr ⟨s_iald C (by decide +kernel : decode c_X9_refuse 12 = .ok (.iaload, 1)) rfl rfl, ?_⟩
  refine List.forall_mem_cons.mpr ⟨s_iconst C (by decide +kernel : decode c_X9_refuse 13 = .ok (.iconst 1, 1)) rfl rfl (by decide), ?_⟩
  refine List.forall_mem_cons.mpr ⟨s_iadd C (by decide +kernel : decode c_X9_refuse 14 = .ok (.iadd, 1)) rfl rfl, ?_⟩
  refine List.forall_mem_cons.mpr ⟨s_iast C (by decide +kernel : decode c_X9_refuse 15 = .ok (.iastore, 1)) rfl rfl, ?_⟩
  refine List.forall_mem_cons.mpr ⟨s_goto C (by decide +kernel : decode c_X9_refuse 16 = .ok (.goto 32, 3)) (by decide) rfl, ?_⟩
  refine List.forall_mem_cons.mpr ⟨s_iload_n C (by decide +kernel : decode c_X9_refuse 19 = .ok (.iload_n 1, 1)) rfl rfl rfl, ?_⟩
  refine List.forall_mem_cons.mpr ⟨s_bipush C (by decide +kernel : decode c_X9_refuse 20 = .ok (.bipush (-4), 2)) rfl rfl (by decide), ?_⟩
  refine List.forall_mem_cons.mpr ⟨s_icmpne C (by decide +kernel : decode c_X9_refuse 22 = .ok (.if_icmp .ne 16, 3)) (by decide) rfl rfl rfl, ?_⟩
  refine List.forall_mem_cons.mpr ⟨s_aload_n C (by decide +kernel : decode c_X9_refuse 25 = .ok (.aload_n 0, 1)) rfl rfl rfl, ?_⟩
  refine List.forall_mem_cons.mpr ⟨s_getf C (by decide +kernel : decode c_X9_refuse 26 = .ok (.getfield 30, 3)) rfl rfl em_cl_X9 (by decide) ew155 rfl, ?_⟩
  refine List.forall_mem_cons.mpr ⟨s_iconst C (by decide +kernel : decode c_X9_refuse 29 = .ok (.iconst 2, 1)) rfl rfl (by decide), ?_⟩
  refine List.forall_mem_cons.mpr ⟨s_dup2 C (by decide +kernel : decode c_X9_refuse 30 = .ok (.dup2, 1)) rfl rfl, ?_⟩
  refine List.forall_mem_cons.mpr ⟨s_iald C (by decide +kernel : decode c_X9_refuse 31 = .ok (.iaload, 1)) rfl rfl, ?_⟩
  refine List.forall_mem_cons.mpr ⟨s_iconst C (by decide +kernel : decode c_X9_refuse 32 = .ok (.iconst 1, 1)) rfl rfl (by decide), ?_⟩
  refine List.forall_mem_cons.mpr ⟨s_iadd C (by decide +kernel : decode c_X9_refuse 33 = .ok (.iadd, 1)) rfl rfl, ?_⟩
  refine List.forall_mem_cons.mpr ⟨s_iast C (by decide +kernel : decode c_X9_refuse 34 = .ok (.iastore, 1)) rfl rfl, ?_⟩
  refine List.forall_mem_cons.mpr ⟨s_goto C (by decide +kernel : decode c_X9_refuse 35 = .ok (.goto 13, 3)) (by decide) rfl, ?_⟩
  refine List.forall_mem_cons.mpr ⟨s_aload_n C (by decide +kernel : decode c_X9_refuse 38 = .ok (.aload_n 0, 1)) rfl rfl rfl, ?_⟩
  refine List.forall_mem_cons.mpr ⟨s_getf C (by decide +kernel : decode c_X9_refuse 39 = .ok (.getfield 30, 3)) rfl rfl em_cl_X9 (by decide) ew155 rfl, ?_⟩
  refine List.forall_mem_cons.mpr ⟨s_iconst C (by decide +kernel : decode c_X9_refuse 42 = .ok (.iconst 0, 1)) rfl rfl (by decide), ?_⟩
  refine List.forall_mem_cons.mpr ⟨s_dup2 C (by decide +kernel : decode c_X9_refuse 43 = .ok (.dup2, 1)) rfl rfl, ?_⟩
  refine List.forall_mem_cons.mpr ⟨s_iald C (by decide +kernel : decode c_X9_refuse 44 = .ok (.iaload, 1)) rfl rfl, ?_⟩
  refine List.forall_mem_cons.mpr ⟨s_iconst C (by decide +kernel : decode c_X9_refuse 45 = .ok (.iconst 1, 1)) rfl rfl (by decide), ?_⟩
  refine List.forall_mem_cons.mpr ⟨s_iadd C (by decide +kernel : decode c_X9_refuse 46 = .ok (.iadd, 1)) rfl rfl, ?_⟩
  refine List.forall_mem_cons.mpr ⟨s_iast C (by decide +kernel : decode c_X9_refuse 47 = .ok (.iastore, 1)) rfl rfl, ?_⟩
  refine List.forall_mem_cons.mpr ⟨s_iload_n C (by decide +kernel : decode c_X9_refuse 48 = .ok (.iload_n 1, 1)) rfl rfl rfl, ?_⟩
  refine List.forall_mem_cons.mpr ⟨s_iret C (by decide +kernel : decode c_X9_refuse 49 = .ok (.ireturn, 1)) hret hlk ⟨Nat.le_refl 0, Nat.le_refl 0⟩, ?_⟩
  exact fun _ h => absurd h List.not_mem_nil
def isbad (a : Int32) : Prop := a = -2 ∨ a = -3 ∨ a = -4
def sp_X9_counted : em_Sp := fun av hp Q => ∃ by9 tln tst ten mm fa9 fb9 rf im pe ki mi se we lea mst pa fi sd ev un ma ea co ca clt Y a, av = [.ref 0, .int a] ∧ hp = (wX by9 tln tst ten mm fa9 fb9 rf im pe ki mi se we lea mst pa fi sd ev un ma ea co ca clt Y) ∧ (isbad a → Q (some (.int a)) (wX by9 tln tst ten mm fa9 fb9 (rfu rf a) im pe ki mi se we lea mst pa fi sd ev un ma ea co ca clt Y)) ∧ (¬ isbad a → Q (some (.int a)) hp)
def T_X9_counted : List (Nat × em_Op) := [(0, o_iload 1 1), (1, o_iconst (-2) 3), (3, o_icmpeq 18 6), (6, o_iload 1 7), (7, o_iconst (-3) 9), (9, o_icmpeq 18 12), (12, o_iload 1 13), (13, o_iconst (-4) 15), (15, o_icmpne 26 18), (18, o_aload 0 19), (19, o_iload 1 20), (20, o_call 2 (some 4) (sp_X9_refuse) 23), (23, o_goto 27), (26, o_iload 1 27), (27, o_iret)]
theorem me_X9_counted : em_Me T_X9_counted 2 sp_X9_counted := by
  intro Q K hK hle av hp hs
  obtain ⟨by9, tln, tst, ten, mm, fa9, fb9, rf, im, pe, ki, mi, se, we, lea, mst, pa, fi, sd, ev, un, ma, ea, co, ca, clt, Y, a, rfl, rfl, h1, h0⟩ := hs
  refine ⟨Nat.le_of_ble_eq_true rfl, hK 0 9999 0 _ _ _ ?_⟩
  refine ⟨fun z => ⟨_, _, _, _, _, _, _, _, _, _, _, _, _, _, _, _, _, _, _, _, _, _, _, _, _, _, _, _, rfl, rfl, h1 (Or.inl z)⟩, fun z => ⟨fun y => ⟨_, _, _, _, _, _, _, _, _, _, _, _, _, _, _, _, _, _, _, _, _, _, _, _, _, _, _, _, rfl, rfl, h1 (Or.inr (Or.inl y))⟩, fun y => ⟨fun x => h0 ?_, fun x => ⟨_, _, _, _, _, _, _, _, _, _, _, _, _, _, _, _, _, _, _, _, _, _, _, _, _, _, _, _, rfl, rfl, h1 (Or.inr (Or.inr x))⟩⟩⟩⟩
  rintro (q | q | q)
  · exact z q
  · exact y q
  · exact x q
abbrev rm_X9_counted : Room := { frames := 1, cells := 0, slots := 0, locals := 21 }
set_option maxRecDepth 100000 in
set_option maxHeartbeats 4000000 in
theorem ct_X9_counted (l : Launch) (D : va_G) (dA : Nat → ClassId) (σ : Nat → Nat) : em_CT l D em_cl dA σ (em_F σ) y_X9_counted c_X9_counted 2 (Option.some ClassFile.FieldType.int) rm_X9_counted (sp_X9_counted ) := by
  refine em_CT_of (T := T_X9_counted ) (em_F_ok σ) (by decide) (fun p e s m args below meth c A ρ Q C hFok hF hret hlk hin => ?_) (me_X9_counted )
  unfold T_X9_counted
  refine List.forall_mem_cons.mpr ⟨s_iload_n C (by decide +kernel : decode c_X9_counted 0 = .ok (.iload_n 1, 1)) rfl rfl rfl, ?_⟩
  refine List.forall_mem_cons.mpr ⟨s_bipush C (by decide +kernel : decode c_X9_counted 1 = .ok (.bipush (-2), 2)) rfl rfl (by decide), ?_⟩
  refine List.forall_mem_cons.mpr ⟨s_icmpeq C (by decide +kernel : decode c_X9_counted 3 = .ok (.if_icmp .eq 15, 3)) (by decide) rfl rfl rfl, ?_⟩
  refine List.forall_mem_cons.mpr ⟨s_iload_n C (by decide +kernel : decode c_X9_counted 6 = .ok (.iload_n 1, 1)) rfl rfl rfl, ?_⟩
  refine List.forall_mem_cons.mpr ⟨s_bipush C (by decide +kernel : decode c_X9_counted 7 = .ok (.bipush (-3), 2)) rfl rfl (by decide), ?_⟩
  refine List.forall_mem_cons.mpr ⟨s_icmpeq C (by decide +kernel : decode c_X9_counted 9 = .ok (.if_icmp .eq 9, 3)) (by decide) rfl rfl rfl, ?_⟩
  refine List.forall_mem_cons.mpr ⟨s_iload_n C (by decide +kernel : decode c_X9_counted 12 = .ok (.iload_n 1, 1)) rfl rfl rfl, ?_⟩
  refine List.forall_mem_cons.mpr ⟨s_bipush C (by decide +kernel : decode c_X9_counted 13 = .ok (.bipush (-4), 2)) rfl rfl (by decide), ?_⟩
  refine List.forall_mem_cons.mpr ⟨s_icmpne C (by decide +kernel : decode c_X9_counted 15 = .ok (.if_icmp .ne 11, 3)) (by decide) rfl rfl rfl, ?_⟩
  refine List.forall_mem_cons.mpr ⟨s_aload_n C (by decide +kernel : decode c_X9_counted 18 = .ok (.aload_n 0, 1)) rfl rfl rfl, ?_⟩
  refine List.forall_mem_cons.mpr ⟨s_iload_n C (by decide +kernel : decode c_X9_counted 19 = .ok (.iload_n 1, 1)) rfl rfl rfl, ?_⟩
  refine List.forall_mem_cons.mpr ⟨s_callV C hFok hF (ct_X9_refuse l D dA σ) ⟨rfl, rfl⟩ ew200 em_cl_X9 ew197 ew199 ewp1 ew1 ⟨by decide, by decide, by decide +kernel⟩ ⟨by decide, by decide⟩ (by decide +kernel : decode c_X9_counted 20 = .ok (.invokevirtual 63, 3)) rfl rfl ⟨Nat.zero_le _, Nat.zero_le _⟩, ?_⟩
  refine List.forall_mem_cons.mpr ⟨s_goto C (by decide +kernel : decode c_X9_counted 23 = .ok (.goto 4, 3)) (by decide) rfl, ?_⟩
  refine List.forall_mem_cons.mpr ⟨s_iload_n C (by decide +kernel : decode c_X9_counted 26 = .ok (.iload_n 1, 1)) rfl rfl rfl, ?_⟩
  refine List.forall_mem_cons.mpr ⟨s_iret C (by decide +kernel : decode c_X9_counted 27 = .ok (.ireturn, 1)) hret hlk ⟨Nat.le_refl 0, Nat.le_refl 0⟩, ?_⟩
  exact fun _ h => absurd h List.not_mem_nil
theorem nbad {n : Nat} (h : n < 2 ^ 31) : ¬ isbad (nI n) := by
  have key : ∀ k : Int32, k.toInt < 0 → ¬ nI n = k := fun k hk q => by
    have : (nI n).toInt = k.toInt := by rw [q]
    rw [nI_toInt h] at this
    omega
  rintro (q | q | q)
  · exact key _ (by decide) q
  · exact key _ (by decide) q
  · exact key _ (by decide) q
def hmy (pe pa ev un co tln : Int32) (k : Int32) : Int32 := if k = 0 then pe else if k = 1 then pa else if k = 2 then ev else if k = 3 then un else if k = 4 then co else tln
def sp_X9_howMany : em_Sp := fun av hp Q => ∃ by9 tln tst ten mm fa9 fb9 rf im pe ki mi se we lea mst pa fi sd ev un ma ea co ca clt Y k, av = [.ref 0, .int k] ∧ hp = (wX by9 tln tst ten mm fa9 fb9 rf im pe ki mi se we lea mst pa fi sd ev un ma ea co ca clt Y) ∧ Q (some (.int (hmy pe pa ev un co tln k))) hp
def T_X9_howMany : List (Nat × em_Op) := [(0, o_iload 1 1), (1, o_sw [(0, 36), (1, 44), (2, 52), (3, 60), (4, 68)] 76), (36, o_aload 0 37), (37, o_getf 4 5 40), (40, o_getf 2 0 43), (43, o_iret), (44, o_aload 0 45), (45, o_getf 4 5 48), (48, o_getf 2 7 51), (51, o_iret), (52, o_aload 0 53), (53, o_getf 4 5 56), (56, o_getf 2 10 59), (59, o_iret), (60, o_aload 0 61), (61, o_getf 4 5 64), (64, o_getf 2 11 67), (67, o_iret), (68, o_aload 0 69), (69, o_getf 4 5 72), (72, o_getf 2 14 75), (75, o_iret), (76, o_aload 0 77), (77, o_getf 4 0 80), (80, o_getf 3 1 83), (83, o_iret)]
theorem me_X9_howMany : em_Me T_X9_howMany 2 sp_X9_howMany := by
  intro Q K hK hle av hp hs
  obtain ⟨by9, tln, tst, ten, mm, fa9, fb9, rf, im, pe, ki, mi, se, we, lea, mst, pa, fi, sd, ev, un, ma, ea, co, ca, clt, Y, k, rfl, rfl, hq⟩ := hs
  refine ⟨Nat.le_of_ble_eq_true rfl, hK 0 9999 0 _ _ _ ?_⟩
  rw [hmy] at hq
  refine ⟨fun h => ?_, fun h0 => ⟨fun h => ?_, fun h1 => ⟨fun h => ?_, fun h2 => ⟨fun h => ?_, fun h3 => ⟨fun h => ?_, fun h4 => ?_⟩⟩⟩⟩⟩
  · rw [if_pos h] at hq; exact hq
  · rw [if_neg h0, if_pos h] at hq; exact hq
  · rw [if_neg h0, if_neg h1, if_pos h] at hq; exact hq
  · rw [if_neg h0, if_neg h1, if_neg h2, if_pos h] at hq; exact hq
  · rw [if_neg h0, if_neg h1, if_neg h2, if_neg h3, if_pos h] at hq; exact hq
  · rw [if_neg h0, if_neg h1, if_neg h2, if_neg h3, if_neg h4] at hq; exact hq
abbrev rm_X9_howMany : Room := { frames := 0, cells := 0, slots := 0, locals := 0 }
set_option maxRecDepth 100000 in
set_option maxHeartbeats 4000000 in
theorem ct_X9_howMany (l : Launch) (D : va_G) (dA : Nat → ClassId) (σ : Nat → Nat) : em_CT l D em_cl dA σ (em_F σ) y_X9_howMany c_X9_howMany 2 (Option.some ClassFile.FieldType.int) rm_X9_howMany (sp_X9_howMany ) := by
  refine em_CT_of (T := T_X9_howMany ) (em_F_ok σ) (by decide) (fun p e s m args below meth c A ρ Q C hFok hF hret hlk hin => ?_) (me_X9_howMany )
  unfold T_X9_howMany
  refine List.forall_mem_cons.mpr ⟨s_iload_n C (by decide +kernel : decode c_X9_howMany 0 = .ok (.iload_n 1, 1)) rfl rfl rfl, ?_⟩
  refine List.forall_mem_cons.mpr ⟨s_sw C (by decide +kernel : decode c_X9_howMany 1 = .ok (.tableswitch 75 0 4 #[35, 43, 51, 59, 67], 35)) (by decide) (by decide) (by decide) (fun _ => rfl), ?_⟩
  refine List.forall_mem_cons.mpr ⟨s_aload_n C (by decide +kernel : decode c_X9_howMany 36 = .ok (.aload_n 0, 1)) rfl rfl rfl, ?_⟩
  refine List.forall_mem_cons.mpr ⟨s_getf C (by decide +kernel : decode c_X9_howMany 37 = .ok (.getfield 41, 3)) rfl rfl em_cl_X9 (by decide) ew157 rfl, ?_⟩
  refine List.forall_mem_cons.mpr ⟨s_getf C (by decide +kernel : decode c_X9_howMany 40 = .ok (.getfield 120, 3)) rfl rfl em_cl_X7 (by decide) ew88 rfl, ?_⟩
  refine List.forall_mem_cons.mpr ⟨s_iret C (by decide +kernel : decode c_X9_howMany 43 = .ok (.ireturn, 1)) hret hlk ⟨Nat.le_refl 0, Nat.le_refl 0⟩, ?_⟩
  refine List.forall_mem_cons.mpr ⟨s_aload_n C (by decide +kernel : decode c_X9_howMany 44 = .ok (.aload_n 0, 1)) rfl rfl rfl, ?_⟩
  refine List.forall_mem_cons.mpr ⟨s_getf C (by decide +kernel : decode c_X9_howMany 45 = .ok (.getfield 41, 3)) rfl rfl em_cl_X9 (by decide) ew157 rfl, ?_⟩
  refine List.forall_mem_cons.mpr ⟨s_getf C (by decide +kernel : decode c_X9_howMany 48 = .ok (.getfield 86, 3)) rfl rfl em_cl_X7 (by decide) ew101 rfl, ?_⟩
  refine List.forall_mem_cons.mpr ⟨s_iret C (by decide +kernel : decode c_X9_howMany 51 = .ok (.ireturn, 1)) hret hlk ⟨Nat.le_refl 0, Nat.le_refl 0⟩, ?_⟩
  refine List.forall_mem_cons.mpr ⟨s_aload_n C (by decide +kernel : decode c_X9_howMany 52 = .ok (.aload_n 0, 1)) rfl rfl rfl, ?_⟩
  refine List.forall_mem_cons.mpr ⟨s_getf C (by decide +kernel : decode c_X9_howMany 53 = .ok (.getfield 41, 3)) rfl rfl em_cl_X9 (by decide) ew157 rfl, ?_⟩
  refine List.forall_mem_cons.mpr ⟨s_getf C (by decide +kernel : decode c_X9_howMany 56 = .ok (.getfield 138, 3)) rfl rfl em_cl_X7 (by decide) ew106 rfl, ?_⟩
  refine List.forall_mem_cons.mpr ⟨s_iret C (by decide +kernel : decode c_X9_howMany 59 = .ok (.ireturn, 1)) hret hlk ⟨Nat.le_refl 0, Nat.le_refl 0⟩, ?_⟩
  refine List.forall_mem_cons.mpr ⟨s_aload_n C (by decide +kernel : decode c_X9_howMany 60 = .ok (.aload_n 0, 1)) rfl rfl rfl, ?_⟩
  refine List.forall_mem_cons.mpr ⟨s_getf C (by decide +kernel : decode c_X9_howMany 61 = .ok (.getfield 41, 3)) rfl rfl em_cl_X9 (by decide) ew157 rfl, ?_⟩
  refine List.forall_mem_cons.mpr ⟨s_getf C (by decide +kernel : decode c_X9_howMany 64 = .ok (.getfield 269, 3)) rfl rfl em_cl_X7 (by decide) ew108 rfl, ?_⟩
  refine List.forall_mem_cons.mpr ⟨s_iret C (by decide +kernel : decode c_X9_howMany 67 = .ok (.ireturn, 1)) hret hlk ⟨Nat.le_refl 0, Nat.le_refl 0⟩, ?_⟩
  refine List.forall_mem_cons.mpr ⟨s_aload_n C (by decide +kernel : decode c_X9_howMany 68 = .ok (.aload_n 0, 1)) rfl rfl rfl, ?_⟩
  refine List.forall_mem_cons.mpr ⟨s_getf C (by decide +kernel : decode c_X9_howMany 69 = .ok (.getfield 41, 3)) rfl rfl em_cl_X9 (by decide) ew157 rfl, ?_⟩
  refine List.forall_mem_cons.mpr ⟨s_getf C (by decide +kernel : decode c_X9_howMany 72 = .ok (.getfield 228, 3)) rfl rfl em_cl_X7 (by decide) ew112 rfl, ?_⟩
  refine List.forall_mem_cons.mpr ⟨s_iret C (by decide +kernel : decode c_X9_howMany 75 = .ok (.ireturn, 1)) hret hlk ⟨Nat.le_refl 0, Nat.le_refl 0⟩, ?_⟩
  refine List.forall_mem_cons.mpr ⟨s_aload_n C (by decide +kernel : decode c_X9_howMany 76 = .ok (.aload_n 0, 1)) rfl rfl rfl, ?_⟩
  refine List.forall_mem_cons.mpr ⟨s_getf C (by decide +kernel : decode c_X9_howMany 77 = .ok (.getfield 10, 3)) rfl rfl em_cl_X9 (by decide) ew152 rfl, ?_⟩
  refine List.forall_mem_cons.mpr ⟨s_getf C (by decide +kernel : decode c_X9_howMany 80 = .ok (.getfield 93, 3)) rfl rfl em_cl_X8 (by decide) ew35 rfl, ?_⟩
  refine List.forall_mem_cons.mpr ⟨s_iret C (by decide +kernel : decode c_X9_howMany 83 = .ok (.ireturn, 1)) hret hlk ⟨Nat.le_refl 0, Nat.le_refl 0⟩, ?_⟩
  exact fun _ h => absurd h List.not_mem_nil
def sp_X9_person : em_Sp := fun av hp Q => ∃ by9 tln tst ten mm fa9 fb9 rf im pe ki mi se we lea mst pa fi sd ev un ma ea co ca clt Y k o n, av = [.ref 0, .int k, .int o] ∧ hp = (wX by9 tln tst ten mm fa9 fb9 rf im pe ki mi se we lea mst pa fi sd ev un ma ea co ca clt Y) ∧ pe = nI n ∧ n ≤ 6 ∧ (¬ (isk k ∧ iss o) → Q (some (.int (-2))) (wX by9 tln tst ten mm fa9 fb9 (rfu rf (-2)) im pe ki mi se we lea mst pa fi sd ev un ma ea co ca clt Y)) ∧ (isk k → iss o → n = 6 → Q (some (.int (-4))) (wX by9 tln tst ten mm fa9 fb9 (rfu rf (-4)) im pe ki mi se we lea mst pa fi sd ev un ma ea co ca clt Y)) ∧ (isk k → iss o → n < 6 → Q (some (.int (nI n))) (wX by9 tln tst ten mm fa9 fb9 rf im (nI (n + 1)) (upd ki n k) (mw mi (nI n) o) (mw se (nI n) o) we lea mst pa fi sd ev (0) ma ea co ca clt Y))
def T_X9_person : List (Nat × em_Op) := [(0, o_aload 0 1), (1, o_aload 0 2), (2, o_getf 4 5 5), (5, o_iload 1 6), (6, o_iload 2 7), (7, o_callP 3 (some 2) [8, 9, 10, 11, 12, 13, 14, 15] (sp_X7_welcome) 10), (10, o_call 2 (some 4) (sp_X9_counted) 13), (13, o_iret)]
theorem me_X9_person : em_Me T_X9_person 3 sp_X9_person := by
  intro Q K hK hle av hp hs
  obtain ⟨by9, tln, tst, ten, mm, fa9, fb9, rf, im, pe, ki, mi, se, we, lea, mst, pa, fi, sd, ev, un, ma, ea, co, ca, clt, Y, k, o, n, rfl, rfl, rfl, hn, hb, hf, hq⟩ := hs
  refine ⟨Nat.le_of_ble_eq_true rfl, hK 0 9999 0 _ _ _ ?_⟩
  refine ⟨_, _, _, _, _, _, _, _, _, _, _, _, _, _, _, _, _, k, o, n, rfl, rfl, rfl, hn, fun z => ?_, fun z1 z2 z3 => ?_, fun z1 z2 z3 => ?_⟩
  · exact ⟨_, _, _, _, _, _, _, _, _, _, _, _, _, _, _, _, _, _, _, _, _, _, _, _, _, _, _, _, rfl, rfl, fun _ => hb z, fun y => absurd (Or.inl rfl) y⟩
  · exact ⟨_, _, _, _, _, _, _, _, _, _, _, _, _, _, _, _, _, _, _, _, _, _, _, _, _, _, _, _, rfl, rfl, fun _ => hf z1 z2 z3, fun y => absurd (Or.inr (Or.inr rfl)) y⟩
  · exact ⟨_, _, _, _, _, _, _, _, _, _, _, _, _, _, _, _, _, _, _, _, _, _, _, _, _, _, _, _, rfl, rfl, fun y => absurd y (nbad (by omega)), fun _ => hq z1 z2 z3⟩
abbrev rm_X9_person : Room := { frames := 2, cells := 0, slots := 0, locals := 47 }
set_option maxRecDepth 100000 in
set_option maxHeartbeats 4000000 in
theorem ct_X9_person (l : Launch) (D : va_G) (dA : Nat → ClassId) (σ : Nat → Nat) : em_CT l D em_cl dA σ (em_F σ) y_X9_person c_X9_person 3 (Option.some ClassFile.FieldType.int) rm_X9_person (sp_X9_person ) := by
  refine em_CT_of (T := T_X9_person ) (em_F_ok σ) (by decide) (fun p e s m args below meth c A ρ Q C hFok hF hret hlk hin => ?_) (me_X9_person )
  unfold T_X9_person
  refine List.forall_mem_cons.mpr ⟨s_aload_n C (by decide +kernel : decode c_X9_person 0 = .ok (.aload_n 0, 1)) rfl rfl rfl, ?_⟩
  refine List.forall_mem_cons.mpr ⟨s_aload_n C (by decide +kernel : decode c_X9_person 1 = .ok (.aload_n 0, 1)) rfl rfl rfl, ?_⟩
  refine List.forall_mem_cons.mpr ⟨s_getf C (by decide +kernel : decode c_X9_person 2 = .ok (.getfield 41, 3)) rfl rfl em_cl_X9 (by decide) ew157 rfl, ?_⟩
  refine List.forall_mem_cons.mpr ⟨s_iload_n C (by decide +kernel : decode c_X9_person 5 = .ok (.iload_n 1, 1)) rfl rfl rfl, ?_⟩
  refine List.forall_mem_cons.mpr ⟨s_iload_n C (by decide +kernel : decode c_X9_person 6 = .ok (.iload_n 2, 1)) rfl rfl rfl, ?_⟩
  refine List.forall_mem_cons.mpr ⟨s_callPV C hFok hF (ct_X7_welcome l D dA σ) ⟨rfl, rfl⟩ ew181 em_cl_X7 ew178 ew179 ew180 ew5 ⟨by decide, by decide, by decide +kernel⟩ ⟨by decide, by decide⟩ (by decide +kernel : decode c_X9_person 7 = .ok (.invokevirtual 48, 3)) rfl rfl ⟨Nat.zero_le _, Nat.zero_le _⟩ (by decide), ?_⟩
  refine List.forall_mem_cons.mpr ⟨s_callV C hFok hF (ct_X9_counted l D dA σ) ⟨rfl, rfl⟩ ew196 em_cl_X9 ew193 ew195 ewp0 ew1 ⟨by decide, by decide, by decide +kernel⟩ ⟨by decide, by decide⟩ (by decide +kernel : decode c_X9_person 10 = .ok (.invokevirtual 52, 3)) rfl rfl ⟨Nat.zero_le _, Nat.zero_le _⟩, ?_⟩
  refine List.forall_mem_cons.mpr ⟨s_iret C (by decide +kernel : decode c_X9_person 13 = .ok (.ireturn, 1)) hret hlk ⟨Nat.le_refl 0, Nat.le_refl 0⟩, ?_⟩
  exact fun _ h => absurd h List.not_mem_nil
def sp_X9_thinks : em_Sp := fun av hp Q => ∃ by9 tln tst ten mm fa9 fb9 rf im pe ki mi se we lea mst pa fi sd ev un ma ea co ca clt Y p o, av = [.ref 0, .int p, .int o] ∧ hp = (wX by9 tln tst ten mm fa9 fb9 rf im pe ki mi se we lea mst pa fi sd ev un ma ea co ca clt Y) ∧ (¬ (hs pe p ∧ iss o) → Q (some (.int (-2))) (wX by9 tln tst ten mm fa9 fb9 (rfu rf (-2)) im pe ki mi se we lea mst pa fi sd ev un ma ea co ca clt Y)) ∧ (hs pe p → iss o → Q (some (.int (mo mi p))) (wX by9 tln tst ten mm fa9 fb9 rf im pe ki (mw mi p o) se we lea mst pa fi sd ev (0) ma ea co ca clt Y))
def T_X9_thinks : List (Nat × em_Op) := [(0, o_aload 0 1), (1, o_getf 4 5 4), (4, o_iload 1 5), (5, o_callP 2 (some 2) [8, 9, 10, 11, 12, 13, 14, 15] (sp_X7_has) 8), (8, o_ifeq 18 11), (11, o_iload 2 12), (12, o_call 1 none (sp_X9_isSet) 15), (15, o_ifne 25 18), (18, o_aload 0 19), (19, o_iconst (-2) 21), (21, o_call 2 (some 4) (sp_X9_refuse) 24), (24, o_iret), (25, o_aload 0 26), (26, o_getf 4 5 29), (29, o_iload 1 30), (30, o_iload 2 31), (31, o_callP 3 (some 2) [8, 9, 10, 11, 12, 13, 14, 15] (sp_X7_tell) 34), (34, o_iret)]
theorem me_X9_thinks : em_Me T_X9_thinks 3 sp_X9_thinks := by
  intro Q K hK hle av hp hs
  obtain ⟨by9, tln, tst, ten, mm, fa9, fb9, rf, im, pe, ki, mi, se, we, lea, mst, pa, fi, sd, ev, un, ma, ea, co, ca, clt, Y, p, o, rfl, rfl, hb, hq⟩ := hs
  refine ⟨Nat.le_of_ble_eq_true rfl, hK 0 9999 0 _ _ _ ?_⟩
  refine ⟨_, _, _, _, _, _, _, _, _, _, _, _, _, _, _, _, _, p, rfl, rfl, fun z => ?_, fun z => ?_⟩
  · refine ⟨fun y => absurd y (by decide), fun _ => ?_⟩
    refine ⟨_, rfl, fun z2 => ?_, fun z2 => ?_⟩
    · refine ⟨fun _ => ?_, fun y => absurd y (by decide)⟩
      exact ⟨_, _, _, _, _, _, _, _, _, _, _, _, _, _, _, _, _, p, o, rfl, rfl, hq z z2⟩
    · refine ⟨fun y => absurd rfl y, fun _ => ?_⟩
      exact ⟨_, _, _, _, _, _, _, _, _, _, _, _, _, _, _, _, _, _, _, _, _, _, _, _, _, _, _, _, rfl, rfl, hb (fun y => z2 y.2)⟩
  · refine ⟨fun _ => ?_, fun y => absurd y (by decide)⟩
    exact ⟨_, _, _, _, _, _, _, _, _, _, _, _, _, _, _, _, _, _, _, _, _, _, _, _, _, _, _, _, rfl, rfl, hb (fun y => z y.1)⟩
abbrev rm_X9_thinks : Room := { frames := 2, cells := 0, slots := 0, locals := 47 }
set_option maxRecDepth 100000 in
set_option maxHeartbeats 4000000 in
theorem ct_X9_thinks (l : Launch) (D : va_G) (dA : Nat → ClassId) (σ : Nat → Nat) : em_CT l D em_cl dA σ (em_F σ) y_X9_thinks c_X9_thinks 3 (Option.some ClassFile.FieldType.int) rm_X9_thinks (sp_X9_thinks ) := by
  refine em_CT_of (T := T_X9_thinks ) (em_F_ok σ) (by decide) (fun p e s m args below meth c A ρ Q C hFok hF hret hlk hin => ?_) (me_X9_thinks )
  unfold T_X9_thinks
  refine List.forall_mem_cons.mpr ⟨s_aload_n C (by decide +kernel : decode c_X9_thinks 0 = .ok (.aload_n 0, 1)) rfl rfl rfl, ?_⟩
  refine List.forall_mem_cons.mpr ⟨s_getf C (by decide +kernel : decode c_X9_thinks 1 = .ok (.getfield 41, 3)) rfl rfl em_cl_X9 (by decide) ew157 rfl, ?_⟩
  refine List.forall_mem_cons.mpr ⟨s_iload_n C (by decide +kernel : decode c_X9_thinks 4 = .ok (.iload_n 1, 1)) rfl rfl rfl, ?_⟩
  refine List.forall_mem_cons.mpr ⟨s_callPV C hFok hF (ct_X7_has l D dA σ) ⟨rfl, rfl⟩ ew208 em_cl_X7 ew205 ew206 ew207 ew5 ⟨by decide, by decide, by decide +kernel⟩ ⟨by decide, by decide⟩ (by decide +kernel : decode c_X9_thinks 5 = .ok (.invokevirtual 56, 3)) rfl rfl ⟨Nat.zero_le _, Nat.zero_le _⟩ (by decide), ?_⟩
  refine List.forall_mem_cons.mpr ⟨s_ifeq C (by decide +kernel : decode c_X9_thinks 8 = .ok (.ifCond .eq 10, 3)) (by decide) rfl rfl rfl, ?_⟩
  refine List.forall_mem_cons.mpr ⟨s_iload_n C (by decide +kernel : decode c_X9_thinks 11 = .ok (.iload_n 2, 1)) rfl rfl rfl, ?_⟩
  refine List.forall_mem_cons.mpr ⟨s_callS C hFok hF (ct_X9_isSet l D dA σ) ⟨rfl, rfl⟩ ew187 ew209 ew186 ew1 ⟨by decide, by decide, by decide +kernel⟩ ⟨by decide, by decide⟩ (by decide +kernel : decode c_X9_thinks 12 = .ok (.invokestatic 60, 3)) rfl rfl ⟨Nat.zero_le _, Nat.zero_le _⟩, ?_⟩
  refine List.forall_mem_cons.mpr ⟨s_ifne C (by decide +kernel : decode c_X9_thinks 15 = .ok (.ifCond .ne 10, 3)) (by decide) rfl rfl rfl, ?_⟩
  refine List.forall_mem_cons.mpr ⟨s_aload_n C (by decide +kernel : decode c_X9_thinks 18 = .ok (.aload_n 0, 1)) rfl rfl rfl, ?_⟩
  refine List.forall_mem_cons.mpr ⟨s_bipush C (by decide +kernel : decode c_X9_thinks 19 = .ok (.bipush (-2), 2)) rfl rfl (by decide), ?_⟩
  refine List.forall_mem_cons.mpr ⟨s_callV C hFok hF (ct_X9_refuse l D dA σ) ⟨rfl, rfl⟩ ew200 em_cl_X9 ew197 ew199 ewp1 ew1 ⟨by decide, by decide, by decide +kernel⟩ ⟨by decide, by decide⟩ (by decide +kernel : decode c_X9_thinks 21 = .ok (.invokevirtual 63, 3)) rfl rfl ⟨Nat.zero_le _, Nat.zero_le _⟩, ?_⟩
  refine List.forall_mem_cons.mpr ⟨s_iret C (by decide +kernel : decode c_X9_thinks 24 = .ok (.ireturn, 1)) hret hlk ⟨Nat.le_refl 0, Nat.le_refl 0⟩, ?_⟩
  refine List.forall_mem_cons.mpr ⟨s_aload_n C (by decide +kernel : decode c_X9_thinks 25 = .ok (.aload_n 0, 1)) rfl rfl rfl, ?_⟩
  refine List.forall_mem_cons.mpr ⟨s_getf C (by decide +kernel : decode c_X9_thinks 26 = .ok (.getfield 41, 3)) rfl rfl em_cl_X9 (by decide) ew157 rfl, ?_⟩
  refine List.forall_mem_cons.mpr ⟨s_iload_n C (by decide +kernel : decode c_X9_thinks 29 = .ok (.iload_n 1, 1)) rfl rfl rfl, ?_⟩
  refine List.forall_mem_cons.mpr ⟨s_iload_n C (by decide +kernel : decode c_X9_thinks 30 = .ok (.iload_n 2, 1)) rfl rfl rfl, ?_⟩
  refine List.forall_mem_cons.mpr ⟨s_callPV C hFok hF (ct_X7_tell l D dA σ) ⟨rfl, rfl⟩ ew213 em_cl_X7 ew210 ew211 ew212 ew5 ⟨by decide, by decide, by decide +kernel⟩ ⟨by decide, by decide⟩ (by decide +kernel : decode c_X9_thinks 31 = .ok (.invokevirtual 66, 3)) rfl rfl ⟨Nat.zero_le _, Nat.zero_le _⟩ (by decide), ?_⟩
  refine List.forall_mem_cons.mpr ⟨s_iret C (by decide +kernel : decode c_X9_thinks 34 = .ok (.ireturn, 1)) hret hlk ⟨Nat.le_refl 0, Nat.le_refl 0⟩, ?_⟩
  exact fun _ h => absurd h List.not_mem_nil
def sp_X9_become : em_Sp := fun av hp Q => ∃ by9 tln tst ten mm fa9 fb9 rf im pe ki mi se we lea mst pa fi sd ev un ma ea co ca clt Y p k n, av = [.ref 0, .int p, .int k] ∧ hp = (wX by9 tln tst ten mm fa9 fb9 rf im pe ki mi se we lea mst pa fi sd ev un ma ea co ca clt Y) ∧ pe = nI n ∧ n ≤ 6 ∧ (¬ (hs pe p ∧ isk k) → Q (some (.int (-2))) (wX by9 tln tst ten mm fa9 fb9 (rfu rf (-2)) im pe ki mi se we lea mst pa fi sd ev un ma ea co ca clt Y)) ∧ (∀ j, p = nI j → j < n → isk k → Q (some (.int (ki j))) (wX by9 tln tst ten mm fa9 fb9 rf im pe (upd ki j k) mi se we lea mst pa fi sd ev un ma ea co ca clt Y))
def T_X9_become : List (Nat × em_Op) := [(0, o_aload 0 1), (1, o_getf 4 5 4), (4, o_iload 1 5), (5, o_callP 2 (some 2) [8, 9, 10, 11, 12, 13, 14, 15] (sp_X7_has) 8), (8, o_ifeq 18 11), (11, o_iload 2 12), (12, o_call 1 none (sp_X3_isKind) 15), (15, o_ifne 25 18), (18, o_aload 0 19), (19, o_iconst (-2) 21), (21, o_call 2 (some 4) (sp_X9_refuse) 24), (24, o_iret), (25, o_aload 0 26), (26, o_getf 4 5 29), (29, o_iload 1 30), (30, o_iload 2 31), (31, o_callP 3 (some 2) [8, 9, 10, 11, 12, 13, 14, 15] (sp_X7_turn) 34), (34, o_iret)]
theorem me_X9_become : em_Me T_X9_become 3 sp_X9_become := by
  intro Q K hK hle av hp hs
  obtain ⟨by9, tln, tst, ten, mm, fa9, fb9, rf, im, pe, ki, mi, se, we, lea, mst, pa, fi, sd, ev, un, ma, ea, co, ca, clt, Y, p, k, n, rfl, rfl, rfl, hn, hb, hq⟩ := hs
  refine ⟨Nat.le_of_ble_eq_true rfl, hK 0 9999 0 _ _ _ ?_⟩
  refine ⟨_, _, _, _, _, _, _, _, _, _, _, _, _, _, _, _, _, p, rfl, rfl, fun z => ?_, fun z => ?_⟩
  · refine ⟨fun y => absurd y (by decide), fun _ => ?_⟩
    refine ⟨_, rfl, fun z2 => ?_, fun z2 => ?_⟩
    · refine ⟨fun _ => ?_, fun y => absurd y (by decide)⟩
      exact ⟨_, _, _, _, _, _, _, _, _, _, _, _, _, _, _, _, _, p, k, n, rfl, rfl, rfl, hn, fun y => absurd z y, fun j e h => hq j e h z2⟩
    · refine ⟨fun y => absurd rfl y, fun _ => ?_⟩
      exact ⟨_, _, _, _, _, _, _, _, _, _, _, _, _, _, _, _, _, _, _, _, _, _, _, _, _, _, _, _, rfl, rfl, hb (fun y => z2 y.2)⟩
  · refine ⟨fun _ => ?_, fun y => absurd y (by decide)⟩
    exact ⟨_, _, _, _, _, _, _, _, _, _, _, _, _, _, _, _, _, _, _, _, _, _, _, _, _, _, _, _, rfl, rfl, hb (fun y => z y.1)⟩
abbrev rm_X9_become : Room := { frames := 2, cells := 0, slots := 0, locals := 44 }
set_option maxRecDepth 100000 in
set_option maxHeartbeats 4000000 in
theorem ct_X9_become (l : Launch) (D : va_G) (dA : Nat → ClassId) (σ : Nat → Nat) : em_CT l D em_cl dA σ (em_F σ) y_X9_become c_X9_become 3 (Option.some ClassFile.FieldType.int) rm_X9_become (sp_X9_become ) := by
  refine em_CT_of (T := T_X9_become ) (em_F_ok σ) (by decide) (fun p e s m args below meth c A ρ Q C hFok hF hret hlk hin => ?_) (me_X9_become )
  unfold T_X9_become
  refine List.forall_mem_cons.mpr ⟨s_aload_n C (by decide +kernel : decode c_X9_become 0 = .ok (.aload_n 0, 1)) rfl rfl rfl, ?_⟩
  refine List.forall_mem_cons.mpr ⟨s_getf C (by decide +kernel : decode c_X9_become 1 = .ok (.getfield 41, 3)) rfl rfl em_cl_X9 (by decide) ew157 rfl, ?_⟩
  refine List.forall_mem_cons.mpr ⟨s_iload_n C (by decide +kernel : decode c_X9_become 4 = .ok (.iload_n 1, 1)) rfl rfl rfl, ?_⟩
  refine List.forall_mem_cons.mpr ⟨s_callPV C hFok hF (ct_X7_has l D dA σ) ⟨rfl, rfl⟩ ew208 em_cl_X7 ew205 ew206 ew207 ew5 ⟨by decide, by decide, by decide +kernel⟩ ⟨by decide, by decide⟩ (by decide +kernel : decode c_X9_become 5 = .ok (.invokevirtual 56, 3)) rfl rfl ⟨Nat.zero_le _, Nat.zero_le _⟩ (by decide), ?_⟩
  refine List.forall_mem_cons.mpr ⟨s_ifeq C (by decide +kernel : decode c_X9_become 8 = .ok (.ifCond .eq 10, 3)) (by decide) rfl rfl rfl, ?_⟩
  refine List.forall_mem_cons.mpr ⟨s_iload_n C (by decide +kernel : decode c_X9_become 11 = .ok (.iload_n 2, 1)) rfl rfl rfl, ?_⟩
  refine List.forall_mem_cons.mpr ⟨s_callS C hFok hF (ct_X3_isKind l D dA σ) ⟨rfl, rfl⟩ ew184 ew221 ew183 ew7 ⟨by decide, by decide, by decide +kernel⟩ ⟨by decide, by decide⟩ (by decide +kernel : decode c_X9_become 12 = .ok (.invokestatic 69, 3)) rfl rfl ⟨Nat.zero_le _, Nat.zero_le _⟩, ?_⟩
  refine List.forall_mem_cons.mpr ⟨s_ifne C (by decide +kernel : decode c_X9_become 15 = .ok (.ifCond .ne 10, 3)) (by decide) rfl rfl rfl, ?_⟩
  refine List.forall_mem_cons.mpr ⟨s_aload_n C (by decide +kernel : decode c_X9_become 18 = .ok (.aload_n 0, 1)) rfl rfl rfl, ?_⟩
  refine List.forall_mem_cons.mpr ⟨s_bipush C (by decide +kernel : decode c_X9_become 19 = .ok (.bipush (-2), 2)) rfl rfl (by decide), ?_⟩
  refine List.forall_mem_cons.mpr ⟨s_callV C hFok hF (ct_X9_refuse l D dA σ) ⟨rfl, rfl⟩ ew200 em_cl_X9 ew197 ew199 ewp1 ew1 ⟨by decide, by decide, by decide +kernel⟩ ⟨by decide, by decide⟩ (by decide +kernel : decode c_X9_become 21 = .ok (.invokevirtual 63, 3)) rfl rfl ⟨Nat.zero_le _, Nat.zero_le _⟩, ?_⟩
  refine List.forall_mem_cons.mpr ⟨s_iret C (by decide +kernel : decode c_X9_become 24 = .ok (.ireturn, 1)) hret hlk ⟨Nat.le_refl 0, Nat.le_refl 0⟩, ?_⟩
  refine List.forall_mem_cons.mpr ⟨s_aload_n C (by decide +kernel : decode c_X9_become 25 = .ok (.aload_n 0, 1)) rfl rfl rfl, ?_⟩
  refine List.forall_mem_cons.mpr ⟨s_getf C (by decide +kernel : decode c_X9_become 26 = .ok (.getfield 41, 3)) rfl rfl em_cl_X9 (by decide) ew157 rfl, ?_⟩
  refine List.forall_mem_cons.mpr ⟨s_iload_n C (by decide +kernel : decode c_X9_become 29 = .ok (.iload_n 1, 1)) rfl rfl rfl, ?_⟩
  refine List.forall_mem_cons.mpr ⟨s_iload_n C (by decide +kernel : decode c_X9_become 30 = .ok (.iload_n 2, 1)) rfl rfl rfl, ?_⟩
  refine List.forall_mem_cons.mpr ⟨s_callPV C hFok hF (ct_X7_turn l D dA σ) ⟨rfl, rfl⟩ ew225 em_cl_X7 ew222 ew223 ew224 ew5 ⟨by decide, by decide, by decide +kernel⟩ ⟨by decide, by decide⟩ (by decide +kernel : decode c_X9_become 31 = .ok (.invokevirtual 74, 3)) rfl rfl ⟨Nat.zero_le _, Nat.zero_le _⟩ (by decide), ?_⟩
  refine List.forall_mem_cons.mpr ⟨s_iret C (by decide +kernel : decode c_X9_become 34 = .ok (.ireturn, 1)) hret hlk ⟨Nat.le_refl 0, Nat.le_refl 0⟩, ?_⟩
  exact fun _ h => absurd h List.not_mem_nil
def sp_X9_weighty : em_Sp := fun av hp Q => ∃ by9 tln tst ten mm fa9 fb9 rf im pe ki mi se we lea mst pa fi sd ev un ma ea co ca clt Y x w, av = [.ref 0, .int x] ∧ hp = (wX by9 tln tst ten mm fa9 fb9 rf im pe ki mi se we lea mst pa fi sd ev un ma ea co ca clt Y) ∧ we = nI w ∧ w < 2 ^ 31 ∧ (¬ iss x → Q (some (.int (-2))) (wX by9 tln tst ten mm fa9 fb9 (rfu rf (-2)) im pe ki mi se we lea mst pa fi sd ev un ma ea co ca clt Y)) ∧ (iss x → Q (some (.int we)) (wX by9 tln tst ten mm fa9 fb9 rf im pe ki mi se (x) lea mst pa fi sd ev un ma ea co ca clt Y))
def T_X9_weighty : List (Nat × em_Op) := [(0, o_aload 0 1), (1, o_aload 0 2), (2, o_getf 4 5 5), (5, o_iload 1 6), (6, o_callP 2 (some 2) [8, 9, 10, 11, 12, 13, 14, 15] (sp_X7_weigh) 9), (9, o_call 2 (some 4) (sp_X9_counted) 12), (12, o_iret)]
theorem me_X9_weighty : em_Me T_X9_weighty 2 sp_X9_weighty := by
  intro Q K hK hle av hp hs
  obtain ⟨by9, tln, tst, ten, mm, fa9, fb9, rf, im, pe, ki, mi, se, we, lea, mst, pa, fi, sd, ev, un, ma, ea, co, ca, clt, Y, x, w, rfl, rfl, rfl, hw, hb, hq⟩ := hs
  refine ⟨Nat.le_of_ble_eq_true rfl, hK 0 9999 0 _ _ _ ?_⟩
  refine ⟨_, _, _, _, _, _, _, _, _, _, _, _, _, _, _, _, _, x, rfl, rfl, fun z => ?_, fun z => ?_⟩
  · exact ⟨_, _, _, _, _, _, _, _, _, _, _, _, _, _, _, _, _, _, _, _, _, _, _, _, _, _, _, _, rfl, rfl, fun _ => hb z, fun y => absurd (Or.inl rfl) y⟩
  · exact ⟨_, _, _, _, _, _, _, _, _, _, _, _, _, _, _, _, _, _, _, _, _, _, _, _, _, _, _, _, rfl, rfl, fun y => absurd y (nbad hw), fun _ => hq z⟩
abbrev rm_X9_weighty : Room := { frames := 2, cells := 0, slots := 0, locals := 42 }
set_option maxRecDepth 100000 in
set_option maxHeartbeats 4000000 in
theorem ct_X9_weighty (l : Launch) (D : va_G) (dA : Nat → ClassId) (σ : Nat → Nat) : em_CT l D em_cl dA σ (em_F σ) y_X9_weighty c_X9_weighty 2 (Option.some ClassFile.FieldType.int) rm_X9_weighty (sp_X9_weighty ) := by
  refine em_CT_of (T := T_X9_weighty ) (em_F_ok σ) (by decide) (fun p e s m args below meth c A ρ Q C hFok hF hret hlk hin => ?_) (me_X9_weighty )
  unfold T_X9_weighty
  refine List.forall_mem_cons.mpr ⟨s_aload_n C (by decide +kernel : decode c_X9_weighty 0 = .ok (.aload_n 0, 1)) rfl rfl rfl, ?_⟩
  refine List.forall_mem_cons.mpr ⟨s_aload_n C (by decide +kernel : decode c_X9_weighty 1 = .ok (.aload_n 0, 1)) rfl rfl rfl, ?_⟩
  refine List.forall_mem_cons.mpr ⟨s_getf C (by decide +kernel : decode c_X9_weighty 2 = .ok (.getfield 41, 3)) rfl rfl em_cl_X9 (by decide) ew157 rfl, ?_⟩
  refine List.forall_mem_cons.mpr ⟨s_iload_n C (by decide +kernel : decode c_X9_weighty 5 = .ok (.iload_n 1, 1)) rfl rfl rfl, ?_⟩
  refine List.forall_mem_cons.mpr ⟨s_callPV C hFok hF (ct_X7_weigh l D dA σ) ⟨rfl, rfl⟩ ew234 em_cl_X7 ew231 ew232 ew233 ew5 ⟨by decide, by decide, by decide +kernel⟩ ⟨by decide, by decide⟩ (by decide +kernel : decode c_X9_weighty 6 = .ok (.invokevirtual 77, 3)) rfl rfl ⟨Nat.zero_le _, Nat.zero_le _⟩ (by decide), ?_⟩
  refine List.forall_mem_cons.mpr ⟨s_callV C hFok hF (ct_X9_counted l D dA σ) ⟨rfl, rfl⟩ ew196 em_cl_X9 ew193 ew195 ewp0 ew1 ⟨by decide, by decide, by decide +kernel⟩ ⟨by decide, by decide⟩ (by decide +kernel : decode c_X9_weighty 9 = .ok (.invokevirtual 52, 3)) rfl rfl ⟨Nat.zero_le _, Nat.zero_le _⟩, ?_⟩
  refine List.forall_mem_cons.mpr ⟨s_iret C (by decide +kernel : decode c_X9_weighty 12 = .ok (.ireturn, 1)) hret hlk ⟨Nat.le_refl 0, Nat.le_refl 0⟩, ?_⟩
  exact fun _ h => absurd h List.not_mem_nil
def sp_X9_licence : em_Sp := fun av hp Q => ∃ by9 tln tst ten mm fa9 fb9 rf im pe ki mi se we lea mst pa fi sd ev un ma ea co ca clt Y a b w, av = [.ref 0, .int a, .int b] ∧ hp = (wX by9 tln tst ten mm fa9 fb9 rf im pe ki mi se we lea mst pa fi sd ev un ma ea co ca clt Y) ∧ 100 * lea + mst = nI w ∧ w < 2 ^ 31 ∧ (¬ prm a b → Q (some (.int (-2))) (wX by9 tln tst ten mm fa9 fb9 (rfu rf (-2)) im pe ki mi se we lea mst pa fi sd ev un ma ea co ca clt Y)) ∧ (prm a b → Q (some (.int (nI w))) (wX by9 tln tst ten mm fa9 fb9 rf im pe ki mi se we (a) (b) pa fi sd ev un ma ea co ca clt Y))
def T_X9_licence : List (Nat × em_Op) := [(0, o_aload 0 1), (1, o_aload 0 2), (2, o_getf 4 5 5), (5, o_iload 1 6), (6, o_iload 2 7), (7, o_callP 3 (some 2) [8, 9, 10, 11, 12, 13, 14, 15] (sp_X7_permit) 10), (10, o_call 2 (some 4) (sp_X9_counted) 13), (13, o_iret)]
theorem me_X9_licence : em_Me T_X9_licence 3 sp_X9_licence := by
  intro Q K hK hle av hp hs
  obtain ⟨by9, tln, tst, ten, mm, fa9, fb9, rf, im, pe, ki, mi, se, we, lea, mst, pa, fi, sd, ev, un, ma, ea, co, ca, clt, Y, a, b, w, rfl, rfl, hw, hw2, hb, hq⟩ := hs
  refine ⟨Nat.le_of_ble_eq_true rfl, hK 0 9999 0 _ _ _ ?_⟩
  refine ⟨_, _, _, _, _, _, _, _, _, _, _, _, _, _, _, _, _, a, b, rfl, rfl, fun z => ?_, fun z => ?_⟩
  · exact ⟨_, _, _, _, _, _, _, _, _, _, _, _, _, _, _, _, _, _, _, _, _, _, _, _, _, _, _, _, rfl, rfl, fun _ => hb z, fun y => absurd (Or.inl rfl) y⟩
  · rw [hw]
    exact ⟨_, _, _, _, _, _, _, _, _, _, _, _, _, _, _, _, _, _, _, _, _, _, _, _, _, _, _, _, rfl, rfl, fun y => absurd y (nbad hw2), fun _ => hq z⟩
abbrev rm_X9_licence : Room := { frames := 2, cells := 0, slots := 0, locals := 42 }
set_option maxRecDepth 100000 in
set_option maxHeartbeats 4000000 in
theorem ct_X9_licence (l : Launch) (D : va_G) (dA : Nat → ClassId) (σ : Nat → Nat) : em_CT l D em_cl dA σ (em_F σ) y_X9_licence c_X9_licence 3 (Option.some ClassFile.FieldType.int) rm_X9_licence (sp_X9_licence ) := by
  refine em_CT_of (T := T_X9_licence ) (em_F_ok σ) (by decide) (fun p e s m args below meth c A ρ Q C hFok hF hret hlk hin => ?_) (me_X9_licence )
  unfold T_X9_licence
  refine List.forall_mem_cons.mpr ⟨s_aload_n C (by decide +kernel : decode c_X9_licence 0 = .ok (.aload_n 0, 1)) rfl rfl rfl, ?_⟩
  refine List.forall_mem_cons.mpr ⟨s_aload_n C (by decide +kernel : decode c_X9_licence 1 = .ok (.aload_n 0, 1)) rfl rfl rfl, ?_⟩
  refine List.forall_mem_cons.mpr ⟨s_getf C (by decide +kernel : decode c_X9_licence 2 = .ok (.getfield 41, 3)) rfl rfl em_cl_X9 (by decide) ew157 rfl, ?_⟩
  refine List.forall_mem_cons.mpr ⟨s_iload_n C (by decide +kernel : decode c_X9_licence 5 = .ok (.iload_n 1, 1)) rfl rfl rfl, ?_⟩
  refine List.forall_mem_cons.mpr ⟨s_iload_n C (by decide +kernel : decode c_X9_licence 6 = .ok (.iload_n 2, 1)) rfl rfl rfl, ?_⟩
  refine List.forall_mem_cons.mpr ⟨s_callPV C hFok hF (ct_X7_permit l D dA σ) ⟨rfl, rfl⟩ ew242 em_cl_X7 ew239 ew240 ew241 ew5 ⟨by decide, by decide, by decide +kernel⟩ ⟨by decide, by decide⟩ (by decide +kernel : decode c_X9_licence 7 = .ok (.invokevirtual 80, 3)) rfl rfl ⟨Nat.zero_le _, Nat.zero_le _⟩ (by decide), ?_⟩
  refine List.forall_mem_cons.mpr ⟨s_callV C hFok hF (ct_X9_counted l D dA σ) ⟨rfl, rfl⟩ ew196 em_cl_X9 ew193 ew195 ewp0 ew1 ⟨by decide, by decide, by decide +kernel⟩ ⟨by decide, by decide⟩ (by decide +kernel : decode c_X9_licence 10 = .ok (.invokevirtual 52, 3)) rfl rfl ⟨Nat.zero_le _, Nat.zero_le _⟩, ?_⟩
  refine List.forall_mem_cons.mpr ⟨s_iret C (by decide +kernel : decode c_X9_licence 13 = .ok (.ireturn, 1)) hret hlk ⟨Nat.le_refl 0, Nat.le_refl 0⟩, ?_⟩
  exact fun _ h => absurd h List.not_mem_nil
def sp_X9_talk : em_Sp := fun av hp Q => ∃ by9 tln tst ten mm fa9 fb9 rf im pe ki mi se we lea mst pa fi sd ev un ma ea co ca clt Y a b np, av = [.ref 0, .int a, .int b] ∧ hp = (wX by9 tln tst ten mm fa9 fb9 rf im pe ki mi se we lea mst pa fi sd ev un ma ea co ca clt Y) ∧ pa = nI np ∧ np ≤ 8 ∧ (¬ h2 pe a b → Q (some (.int (-2))) (wX by9 tln tst ten mm fa9 fb9 (rfu rf (-2)) im pe ki mi se we lea mst pa fi sd ev un ma ea co ca clt Y)) ∧ (h2 pe a b → np = 8 → Q (some (.int (-4))) (wX by9 tln tst ten mm fa9 fb9 (rfu rf (-4)) im pe ki mi se we lea mst pa fi sd ev un ma ea co ca clt Y)) ∧ (h2 pe a b → np < 8 → Q (some (.int (nI np))) (wX by9 tln tst ten mm fa9 fb9 rf im pe ki mi se we lea mst (nI (np + 1)) (upd fi np a) (upd sd np b) ev un ma ea co ca clt Y))
def T_X9_talk : List (Nat × em_Op) := [(0, o_aload 0 1), (1, o_aload 0 2), (2, o_getf 4 5 5), (5, o_iload 1 6), (6, o_iload 2 7), (7, o_callP 3 (some 2) [8, 9, 10, 11, 12, 13, 14, 15] (sp_X7_arrange) 10), (10, o_call 2 (some 4) (sp_X9_counted) 13), (13, o_iret)]
theorem me_X9_talk : em_Me T_X9_talk 3 sp_X9_talk := by
  intro Q K hK hle av hp hs
  obtain ⟨by9, tln, tst, ten, mm, fa9, fb9, rf, im, pe, ki, mi, se, we, lea, mst, pa, fi, sd, ev, un, ma, ea, co, ca, clt, Y, a, b, np, rfl, rfl, rfl, hn, hb, hf, hq⟩ := hs
  refine ⟨Nat.le_of_ble_eq_true rfl, hK 0 9999 0 _ _ _ ?_⟩
  refine ⟨_, _, _, _, _, _, _, _, _, _, _, _, _, _, _, _, _, a, b, np, rfl, rfl, rfl, hn, fun z => ?_, fun z1 z3 => ?_, fun z1 z3 => ?_⟩
  · exact ⟨_, _, _, _, _, _, _, _, _, _, _, _, _, _, _, _, _, _, _, _, _, _, _, _, _, _, _, _, rfl, rfl, fun _ => hb z, fun y => absurd (Or.inl rfl) y⟩
  · exact ⟨_, _, _, _, _, _, _, _, _, _, _, _, _, _, _, _, _, _, _, _, _, _, _, _, _, _, _, _, rfl, rfl, fun _ => hf z1 z3, fun y => absurd (Or.inr (Or.inr rfl)) y⟩
  · exact ⟨_, _, _, _, _, _, _, _, _, _, _, _, _, _, _, _, _, _, _, _, _, _, _, _, _, _, _, _, rfl, rfl, fun y => absurd y (nbad (by omega)), fun _ => hq z1 z3⟩
abbrev rm_X9_talk : Room := { frames := 3, cells := 0, slots := 0, locals := 66 }
set_option maxRecDepth 100000 in
set_option maxHeartbeats 4000000 in
theorem ct_X9_talk (l : Launch) (D : va_G) (dA : Nat → ClassId) (σ : Nat → Nat) : em_CT l D em_cl dA σ (em_F σ) y_X9_talk c_X9_talk 3 (Option.some ClassFile.FieldType.int) rm_X9_talk (sp_X9_talk ) := by
  refine em_CT_of (T := T_X9_talk ) (em_F_ok σ) (by decide) (fun p e s m args below meth c A ρ Q C hFok hF hret hlk hin => ?_) (me_X9_talk )
  unfold T_X9_talk
  refine List.forall_mem_cons.mpr ⟨s_aload_n C (by decide +kernel : decode c_X9_talk 0 = .ok (.aload_n 0, 1)) rfl rfl rfl, ?_⟩
  refine List.forall_mem_cons.mpr ⟨s_aload_n C (by decide +kernel : decode c_X9_talk 1 = .ok (.aload_n 0, 1)) rfl rfl rfl, ?_⟩
  refine List.forall_mem_cons.mpr ⟨s_getf C (by decide +kernel : decode c_X9_talk 2 = .ok (.getfield 41, 3)) rfl rfl em_cl_X9 (by decide) ew157 rfl, ?_⟩
  refine List.forall_mem_cons.mpr ⟨s_iload_n C (by decide +kernel : decode c_X9_talk 5 = .ok (.iload_n 1, 1)) rfl rfl rfl, ?_⟩
  refine List.forall_mem_cons.mpr ⟨s_iload_n C (by decide +kernel : decode c_X9_talk 6 = .ok (.iload_n 2, 1)) rfl rfl rfl, ?_⟩
  refine List.forall_mem_cons.mpr ⟨s_callPV C hFok hF (ct_X7_arrange l D dA σ) ⟨rfl, rfl⟩ ew250 em_cl_X7 ew247 ew248 ew249 ew5 ⟨by decide, by decide, by decide +kernel⟩ ⟨by decide, by decide⟩ (by decide +kernel : decode c_X9_talk 7 = .ok (.invokevirtual 83, 3)) rfl rfl ⟨Nat.zero_le _, Nat.zero_le _⟩ (by decide), ?_⟩
  refine List.forall_mem_cons.mpr ⟨s_callV C hFok hF (ct_X9_counted l D dA σ) ⟨rfl, rfl⟩ ew196 em_cl_X9 ew193 ew195 ewp0 ew1 ⟨by decide, by decide, by decide +kernel⟩ ⟨by decide, by decide⟩ (by decide +kernel : decode c_X9_talk 10 = .ok (.invokevirtual 52, 3)) rfl rfl ⟨Nat.zero_le _, Nat.zero_le _⟩, ?_⟩
  refine List.forall_mem_cons.mpr ⟨s_iret C (by decide +kernel : decode c_X9_talk 13 = .ok (.ireturn, 1)) hret hlk ⟨Nat.le_refl 0, Nat.le_refl 0⟩, ?_⟩
  exact fun _ h => absurd h List.not_mem_nil
def sp_X9_clean : em_Sp := fun av hp Q => ∃ by9 tln tst ten mm fa9 fb9 rf im pe ki mi se we lea mst pa fi sd ev un ma ea co ca clt Y, av = [.ref 0] ∧ hp = (wX by9 tln tst ten mm fa9 fb9 rf im pe ki mi se we lea mst pa fi sd ev un ma ea co ca clt Y) ∧ Q (some (.int pa)) (wX by9 tln tst ten mm fa9 fb9 rf im pe ki mi se we lea mst (0) fi sd ev un ma ea co ca clt Y)
def T_X9_clean : List (Nat × em_Op) := [(0, o_aload 0 1), (1, o_getf 4 5 4), (4, o_getf 2 7 7), (7, o_istore 1 8), (8, o_aload 0 9), (9, o_getf 4 5 12), (12, o_iconst 0 13), (13, o_putI 2 7 16), (16, o_iload 1 17), (17, o_iret)]
theorem me_X9_clean : em_Me T_X9_clean 2 sp_X9_clean := by
  intro Q K hK hle av hp hs
  obtain ⟨by9, tln, tst, ten, mm, fa9, fb9, rf, im, pe, ki, mi, se, we, lea, mst, pa, fi, sd, ev, un, ma, ea, co, ca, clt, Y, rfl, rfl, hq⟩ := hs
  exact ⟨Nat.le_of_ble_eq_true rfl, hK 0 9999 0 _ _ _ hq⟩
abbrev rm_X9_clean : Room := { frames := 0, cells := 0, slots := 0, locals := 0 }
set_option maxRecDepth 100000 in
set_option maxHeartbeats 4000000 in
theorem ct_X9_clean (l : Launch) (D : va_G) (dA : Nat → ClassId) (σ : Nat → Nat) : em_CT l D em_cl dA σ (em_F σ) y_X9_clean c_X9_clean 2 (Option.some ClassFile.FieldType.int) rm_X9_clean (sp_X9_clean ) := by
  refine em_CT_of (T := T_X9_clean ) (em_F_ok σ) (by decide) (fun p e s m args below meth c A ρ Q C hFok hF hret hlk hin => ?_) (me_X9_clean )
  unfold T_X9_clean
  refine List.forall_mem_cons.mpr ⟨s_aload_n C (by decide +kernel : decode c_X9_clean 0 = .ok (.aload_n 0, 1)) rfl rfl rfl, ?_⟩
  refine List.forall_mem_cons.mpr ⟨s_getf C (by decide +kernel : decode c_X9_clean 1 = .ok (.getfield 41, 3)) rfl rfl em_cl_X9 (by decide) ew157 rfl, ?_⟩
  refine List.forall_mem_cons.mpr ⟨s_getf C (by decide +kernel : decode c_X9_clean 4 = .ok (.getfield 86, 3)) rfl rfl em_cl_X7 (by decide) ew101 rfl, ?_⟩
  refine List.forall_mem_cons.mpr ⟨s_istore_n C (by decide +kernel : decode c_X9_clean 7 = .ok (.istore_n 1, 1)) rfl rfl rfl (by decide), ?_⟩
  refine List.forall_mem_cons.mpr ⟨s_aload_n C (by decide +kernel : decode c_X9_clean 8 = .ok (.aload_n 0, 1)) rfl rfl rfl, ?_⟩
  refine List.forall_mem_cons.mpr ⟨s_getf C (by decide +kernel : decode c_X9_clean 9 = .ok (.getfield 41, 3)) rfl rfl em_cl_X9 (by decide) ew157 rfl, ?_⟩
  refine List.forall_mem_cons.mpr ⟨s_iconst C (by decide +kernel : decode c_X9_clean 12 = .ok (.iconst 0, 1)) rfl rfl (by decide), ?_⟩
  refine List.forall_mem_cons.mpr ⟨s_putI C (by decide +kernel : decode c_X9_clean 13 = .ok (.putfield 86, 3)) rfl rfl em_cl_X7 (by decide) ew101 rfl (by decide) (by decide +kernel), ?_⟩
  refine List.forall_mem_cons.mpr ⟨s_iload_n C (by decide +kernel : decode c_X9_clean 16 = .ok (.iload_n 1, 1)) rfl rfl rfl, ?_⟩
  refine List.forall_mem_cons.mpr ⟨s_iret C (by decide +kernel : decode c_X9_clean 17 = .ok (.ireturn, 1)) hret hlk ⟨Nat.le_refl 0, Nat.le_refl 0⟩, ?_⟩
  exact fun _ h => absurd h List.not_mem_nil
def sp_X9_clear : em_Sp := fun av hp Q => ∃ by9 tln tst ten mm fa9 fb9 rf im pe ki mi se we lea mst pa fi sd ev un ma ea co ca clt Y, av = [.ref 0] ∧ hp = (wX by9 tln tst ten mm fa9 fb9 rf im pe ki mi se we lea mst pa fi sd ev un ma ea co ca clt Y) ∧ Q (some (.int tln)) (wX by9 (0) tst ten mm fa9 fb9 rf im pe ki mi se we lea mst pa fi sd ev un ma ea co ca clt Y)
def T_X9_clear : List (Nat × em_Op) := [(0, o_aload 0 1), (1, o_getf 4 0 4), (4, o_getf 3 1 7), (7, o_istore 1 8), (8, o_aload 0 9), (9, o_getf 4 0 12), (12, o_iconst 0 13), (13, o_putI 3 1 16), (16, o_iload 1 17), (17, o_iret)]
theorem me_X9_clear : em_Me T_X9_clear 2 sp_X9_clear := by
  intro Q K hK hle av hp hs
  obtain ⟨by9, tln, tst, ten, mm, fa9, fb9, rf, im, pe, ki, mi, se, we, lea, mst, pa, fi, sd, ev, un, ma, ea, co, ca, clt, Y, rfl, rfl, hq⟩ := hs
  exact ⟨Nat.le_of_ble_eq_true rfl, hK 0 9999 0 _ _ _ hq⟩
abbrev rm_X9_clear : Room := { frames := 0, cells := 0, slots := 0, locals := 0 }
set_option maxRecDepth 100000 in
set_option maxHeartbeats 4000000 in
theorem ct_X9_clear (l : Launch) (D : va_G) (dA : Nat → ClassId) (σ : Nat → Nat) : em_CT l D em_cl dA σ (em_F σ) y_X9_clear c_X9_clear 2 (Option.some ClassFile.FieldType.int) rm_X9_clear (sp_X9_clear ) := by
  refine em_CT_of (T := T_X9_clear ) (em_F_ok σ) (by decide) (fun p e s m args below meth c A ρ Q C hFok hF hret hlk hin => ?_) (me_X9_clear )
  unfold T_X9_clear
  refine List.forall_mem_cons.mpr ⟨s_aload_n C (by decide +kernel : decode c_X9_clear 0 = .ok (.aload_n 0, 1)) rfl rfl rfl, ?_⟩
  refine List.forall_mem_cons.mpr ⟨s_getf C (by decide +kernel : decode c_X9_clear 1 = .ok (.getfield 10, 3)) rfl rfl em_cl_X9 (by decide) ew152 rfl, ?_⟩
  refine List.forall_mem_cons.mpr ⟨s_getf C (by decide +kernel : decode c_X9_clear 4 = .ok (.getfield 93, 3)) rfl rfl em_cl_X8 (by decide) ew35 rfl, ?_⟩
  refine List.forall_mem_cons.mpr ⟨s_istore_n C (by decide +kernel : decode c_X9_clear 7 = .ok (.istore_n 1, 1)) rfl rfl rfl (by decide), ?_⟩
  refine List.forall_mem_cons.mpr ⟨s_aload_n C (by decide +kernel : decode c_X9_clear 8 = .ok (.aload_n 0, 1)) rfl rfl rfl, ?_⟩
  refine List.forall_mem_cons.mpr ⟨s_getf C (by decide +kernel : decode c_X9_clear 9 = .ok (.getfield 10, 3)) rfl rfl em_cl_X9 (by decide) ew152 rfl, ?_⟩
  refine List.forall_mem_cons.mpr ⟨s_iconst C (by decide +kernel : decode c_X9_clear 12 = .ok (.iconst 0, 1)) rfl rfl (by decide), ?_⟩
  refine List.forall_mem_cons.mpr ⟨s_putI C (by decide +kernel : decode c_X9_clear 13 = .ok (.putfield 93, 3)) rfl rfl em_cl_X8 (by decide) ew35 rfl (by decide) (by decide +kernel), ?_⟩
  refine List.forall_mem_cons.mpr ⟨s_iload_n C (by decide +kernel : decode c_X9_clear 16 = .ok (.iload_n 1, 1)) rfl rfl rfl, ?_⟩
  refine List.forall_mem_cons.mpr ⟨s_iret C (by decide +kernel : decode c_X9_clear 17 = .ok (.ireturn, 1)) hret hlk ⟨Nat.le_refl 0, Nat.le_refl 0⟩, ?_⟩
  exact fun _ h => absurd h List.not_mem_nil
def sp_X9_burn : em_Sp := fun av hp Q => ∃ by9 tln tst ten mm fa9 fb9 rf im pe ki mi se we lea mst pa fi sd ev un ma ea co ca clt Y, av = [.ref 0] ∧ hp = (wX by9 tln tst ten mm fa9 fb9 rf im pe ki mi se we lea mst pa fi sd ev un ma ea co ca clt Y) ∧ Q (some (.int co)) (wX by9 tln tst ten mm fa9 fb9 rf im pe ki mi se we lea mst pa fi sd ev un ma ea (0) ca clt Y)
def T_X9_burn : List (Nat × em_Op) := [(0, o_aload 0 1), (1, o_getf 4 5 4), (4, o_getf 2 14 7), (7, o_istore 1 8), (8, o_aload 0 9), (9, o_getf 4 5 12), (12, o_iconst 0 13), (13, o_putI 2 14 16), (16, o_iload 1 17), (17, o_iret)]
theorem me_X9_burn : em_Me T_X9_burn 2 sp_X9_burn := by
  intro Q K hK hle av hp hs
  obtain ⟨by9, tln, tst, ten, mm, fa9, fb9, rf, im, pe, ki, mi, se, we, lea, mst, pa, fi, sd, ev, un, ma, ea, co, ca, clt, Y, rfl, rfl, hq⟩ := hs
  exact ⟨Nat.le_of_ble_eq_true rfl, hK 0 9999 0 _ _ _ hq⟩
abbrev rm_X9_burn : Room := { frames := 0, cells := 0, slots := 0, locals := 0 }
set_option maxRecDepth 100000 in
set_option maxHeartbeats 4000000 in
theorem ct_X9_burn (l : Launch) (D : va_G) (dA : Nat → ClassId) (σ : Nat → Nat) : em_CT l D em_cl dA σ (em_F σ) y_X9_burn c_X9_burn 2 (Option.some ClassFile.FieldType.int) rm_X9_burn (sp_X9_burn ) := by
  refine em_CT_of (T := T_X9_burn ) (em_F_ok σ) (by decide) (fun p e s m args below meth c A ρ Q C hFok hF hret hlk hin => ?_) (me_X9_burn )
  unfold T_X9_burn
  refine List.forall_mem_cons.mpr ⟨s_aload_n C (by decide +kernel : decode c_X9_burn 0 = .ok (.aload_n 0, 1)) rfl rfl rfl, ?_⟩
  refine List.forall_mem_cons.mpr ⟨s_getf C (by decide +kernel : decode c_X9_burn 1 = .ok (.getfield 41, 3)) rfl rfl em_cl_X9 (by decide) ew157 rfl, ?_⟩
  refine List.forall_mem_cons.mpr ⟨s_getf C (by decide +kernel : decode c_X9_burn 4 = .ok (.getfield 228, 3)) rfl rfl em_cl_X7 (by decide) ew112 rfl, ?_⟩
  refine List.forall_mem_cons.mpr ⟨s_istore_n C (by decide +kernel : decode c_X9_burn 7 = .ok (.istore_n 1, 1)) rfl rfl rfl (by decide), ?_⟩
  refine List.forall_mem_cons.mpr ⟨s_aload_n C (by decide +kernel : decode c_X9_burn 8 = .ok (.aload_n 0, 1)) rfl rfl rfl, ?_⟩
  refine List.forall_mem_cons.mpr ⟨s_getf C (by decide +kernel : decode c_X9_burn 9 = .ok (.getfield 41, 3)) rfl rfl em_cl_X9 (by decide) ew157 rfl, ?_⟩
  refine List.forall_mem_cons.mpr ⟨s_iconst C (by decide +kernel : decode c_X9_burn 12 = .ok (.iconst 0, 1)) rfl rfl (by decide), ?_⟩
  refine List.forall_mem_cons.mpr ⟨s_putI C (by decide +kernel : decode c_X9_burn 13 = .ok (.putfield 228, 3)) rfl rfl em_cl_X7 (by decide) ew112 rfl (by decide) (by decide +kernel), ?_⟩
  refine List.forall_mem_cons.mpr ⟨s_iload_n C (by decide +kernel : decode c_X9_burn 16 = .ok (.iload_n 1, 1)) rfl rfl rfl, ?_⟩
  refine List.forall_mem_cons.mpr ⟨s_iret C (by decide +kernel : decode c_X9_burn 17 = .ok (.ireturn, 1)) hret hlk ⟨Nat.le_refl 0, Nat.le_refl 0⟩, ?_⟩
  exact fun _ h => absurd h List.not_mem_nil
def sp_X9_opinions : em_Sp := fun av hp Q => ∃ by9 tln tst ten mm fa9 fb9 rf im pe ki mi se we lea mst pa fi sd ev un ma ea co ca clt Y p, av = [.ref 0, .int p] ∧ hp = (wX by9 tln tst ten mm fa9 fb9 rf im pe ki mi se we lea mst pa fi sd ev un ma ea co ca clt Y) ∧ (¬ hs pe p → Q (some (.int (-2))) (wX by9 tln tst ten mm fa9 fb9 (rfu rf (-2)) im pe ki mi se we lea mst pa fi sd ev un ma ea co ca clt Y)) ∧ (hs pe p → Q (some (.int (mo mi p))) hp)
def T_X9_opinions : List (Nat × em_Op) := [(0, o_aload 0 1), (1, o_getf 4 5 4), (4, o_iload 1 5), (5, o_callP 2 (some 2) [8, 9, 10, 11, 12, 13, 14, 15] (sp_X7_has) 8), (8, o_ifne 18 11), (11, o_aload 0 12), (12, o_iconst (-2) 14), (14, o_call 2 (some 4) (sp_X9_refuse) 17), (17, o_iret), (18, o_aload 0 19), (19, o_getf 4 5 22), (22, o_getf 2 2 25), (25, o_iload 1 26), (26, o_call 2 none (sp_X5_of) 29), (29, o_iret)]
theorem me_X9_opinions : em_Me T_X9_opinions 2 sp_X9_opinions := by
  intro Q K hK hle av hp hs
  obtain ⟨by9, tln, tst, ten, mm, fa9, fb9, rf, im, pe, ki, mi, se, we, lea, mst, pa, fi, sd, ev, un, ma, ea, co, ca, clt, Y, p, rfl, rfl, hb, hq⟩ := hs
  refine ⟨Nat.le_of_ble_eq_true rfl, hK 0 9999 0 _ _ _ ?_⟩
  refine ⟨_, _, _, _, _, _, _, _, _, _, _, _, _, _, _, _, _, p, rfl, rfl, fun z => ?_, fun z => ?_⟩
  · refine ⟨fun _ => ?_, fun y => absurd y (by decide)⟩
    exact ⟨_, _, rfl, hq z⟩
  · refine ⟨fun y => absurd rfl y, fun _ => ?_⟩
    exact ⟨_, _, _, _, _, _, _, _, _, _, _, _, _, _, _, _, _, _, _, _, _, _, _, _, _, _, _, _, rfl, rfl, hb z⟩
abbrev rm_X9_opinions : Room := { frames := 1, cells := 0, slots := 0, locals := 22 }
set_option maxRecDepth 100000 in
set_option maxHeartbeats 4000000 in
theorem ct_X9_opinions (l : Launch) (D : va_G) (dA : Nat → ClassId) (σ : Nat → Nat) : em_CT l D em_cl dA σ (em_F σ) y_X9_opinions c_X9_opinions 2 (Option.some ClassFile.FieldType.int) rm_X9_opinions (sp_X9_opinions ) := by
  refine em_CT_of (T := T_X9_opinions ) (em_F_ok σ) (by decide) (fun p e s m args below meth c A ρ Q C hFok hF hret hlk hin => ?_) (me_X9_opinions )
  unfold T_X9_opinions
  refine List.forall_mem_cons.mpr ⟨s_aload_n C (by decide +kernel : decode c_X9_opinions 0 = .ok (.aload_n 0, 1)) rfl rfl rfl, ?_⟩
  refine List.forall_mem_cons.mpr ⟨s_getf C (by decide +kernel : decode c_X9_opinions 1 = .ok (.getfield 41, 3)) rfl rfl em_cl_X9 (by decide) ew157 rfl, ?_⟩
  refine List.forall_mem_cons.mpr ⟨s_iload_n C (by decide +kernel : decode c_X9_opinions 4 = .ok (.iload_n 1, 1)) rfl rfl rfl, ?_⟩
  refine List.forall_mem_cons.mpr ⟨s_callPV C hFok hF (ct_X7_has l D dA σ) ⟨rfl, rfl⟩ ew208 em_cl_X7 ew205 ew206 ew207 ew5 ⟨by decide, by decide, by decide +kernel⟩ ⟨by decide, by decide⟩ (by decide +kernel : decode c_X9_opinions 5 = .ok (.invokevirtual 56, 3)) rfl rfl ⟨Nat.zero_le _, Nat.zero_le _⟩ (by decide), ?_⟩
  refine List.forall_mem_cons.mpr ⟨s_ifne C (by decide +kernel : decode c_X9_opinions 8 = .ok (.ifCond .ne 10, 3)) (by decide) rfl rfl rfl, ?_⟩
  refine List.forall_mem_cons.mpr ⟨s_aload_n C (by decide +kernel : decode c_X9_opinions 11 = .ok (.aload_n 0, 1)) rfl rfl rfl, ?_⟩
  refine List.forall_mem_cons.mpr ⟨s_bipush C (by decide +kernel : decode c_X9_opinions 12 = .ok (.bipush (-2), 2)) rfl rfl (by decide), ?_⟩
  refine List.forall_mem_cons.mpr ⟨s_callV C hFok hF (ct_X9_refuse l D dA σ) ⟨rfl, rfl⟩ ew200 em_cl_X9 ew197 ew199 ewp1 ew1 ⟨by decide, by decide, by decide +kernel⟩ ⟨by decide, by decide⟩ (by decide +kernel : decode c_X9_opinions 14 = .ok (.invokevirtual 63, 3)) rfl rfl ⟨Nat.zero_le _, Nat.zero_le _⟩, ?_⟩
  refine List.forall_mem_cons.mpr ⟨s_iret C (by decide +kernel : decode c_X9_opinions 17 = .ok (.ireturn, 1)) hret hlk ⟨Nat.le_refl 0, Nat.le_refl 0⟩, ?_⟩
  refine List.forall_mem_cons.mpr ⟨s_aload_n C (by decide +kernel : decode c_X9_opinions 18 = .ok (.aload_n 0, 1)) rfl rfl rfl, ?_⟩
  refine List.forall_mem_cons.mpr ⟨s_getf C (by decide +kernel : decode c_X9_opinions 19 = .ok (.getfield 41, 3)) rfl rfl em_cl_X9 (by decide) ew157 rfl, ?_⟩
  refine List.forall_mem_cons.mpr ⟨s_getf C (by decide +kernel : decode c_X9_opinions 22 = .ok (.getfield 103, 3)) rfl rfl em_cl_X7 (by decide) ew94 rfl, ?_⟩
  refine List.forall_mem_cons.mpr ⟨s_iload_n C (by decide +kernel : decode c_X9_opinions 25 = .ok (.iload_n 1, 1)) rfl rfl rfl, ?_⟩
  refine List.forall_mem_cons.mpr ⟨s_callS C hFok hF (ct_X5_of l D dA σ) ⟨rfl, rfl⟩ ew216 ew377 ew215 ew8 ⟨by decide, by decide, by decide +kernel⟩ ⟨by decide, by decide⟩ (by decide +kernel : decode c_X9_opinions 26 = .ok (.invokestatic 107, 3)) rfl rfl ⟨Nat.zero_le _, Nat.zero_le _⟩, ?_⟩
  refine List.forall_mem_cons.mpr ⟨s_iret C (by decide +kernel : decode c_X9_opinions 29 = .ok (.ireturn, 1)) hret hlk ⟨Nat.le_refl 0, Nat.le_refl 0⟩, ?_⟩
  exact fun _ h => absurd h List.not_mem_nil
def sp_X9_differ : em_Sp := fun av hp Q => ∃ by9 tln tst ten mm fa9 fb9 rf im pe ki mi se we lea mst pa fi sd ev un ma ea co ca clt Y a b, av = [.ref 0, .int a, .int b] ∧ hp = (wX by9 tln tst ten mm fa9 fb9 rf im pe ki mi se we lea mst pa fi sd ev un ma ea co ca clt Y) ∧ (¬ h2 pe a b → Q (some (.int (-2))) (wX by9 tln tst ten mm fa9 fb9 (rfu rf (-2)) im pe ki mi se we lea mst pa fi sd ev un ma ea co ca clt Y)) ∧ (h2 pe a b → Q (some (.int (dif mi a b))) hp)
def T_X9_differ : List (Nat × em_Op) := [(0, o_aload 0 1), (1, o_getf 4 5 4), (4, o_iload 1 5), (5, o_iload 2 6), (6, o_callP 3 (some 2) [8, 9, 10, 11, 12, 13, 14, 15] (sp_X7_hasTwo) 9), (9, o_ifne 19 12), (12, o_aload 0 13), (13, o_iconst (-2) 15), (15, o_call 2 (some 4) (sp_X9_refuse) 18), (18, o_iret), (19, o_aload 0 20), (20, o_getf 4 5 23), (23, o_getf 2 2 26), (26, o_iload 1 27), (27, o_call 2 none (sp_X5_of) 30), (30, o_aload 0 31), (31, o_getf 4 5 34), (34, o_getf 2 2 37), (37, o_iload 2 38), (38, o_call 2 none (sp_X5_of) 41), (41, o_ixor 42), (42, o_iret)]
theorem me_X9_differ : em_Me T_X9_differ 3 sp_X9_differ := by
  intro Q K hK hle av hp hs
  obtain ⟨by9, tln, tst, ten, mm, fa9, fb9, rf, im, pe, ki, mi, se, we, lea, mst, pa, fi, sd, ev, un, ma, ea, co, ca, clt, Y, a, b, rfl, rfl, hb, hq⟩ := hs
  refine ⟨Nat.le_of_ble_eq_true rfl, hK 0 9999 0 _ _ _ ?_⟩
  refine ⟨_, _, _, _, _, _, _, _, _, _, _, _, _, _, _, _, _, a, b, rfl, rfl, fun z => ?_, fun z => ?_⟩
  · refine ⟨fun _ => ?_, fun y => absurd y (by decide)⟩
    exact ⟨_, _, rfl, _, _, rfl, hq z⟩
  · refine ⟨fun y => absurd rfl y, fun _ => ?_⟩
    exact ⟨_, _, _, _, _, _, _, _, _, _, _, _, _, _, _, _, _, _, _, _, _, _, _, _, _, _, _, _, rfl, rfl, hb z⟩
abbrev rm_X9_differ : Room := { frames := 2, cells := 0, slots := 0, locals := 43 }
set_option maxRecDepth 100000 in
set_option maxHeartbeats 4000000 in
theorem ct_X9_differ (l : Launch) (D : va_G) (dA : Nat → ClassId) (σ : Nat → Nat) : em_CT l D em_cl dA σ (em_F σ) y_X9_differ c_X9_differ 3 (Option.some ClassFile.FieldType.int) rm_X9_differ (sp_X9_differ ) := by
  refine em_CT_of (T := T_X9_differ ) (em_F_ok σ) (by decide) (fun p e s m args below meth c A ρ Q C hFok hF hret hlk hin => ?_) (me_X9_differ )
  unfold T_X9_differ
  refine List.forall_mem_cons.mpr ⟨s_aload_n C (by decide +kernel : decode c_X9_differ 0 = .ok (.aload_n 0, 1)) rfl rfl rfl, ?_⟩
  refine List.forall_mem_cons.mpr ⟨s_getf C (by decide +kernel : decode c_X9_differ 1 = .ok (.getfield 41, 3)) rfl rfl em_cl_X9 (by decide) ew157 rfl, ?_⟩
  refine List.forall_mem_cons.mpr ⟨s_iload_n C (by decide +kernel : decode c_X9_differ 4 = .ok (.iload_n 1, 1)) rfl rfl rfl, ?_⟩
  refine List.forall_mem_cons.mpr ⟨s_iload_n C (by decide +kernel : decode c_X9_differ 5 = .ok (.iload_n 2, 1)) rfl rfl rfl, ?_⟩
  refine List.forall_mem_cons.mpr ⟨s_callPV C hFok hF (ct_X7_hasTwo l D dA σ) ⟨rfl, rfl⟩ ew254 em_cl_X7 ew382 ew252 ew253 ew5 ⟨by decide, by decide, by decide +kernel⟩ ⟨by decide, by decide⟩ (by decide +kernel : decode c_X9_differ 6 = .ok (.invokevirtual 113, 3)) rfl rfl ⟨Nat.zero_le _, Nat.zero_le _⟩ (by decide), ?_⟩
  refine List.forall_mem_cons.mpr ⟨s_ifne C (by decide +kernel : decode c_X9_differ 9 = .ok (.ifCond .ne 10, 3)) (by decide) rfl rfl rfl, ?_⟩
  refine List.forall_mem_cons.mpr ⟨s_aload_n C (by decide +kernel : decode c_X9_differ 12 = .ok (.aload_n 0, 1)) rfl rfl rfl, ?_⟩
  refine List.forall_mem_cons.mpr ⟨s_bipush C (by decide +kernel : decode c_X9_differ 13 = .ok (.bipush (-2), 2)) rfl rfl (by decide), ?_⟩
  refine List.forall_mem_cons.mpr ⟨s_callV C hFok hF (ct_X9_refuse l D dA σ) ⟨rfl, rfl⟩ ew200 em_cl_X9 ew197 ew199 ewp1 ew1 ⟨by decide, by decide, by decide +kernel⟩ ⟨by decide, by decide⟩ (by decide +kernel : decode c_X9_differ 15 = .ok (.invokevirtual 63, 3)) rfl rfl ⟨Nat.zero_le _, Nat.zero_le _⟩, ?_⟩
  refine List.forall_mem_cons.mpr ⟨s_iret C (by decide +kernel : decode c_X9_differ 18 = .ok (.ireturn, 1)) hret hlk ⟨Nat.le_refl 0, Nat.le_refl 0⟩, ?_⟩
  refine List.forall_mem_cons.mpr ⟨s_aload_n C (by decide +kernel : decode c_X9_differ 19 = .ok (.aload_n 0, 1)) rfl rfl rfl, ?_⟩
  refine List.forall_mem_cons.mpr ⟨s_getf C (by decide +kernel : decode c_X9_differ 20 = .ok (.getfield 41, 3)) rfl rfl em_cl_X9 (by decide) ew157 rfl, ?_⟩
  refine List.forall_mem_cons.mpr ⟨s_getf C (by decide +kernel : decode c_X9_differ 23 = .ok (.getfield 103, 3)) rfl rfl em_cl_X7 (by decide) ew94 rfl, ?_⟩
  refine List.forall_mem_cons.mpr ⟨s_iload_n C (by decide +kernel : decode c_X9_differ 26 = .ok (.iload_n 1, 1)) rfl rfl rfl, ?_⟩
  refine List.forall_mem_cons.mpr ⟨s_callS C hFok hF (ct_X5_of l D dA σ) ⟨rfl, rfl⟩ ew216 ew377 ew215 ew8 ⟨by decide, by decide, by decide +kernel⟩ ⟨by decide, by decide⟩ (by decide +kernel : decode c_X9_differ 27 = .ok (.invokestatic 107, 3)) rfl rfl ⟨Nat.zero_le _, Nat.zero_le _⟩, ?_⟩
  refine List.forall_mem_cons.mpr ⟨s_aload_n C (by decide +kernel : decode c_X9_differ 30 = .ok (.aload_n 0, 1)) rfl rfl rfl, ?_⟩
  refine List.forall_mem_cons.mpr ⟨s_getf C (by decide +kernel : decode c_X9_differ 31 = .ok (.getfield 41, 3)) rfl rfl em_cl_X9 (by decide) ew157 rfl, ?_⟩
  refine List.forall_mem_cons.mpr ⟨s_getf C (by decide +kernel : decode c_X9_differ 34 = .ok (.getfield 103, 3)) rfl rfl em_cl_X7 (by decide) ew94 rfl, ?_⟩
  refine List.forall_mem_cons.mpr ⟨s_iload_n C (by decide +kernel : decode c_X9_differ 37 = .ok (.iload_n 2, 1)) rfl rfl rfl, ?_⟩
  refine List.forall_mem_cons.mpr ⟨s_callS C hFok hF (ct_X5_of l D dA σ) ⟨rfl, rfl⟩ ew216 ew377 ew215 ew8 ⟨by decide, by decide, by decide +kernel⟩ ⟨by decide, by decide⟩ (by decide +kernel : decode c_X9_differ 38 = .ok (.invokestatic 107, 3)) rfl rfl ⟨Nat.zero_le _, Nat.zero_le _⟩, ?_⟩
  refine List.forall_mem_cons.mpr ⟨s_ixor C (by decide +kernel : decode c_X9_differ 41 = .ok (.ixor, 1)) rfl rfl, ?_⟩
  refine List.forall_mem_cons.mpr ⟨s_iret C (by decide +kernel : decode c_X9_differ 42 = .ok (.ireturn, 1)) hret hlk ⟨Nat.le_refl 0, Nat.le_refl 0⟩, ?_⟩
  exact fun _ h => absurd h List.not_mem_nil
def sp_X9_apart : em_Sp := fun av hp Q => ∃ by9 tln tst ten mm fa9 fb9 rf im pe ki mi se we lea mst pa fi sd ev un ma ea co ca clt Y a b, av = [.ref 0, .int a, .int b] ∧ hp = (wX by9 tln tst ten mm fa9 fb9 rf im pe ki mi se we lea mst pa fi sd ev un ma ea co ca clt Y) ∧ (¬ h2 pe a b → Q (some (.int (-2))) (wX by9 tln tst ten mm fa9 fb9 (rfu rf (-2)) im pe ki mi se we lea mst pa fi sd ev un ma ea co ca clt Y)) ∧ (h2 pe a b → Q (some (.int (dst we (mo mi a) (mo mi b)))) hp)
def T_X9_apart : List (Nat × em_Op) := [(0, o_aload 0 1), (1, o_getf 4 5 4), (4, o_iload 1 5), (5, o_iload 2 6), (6, o_callP 3 (some 2) [8, 9, 10, 11, 12, 13, 14, 15] (sp_X7_hasTwo) 9), (9, o_ifne 19 12), (12, o_aload 0 13), (13, o_iconst (-2) 15), (15, o_call 2 (some 4) (sp_X9_refuse) 18), (18, o_iret), (19, o_aload 0 20), (20, o_getf 4 5 23), (23, o_aload 0 24), (24, o_getf 4 5 27), (27, o_getf 2 2 30), (30, o_iload 1 31), (31, o_call 2 none (sp_X5_of) 34), (34, o_aload 0 35), (35, o_getf 4 5 38), (38, o_getf 2 2 41), (41, o_iload 2 42), (42, o_call 2 none (sp_X5_of) 45), (45, o_callP 3 (some 2) [8, 9, 10, 11, 12, 13, 14, 15] (sp_X7_distance) 48), (48, o_iret)]
theorem me_X9_apart : em_Me T_X9_apart 3 sp_X9_apart := by
  intro Q K hK hle av hp hs
  obtain ⟨by9, tln, tst, ten, mm, fa9, fb9, rf, im, pe, ki, mi, se, we, lea, mst, pa, fi, sd, ev, un, ma, ea, co, ca, clt, Y, a, b, rfl, rfl, hb, hq⟩ := hs
  refine ⟨Nat.le_of_ble_eq_true rfl, hK 0 9999 0 _ _ _ ?_⟩
  refine ⟨_, _, _, _, _, _, _, _, _, _, _, _, _, _, _, _, _, a, b, rfl, rfl, fun z => ?_, fun z => ?_⟩
  · refine ⟨fun _ => ?_, fun y => absurd y (by decide)⟩
    exact ⟨_, _, rfl, _, _, rfl, _, _, _, _, _, _, _, _, _, _, _, _, _, _, _, _, _, _, _, rfl, rfl, hq z⟩
  · refine ⟨fun y => absurd rfl y, fun _ => ?_⟩
    exact ⟨_, _, _, _, _, _, _, _, _, _, _, _, _, _, _, _, _, _, _, _, _, _, _, _, _, _, _, _, rfl, rfl, hb z⟩
abbrev rm_X9_apart : Room := { frames := 2, cells := 0, slots := 0, locals := 43 }
set_option maxRecDepth 100000 in
set_option maxHeartbeats 4000000 in
theorem ct_X9_apart (l : Launch) (D : va_G) (dA : Nat → ClassId) (σ : Nat → Nat) : em_CT l D em_cl dA σ (em_F σ) y_X9_apart c_X9_apart 3 (Option.some ClassFile.FieldType.int) rm_X9_apart (sp_X9_apart ) := by
  refine em_CT_of (T := T_X9_apart ) (em_F_ok σ) (by decide) (fun p e s m args below meth c A ρ Q C hFok hF hret hlk hin => ?_) (me_X9_apart )
  unfold T_X9_apart
  refine List.forall_mem_cons.mpr ⟨s_aload_n C (by decide +kernel : decode c_X9_apart 0 = .ok (.aload_n 0, 1)) rfl rfl rfl, ?_⟩
  refine List.forall_mem_cons.mpr ⟨s_getf C (by decide +kernel : decode c_X9_apart 1 = .ok (.getfield 41, 3)) rfl rfl em_cl_X9 (by decide) ew157 rfl, ?_⟩
  refine List.forall_mem_cons.mpr ⟨s_iload_n C (by decide +kernel : decode c_X9_apart 4 = .ok (.iload_n 1, 1)) rfl rfl rfl, ?_⟩
  refine List.forall_mem_cons.mpr ⟨s_iload_n C (by decide +kernel : decode c_X9_apart 5 = .ok (.iload_n 2, 1)) rfl rfl rfl, ?_⟩
  refine List.forall_mem_cons.mpr ⟨s_callPV C hFok hF (ct_X7_hasTwo l D dA σ) ⟨rfl, rfl⟩ ew254 em_cl_X7 ew382 ew252 ew253 ew5 ⟨by decide, by decide, by decide +kernel⟩ ⟨by decide, by decide⟩ (by decide +kernel : decode c_X9_apart 6 = .ok (.invokevirtual 113, 3)) rfl rfl ⟨Nat.zero_le _, Nat.zero_le _⟩ (by decide), ?_⟩
  refine List.forall_mem_cons.mpr ⟨s_ifne C (by decide +kernel : decode c_X9_apart 9 = .ok (.ifCond .ne 10, 3)) (by decide) rfl rfl rfl, ?_⟩
  refine List.forall_mem_cons.mpr ⟨s_aload_n C (by decide +kernel : decode c_X9_apart 12 = .ok (.aload_n 0, 1)) rfl rfl rfl, ?_⟩
  refine List.forall_mem_cons.mpr ⟨s_bipush C (by decide +kernel : decode c_X9_apart 13 = .ok (.bipush (-2), 2)) rfl rfl (by decide), ?_⟩
  refine List.forall_mem_cons.mpr ⟨s_callV C hFok hF (ct_X9_refuse l D dA σ) ⟨rfl, rfl⟩ ew200 em_cl_X9 ew197 ew199 ewp1 ew1 ⟨by decide, by decide, by decide +kernel⟩ ⟨by decide, by decide⟩ (by decide +kernel : decode c_X9_apart 15 = .ok (.invokevirtual 63, 3)) rfl rfl ⟨Nat.zero_le _, Nat.zero_le _⟩, ?_⟩
  refine List.forall_mem_cons.mpr ⟨s_iret C (by decide +kernel : decode c_X9_apart 18 = .ok (.ireturn, 1)) hret hlk ⟨Nat.le_refl 0, Nat.le_refl 0⟩, ?_⟩
  refine List.forall_mem_cons.mpr ⟨s_aload_n C (by decide +kernel : decode c_X9_apart 19 = .ok (.aload_n 0, 1)) rfl rfl rfl, ?_⟩
  refine List.forall_mem_cons.mpr ⟨s_getf C (by decide +kernel : decode c_X9_apart 20 = .ok (.getfield 41, 3)) rfl rfl em_cl_X9 (by decide) ew157 rfl, ?_⟩
  refine List.forall_mem_cons.mpr ⟨s_aload_n C (by decide +kernel : decode c_X9_apart 23 = .ok (.aload_n 0, 1)) rfl rfl rfl, ?_⟩
  refine List.forall_mem_cons.mpr ⟨s_getf C (by decide +kernel : decode c_X9_apart 24 = .ok (.getfield 41, 3)) rfl rfl em_cl_X9 (by decide) ew157 rfl, ?_⟩
  refine List.forall_mem_cons.mpr ⟨s_getf C (by decide +kernel : decode c_X9_apart 27 = .ok (.getfield 103, 3)) rfl rfl em_cl_X7 (by decide) ew94 rfl, ?_⟩
  refine List.forall_mem_cons.mpr ⟨s_iload_n C (by decide +kernel : decode c_X9_apart 30 = .ok (.iload_n 1, 1)) rfl rfl rfl, ?_⟩
  refine List.forall_mem_cons.mpr ⟨s_callS C hFok hF (ct_X5_of l D dA σ) ⟨rfl, rfl⟩ ew216 ew377 ew215 ew8 ⟨by decide, by decide, by decide +kernel⟩ ⟨by decide, by decide⟩ (by decide +kernel : decode c_X9_apart 31 = .ok (.invokestatic 107, 3)) rfl rfl ⟨Nat.zero_le _, Nat.zero_le _⟩, ?_⟩
  refine List.forall_mem_cons.mpr ⟨s_aload_n C (by decide +kernel : decode c_X9_apart 34 = .ok (.aload_n 0, 1)) rfl rfl rfl, ?_⟩
  refine List.forall_mem_cons.mpr ⟨s_getf C (by decide +kernel : decode c_X9_apart 35 = .ok (.getfield 41, 3)) rfl rfl em_cl_X9 (by decide) ew157 rfl, ?_⟩
  refine List.forall_mem_cons.mpr ⟨s_getf C (by decide +kernel : decode c_X9_apart 38 = .ok (.getfield 103, 3)) rfl rfl em_cl_X7 (by decide) ew94 rfl, ?_⟩
  refine List.forall_mem_cons.mpr ⟨s_iload_n C (by decide +kernel : decode c_X9_apart 41 = .ok (.iload_n 2, 1)) rfl rfl rfl, ?_⟩
  refine List.forall_mem_cons.mpr ⟨s_callS C hFok hF (ct_X5_of l D dA σ) ⟨rfl, rfl⟩ ew216 ew377 ew215 ew8 ⟨by decide, by decide, by decide +kernel⟩ ⟨by decide, by decide⟩ (by decide +kernel : decode c_X9_apart 42 = .ok (.invokestatic 107, 3)) rfl rfl ⟨Nat.zero_le _, Nat.zero_le _⟩, ?_⟩
  refine List.forall_mem_cons.mpr ⟨s_callPV C hFok hF (ct_X7_distance l D dA σ) ⟨rfl, rfl⟩ ew390 em_cl_X7 ew387 ew388 ew389 ew5 ⟨by decide, by decide, by decide +kernel⟩ ⟨by decide, by decide⟩ (by decide +kernel : decode c_X9_apart 45 = .ok (.invokevirtual 117, 3)) rfl rfl ⟨Nat.zero_le _, Nat.zero_le _⟩ (by decide), ?_⟩
  refine List.forall_mem_cons.mpr ⟨s_iret C (by decide +kernel : decode c_X9_apart 48 = .ok (.ireturn, 1)) hret hlk ⟨Nat.le_refl 0, Nat.le_refl 0⟩, ?_⟩
  exact fun _ h => absurd h List.not_mem_nil
def lwb (we lea mst : Int32) (m : Int64) (p : Nat) : Nat → Int32
  | 0 => 0
  | i + 1 => if i ≠ p ∧ mwB we lea mst m p i = true then bor (lwb we lea mst m p i) i else lwb we lea mst m p i
def sp_X9_lawful : em_Sp := fun av hp Q => ∃ by9 tln tst ten mm fa9 fb9 rf im pe ki mi se we lea mst pa fi sd ev un ma ea co ca clt Y p n, av = [.ref 0, .int p] ∧ hp = (wX by9 tln tst ten mm fa9 fb9 rf im pe ki mi se we lea mst pa fi sd ev un ma ea co ca clt Y) ∧ pe = nI n ∧ n ≤ 6 ∧ (¬ hs pe p → Q (some (.int (-2))) (wX by9 tln tst ten mm fa9 fb9 (rfu rf (-2)) im pe ki mi se we lea mst pa fi sd ev un ma ea co ca clt Y)) ∧ (∀ j, p = nI j → j < n → Q (some (.int (lwb we lea mst mi j n))) hp)
def T_X9_lawful : List (Nat × em_Op) := [(0, o_aload 0 1), (1, o_getf 4 5 4), (4, o_iload 1 5), (5, o_callP 2 (some 2) [8, 9, 10, 11, 12, 13, 14, 15] (sp_X7_has) 8), (8, o_ifne 18 11), (11, o_aload 0 12), (12, o_iconst (-2) 14), (14, o_call 2 (some 4) (sp_X9_refuse) 17), (17, o_iret), (18, o_iconst 0 19), (19, o_istore 2 20), (20, o_iconst 0 21), (21, o_istore 3 22), (22, o_iload 3 23), (23, o_aload 0 24), (24, o_getf 4 5 27), (27, o_getf 2 0 30), (30, o_icmpge 69 33), (33, o_iload 3 34), (34, o_iload 1 35), (35, o_icmpeq 63 38), (38, o_aload 0 39), (39, o_getf 4 5 42), (42, o_aload 0 43), (43, o_getf 4 5 46), (46, o_getf 2 2 49), (49, o_iload 1 50), (50, o_iload 3 51), (51, o_callP 4 (some 2) [8, 9, 10, 11, 12, 13, 14, 15] (sp_X7_mayWed) 54), (54, o_ifeq 63 57), (57, o_iload 2 58), (58, o_iconst 1 59), (59, o_iload 3 60), (60, o_ishl 61), (61, o_ior 62), (62, o_istore 2 63), (63, o_iinc 3 1 66), (66, o_goto 22), (69, o_iload 2 70), (70, o_iret)]
theorem me_X9_lawful : em_Me T_X9_lawful 4 sp_X9_lawful := by
  intro Q K hK hle av hp hs
  obtain ⟨by9, tln, tst, ten, mm, fa9, fb9, rf, im, pe, ki, mi, se, we, lea, mst, pa, fi, sd, ev, un, ma, ea, co, ca, clt, Y, p, n, rfl, rfl, rfl, hn, hb, hq⟩ := hs
  refine ⟨Nat.le_of_ble_eq_true rfl, ?_⟩
  refine hK 0 13 0 _ _ _ ?_
  refine ⟨_, _, _, _, _, _, _, _, _, _, _, _, _, _, _, _, _, p, rfl, rfl, fun z => ?_, fun z => ?_⟩
  · refine ⟨fun _ => ?_, fun y => absurd y (by decide)⟩
    obtain ⟨j, hj, rfl⟩ := nI_at rfl z
    have hq := hq j rfl hj
    have loop : ∀ (r i : Nat), i + r = n → K 22 [some (.ref 0), some (.int (nI j)), some (.int (lwb we lea mst mi j i)), some (.int (nI i))] [] (wX by9 tln tst ten mm fa9 fb9 rf im (nI n) ki mi se we lea mst pa fi sd ev un ma ea co ca clt Y) := by
      intro r
      induction r with
      | zero =>
        intro i hi
        have hi : i = n := by omega
        subst hi
        refine hK 13 9999 22 _ _ _ ?_
        exact ⟨fun _ => hq, fun y => absurd (nI_le (Nat.le_refl i) (by omega)) y⟩
      | succ r ih =>
        intro i hi
        have next : ∀ v, v = lwb we lea mst mi j (i + 1) → K 63 [some (.ref 0), some (.int (nI j)), some (.int v), some (.int (nI i))] [] (wX by9 tln tst ten mm fa9 fb9 rf im (nI n) ki mi se we lea mst pa fi sd ev un ma ea co ca clt Y) := by
          intro v hv
          subst hv
          have := ih (i + 1) (by omega)
          rw [← nI_1] at this
          exact hK 36 2 63 _ _ _ this
        refine hK 13 23 22 _ _ _ ?_
        refine ⟨fun y => absurd y (nI_ge (by omega) (by omega)), fun _ => ?_⟩
        refine ⟨fun y => ?_, fun y => ?_⟩
        · have y := (nI_eq (by omega) (by omega)).mp y
          exact next _ (by rw [lwb, if_neg (fun q => q.1 y)])
        · have y : i ≠ j := fun q => y (by rw [q])
          refine ⟨_, _, _, _, _, _, _, _, _, _, _, _, _, _, _, _, _, _, _, _, rfl, rfl, fun z2 => ?_, fun z2 => ?_⟩
          · refine ⟨fun q => absurd q (by decide), fun _ => ?_⟩
            exact next _ (by rw [lwb, if_pos ⟨y, mwB_t z2⟩]; rfl)
          · refine ⟨fun _ => ?_, fun q => absurd q (by decide)⟩
            exact next _ (by rw [lwb, if_neg (fun q => by rw [mwB_f z2] at q; exact Bool.false_ne_true q.2)])
    exact loop n 0 (by omega)
  · refine ⟨fun y => absurd rfl y, fun _ => ?_⟩
    exact ⟨_, _, _, _, _, _, _, _, _, _, _, _, _, _, _, _, _, _, _, _, _, _, _, _, _, _, _, _, rfl, rfl, hb z⟩
abbrev rm_X9_lawful : Room := { frames := 3, cells := 0, slots := 0, locals := 67 }
set_option maxRecDepth 100000 in
set_option maxHeartbeats 4000000 in
theorem ct_X9_lawful (l : Launch) (D : va_G) (dA : Nat → ClassId) (σ : Nat → Nat) : em_CT l D em_cl dA σ (em_F σ) y_X9_lawful c_X9_lawful 4 (Option.some ClassFile.FieldType.int) rm_X9_lawful (sp_X9_lawful ) := by
  refine em_CT_of (T := T_X9_lawful ) (em_F_ok σ) (by decide) (fun p e s m args below meth c A ρ Q C hFok hF hret hlk hin => ?_) (me_X9_lawful )
  unfold T_X9_lawful
  refine List.forall_mem_cons.mpr ⟨s_aload_n C (by decide +kernel : decode c_X9_lawful 0 = .ok (.aload_n 0, 1)) rfl rfl rfl, ?_⟩
  refine List.forall_mem_cons.mpr ⟨s_getf C (by decide +kernel : decode c_X9_lawful 1 = .ok (.getfield 41, 3)) rfl rfl em_cl_X9 (by decide) ew157 rfl, ?_⟩
  refine List.forall_mem_cons.mpr ⟨s_iload_n C (by decide +kernel : decode c_X9_lawful 4 = .ok (.iload_n 1, 1)) rfl rfl rfl, ?_⟩
  refine List.forall_mem_cons.mpr ⟨s_callPV C hFok hF (ct_X7_has l D dA σ) ⟨rfl, rfl⟩ ew208 em_cl_X7 ew205 ew206 ew207 ew5 ⟨by decide, by decide, by decide +kernel⟩ ⟨by decide, by decide⟩ (by decide +kernel : decode c_X9_lawful 5 = .ok (.invokevirtual 56, 3)) rfl rfl ⟨Nat.zero_le _, Nat.zero_le _⟩ (by decide), ?_⟩
  refine List.forall_mem_cons.mpr ⟨s_ifne C (by decide +kernel : decode c_X9_lawful 8 = .ok (.ifCond .ne 10, 3)) (by decide) rfl rfl rfl, ?_⟩
  refine List.forall_mem_cons.mpr ⟨s_aload_n C (by decide +kernel : decode c_X9_lawful 11 = .ok (.aload_n 0, 1)) rfl rfl rfl, ?_⟩
  refine List.forall_mem_cons.mpr ⟨s_bipush C (by decide +kernel : decode c_X9_lawful 12 = .ok (.bipush (-2), 2)) rfl rfl (by decide), ?_⟩
  refine List.forall_mem_cons.mpr ⟨s_callV C hFok hF (ct_X9_refuse l D dA σ) ⟨rfl, rfl⟩ ew200 em_cl_X9 ew197 ew199 ewp1 ew1 ⟨by decide, by decide, by decide +kernel⟩ ⟨by decide, by decide⟩ (by decide +kernel : decode c_X9_lawful 14 = .ok (.invokevirtual 63, 3)) rfl rfl ⟨Nat.zero_le _, Nat.zero_le _⟩, ?_⟩
  refine List.forall_mem_cons.mpr ⟨s_iret C (by decide +kernel : decode c_X9_lawful 17 = .ok (.ireturn, 1)) hret hlk ⟨Nat.le_refl 0, Nat.le_refl 0⟩, ?_⟩
  refine List.forall_mem_cons.mpr ⟨s_iconst C (by decide +kernel : decode c_X9_lawful 18 = .ok (.iconst 0, 1)) rfl rfl (by decide), ?_⟩
  refine List.forall_mem_cons.mpr ⟨s_istore_n C (by decide +kernel : decode c_X9_lawful 19 = .ok (.istore_n 2, 1)) rfl rfl rfl (by decide), ?_⟩
  refine List.forall_mem_cons.mpr ⟨s_iconst C (by decide +kernel : decode c_X9_lawful 20 = .ok (.iconst 0, 1)) rfl rfl (by decide), ?_⟩
  refine List.forall_mem_cons.mpr ⟨s_istore_n C (by decide +kernel : decode c_X9_lawful 21 = .ok (.istore_n 3, 1)) rfl rfl rfl (by decide), ?_⟩
  refine List.forall_mem_cons.mpr ⟨s_iload_n C (by decide +kernel : decode c_X9_lawful 22 = .ok (.iload_n 3, 1)) rfl rfl rfl, ?_⟩
  refine List.forall_mem_cons.mpr ⟨s_aload_n C (by decide +kernel : decode c_X9_lawful 23 = .ok (.aload_n 0, 1)) rfl rfl rfl, ?_⟩
  refine List.forall_mem_cons.mpr ⟨s_getf C (by decide +kernel : decode c_X9_lawful 24 = .ok (.getfield 41, 3)) rfl rfl em_cl_X9 (by decide) ew157 rfl, ?_⟩
  refine List.forall_mem_cons.mpr ⟨s_getf C (by decide +kernel : decode c_X9_lawful 27 = .ok (.getfield 120, 3)) rfl rfl em_cl_X7 (by decide) ew88 rfl, ?_⟩
  refine List.forall_mem_cons.mpr ⟨s_icmpge C (by decide +kernel : decode c_X9_lawful 30 = .ok (.if_icmp .ge 39, 3)) (by decide) rfl rfl rfl, ?_⟩
  refine List.forall_mem_cons.mpr ⟨s_iload_n C (by decide +kernel : decode c_X9_lawful 33 = .ok (.iload_n 3, 1)) rfl rfl rfl, ?_⟩
  refine List.forall_mem_cons.mpr ⟨s_iload_n C (by decide +kernel : decode c_X9_lawful 34 = .ok (.iload_n 1, 1)) rfl rfl rfl, ?_⟩
  refine List.forall_mem_cons.mpr ⟨s_icmpeq C (by decide +kernel : decode c_X9_lawful 35 = .ok (.if_icmp .eq 28, 3)) (by decide) rfl rfl rfl, ?_⟩
  refine List.forall_mem_cons.mpr ⟨s_aload_n C (by decide +kernel : decode c_X9_lawful 38 = .ok (.aload_n 0, 1)) rfl rfl rfl, ?_⟩
  refine List.forall_mem_cons.mpr ⟨s_getf C (by decide +kernel : decode c_X9_lawful 39 = .ok (.getfield 41, 3)) rfl rfl em_cl_X9 (by decide) ew157 rfl, ?_⟩
  refine List.forall_mem_cons.mpr ⟨s_aload_n C (by decide +kernel : decode c_X9_lawful 42 = .ok (.aload_n 0, 1)) rfl rfl rfl, ?_⟩
  refine List.forall_mem_cons.mpr ⟨s_getf C (by decide +kernel : decode c_X9_lawful 43 = .ok (.getfield 41, 3)) rfl rfl em_cl_X9 (by decide) ew157 rfl, ?_⟩
  refine List.forall_mem_cons.mpr ⟨s_getf C (by decide +kernel : decode c_X9_lawful 46 = .ok (.getfield 103, 3)) rfl rfl em_cl_X7 (by decide) ew94 rfl, ?_⟩
  refine List.forall_mem_cons.mpr ⟨s_iload_n C (by decide +kernel : decode c_X9_lawful 49 = .ok (.iload_n 1, 1)) rfl rfl rfl, ?_⟩
  refine List.forall_mem_cons.mpr ⟨s_iload_n C (by decide +kernel : decode c_X9_lawful 50 = .ok (.iload_n 3, 1)) rfl rfl rfl, ?_⟩
  refine List.forall_mem_cons.mpr ⟨s_callPV C hFok hF (ct_X7_mayWed l D dA σ) ⟨rfl, rfl⟩ ew404 em_cl_X7 ew401 ew402 ew403 ew5 ⟨by decide, by decide, by decide +kernel⟩ ⟨by decide, by decide⟩ (by decide +kernel : decode c_X9_lawful 51 = .ok (.invokevirtual 123, 3)) rfl rfl ⟨Nat.zero_le _, Nat.zero_le _⟩ (by decide), ?_⟩
  refine List.forall_mem_cons.mpr ⟨s_ifeq C (by decide +kernel : decode c_X9_lawful 54 = .ok (.ifCond .eq 9, 3)) (by decide) rfl rfl rfl, ?_⟩
  refine List.forall_mem_cons.mpr ⟨s_iload_n C (by decide +kernel : decode c_X9_lawful 57 = .ok (.iload_n 2, 1)) rfl rfl rfl, ?_⟩
  refine List.forall_mem_cons.mpr ⟨s_iconst C (by decide +kernel : decode c_X9_lawful 58 = .ok (.iconst 1, 1)) rfl rfl (by decide), ?_⟩
  refine List.forall_mem_cons.mpr ⟨s_iload_n C (by decide +kernel : decode c_X9_lawful 59 = .ok (.iload_n 3, 1)) rfl rfl rfl, ?_⟩
  refine List.forall_mem_cons.mpr ⟨s_ishl C (by decide +kernel : decode c_X9_lawful 60 = .ok (.ishl, 1)) rfl rfl, ?_⟩
  refine List.forall_mem_cons.mpr ⟨s_ior C (by decide +kernel : decode c_X9_lawful 61 = .ok (.ior, 1)) rfl rfl, ?_⟩
  refine List.forall_mem_cons.mpr ⟨s_istore_n C (by decide +kernel : decode c_X9_lawful 62 = .ok (.istore_n 2, 1)) rfl rfl rfl (by decide), ?_⟩
  refine List.forall_mem_cons.mpr ⟨s_iinc C (by decide +kernel : decode c_X9_lawful 63 = .ok (.iinc 3 1, 3)) rfl rfl (by decide) (by decide), ?_⟩
  refine List.forall_mem_cons.mpr ⟨s_goto C (by decide +kernel : decode c_X9_lawful 66 = .ok (.goto (-44), 3)) (by decide) rfl, ?_⟩
  refine List.forall_mem_cons.mpr ⟨s_iload_n C (by decide +kernel : decode c_X9_lawful 69 = .ok (.iload_n 2, 1)) rfl rfl rfl, ?_⟩
  refine List.forall_mem_cons.mpr ⟨s_iret C (by decide +kernel : decode c_X9_lawful 70 = .ok (.ireturn, 1)) hret hlk ⟨Nat.le_refl 0, Nat.le_refl 0⟩, ?_⟩
  exact fun _ h => absurd h List.not_mem_nil
/-- the first below k, as it is kept -/
def fsU (P : Nat → Bool) : Nat → Option Nat
  | 0 => none
  | k + 1 => match fsU P k with
    | some x => some x
    | none => if P k = true then some k else none
theorem fsU_cU {P : Nat → Bool} : ∀ k, (fsU P k = none ↔ cU P k = 0)
  | 0 => ⟨fun _ => rfl, fun _ => rfl⟩
  | k + 1 => by
    have ih := fsU_cU (P := P) k
    rw [fsU, cU]
    cases hf : fsU P k with
    | none =>
      have h0 := ih.mp hf
      rw [h0]
      by_cases hp : P k = true
      · simp [hp]
      · simp [hp]
    | some x =>
      constructor
      · intro h; cases h
      · intro h
        have : cU P k = 0 := by omega
        rw [ih.mpr this] at hf
        cases hf
def awB (we lea mst : Int32) (m : Int64) (n : Nat) (s : Int32) : Bool := decide (∀ b, b < n → ∀ a, a < b → (s >>> (nI a &&& 31)) &&& 1 = 1 → (s >>> (nI b &&& 31)) &&& 1 = 1 → mwB we lea mst m a b = true)
theorem mwB_to {we lea mst : Int32} {m : Int64} {a b : Nat} (h : mwB we lea mst m a b = true) : mwd we lea mst m (nI a) (nI b) := by
  unfold mwB at h
  have h9 := of_decide_eq_true h
  exact h9
theorem awB_t {we lea mst : Int32} {m : Int64} {n : Nat} {s : Int32} (h : awd we lea mst m n s) : awB we lea mst m n s = true := decide_eq_true (fun b hb a ha h1 h2 => mwB_t (h a b ha hb h1 h2))
theorem awB_f {we lea mst : Int32} {m : Int64} {n : Nat} {s : Int32} (h : ¬ awd we lea mst m n s) : awB we lea mst m n s = false := decide_eq_false (fun q => h (fun a b ha hb h1 h2 => mwB_to (q b hb a ha h1 h2)))
def thB (we lea mst : Int32) (m : Int64) (n : Nat) (s : Nat) : Bool := decide (bcI (nI s) = 3) && awB we lea mst m n (nI s)
theorem shln : ∀ n, n < 7 → (1 : Int32) <<< (nI n &&& 31) = nI (2 ^ n) := fun n h => shl1 n (by omega)
def sp_X9_three : em_Sp := fun av hp Q => ∃ by9 tln tst ten mm fa9 fb9 rf im pe ki mi se we lea mst pa fi sd ev un ma ea co ca clt Y k n, av = [.ref 0, .int k] ∧ hp = (wX by9 tln tst ten mm fa9 fb9 rf im pe ki mi se we lea mst pa fi sd ev un ma ea co ca clt Y) ∧ pe = nI n ∧ n ≤ 6 ∧ (¬ k = 0 → ¬ k = 1 → Q (some (.int (-2))) (wX by9 tln tst ten mm fa9 fb9 (rfu rf (-2)) im pe ki mi se we lea mst pa fi sd ev un ma ea co ca clt Y)) ∧ (k = 0 → Q (some (.int (nI (cU (thB we lea mst mi n) (2 ^ n))))) hp) ∧ (k = 1 → Q (some (.int (oI (fsU (thB we lea mst mi n) (2 ^ n))))) hp)
def T_X9_three : List (Nat × em_Op) := [(0, o_iload 1 1), (1, o_ifeq 16 4), (4, o_iload 1 5), (5, o_iconst 1 6), (6, o_icmpeq 16 9), (9, o_aload 0 10), (10, o_iconst (-2) 12), (12, o_call 2 (some 4) (sp_X9_refuse) 15), (15, o_iret), (16, o_iconst 0 17), (17, o_istore 2 18), (18, o_iconst (-1) 19), (19, o_istore 3 20), (20, o_iconst 0 21), (21, o_istore 4 23), (23, o_iload 4 25), (25, o_iconst 1 26), (26, o_aload 0 27), (27, o_getf 4 5 30), (30, o_getf 2 0 33), (33, o_ishl 34), (34, o_icmpge 74 37), (37, o_iload 4 39), (39, o_call 1 none (sp_J6_bitCount_0f7a4) 42), (42, o_iconst 3 43), (43, o_icmpne 68 46), (46, o_aload 0 47), (47, o_getf 4 5 50), (50, o_iload 4 52), (52, o_callP 2 (some 2) [8, 9, 10, 11, 12, 13, 14, 15] (sp_X7_mayAllWed) 55), (55, o_ifeq 68 58), (58, o_iload 2 59), (59, o_ifne 65 62), (62, o_iload 4 64), (64, o_istore 3 65), (65, o_iinc 2 1 68), (68, o_iinc 4 1 71), (71, o_goto 23), (74, o_iload 1 75), (75, o_ifne 82 78), (78, o_iload 2 79), (79, o_goto 83), (82, o_iload 3 83), (83, o_iret)]
theorem me_X9_three : em_Me T_X9_three 5 sp_X9_three := by
  intro Q K hK hle av hp hs
  obtain ⟨by9, tln, tst, ten, mm, fa9, fb9, rf, im, pe, ki, mi, se, we, lea, mst, pa, fi, sd, ev, un, ma, ea, co, ca, clt, Y, k, n, rfl, rfl, rfl, hn, hb, hq0, hq1⟩ := hs
  refine ⟨Nat.le_of_ble_eq_true rfl, ?_⟩
  have h64 : 2 ^ n ≤ 64 := Nat.pow_le_pow_right (n := 2) (by omega) (show n ≤ 6 from hn)
  generalize hP : thB we lea mst mi n = P at hq0 hq1
  have ok : k = 0 ∨ k = 1 → K 16 [some (.ref 0), some (.int k), none, none, none] [] (wX by9 tln tst ten mm fa9 fb9 rf im (nI n) ki mi se we lea mst pa fi sd ev un ma ea co ca clt Y) := by
    intro hk
    have loop : ∀ (r i : Nat), i + r = 2 ^ n → K 23 [some (.ref 0), some (.int k), some (.int (nI (cU P i))), some (.int (oI (fsU P i))), some (.int (nI i))] [] (wX by9 tln tst ten mm fa9 fb9 rf im (nI n) ki mi se we lea mst pa fi sd ev un ma ea co ca clt Y) := by
      intro r
      induction r with
      | zero =>
        intro i hi
        have hi : i = 2 ^ n := by omega
        rw [hi]
        refine hK 15 9999 23 _ _ _ ?_
        refine ⟨fun _ => ⟨fun z => ?_, fun z => ?_⟩, fun y => absurd (by rw [shln n (by omega)]; exact nI_le (Nat.le_refl _) (by omega)) y⟩
        · rcases hk with q | q
          · exact absurd q z
          · exact hq1 q
        · exact hq0 z
      | succ r ih =>
        intro i hi
        have next : ∀ v w, v = nI (cU P (i + 1)) → w = oI (fsU P (i + 1)) → K 68 [some (.ref 0), some (.int k), some (.int v), some (.int w), some (.int (nI i))] [] (wX by9 tln tst ten mm fa9 fb9 rf im (nI n) ki mi se we lea mst pa fi sd ev un ma ea co ca clt Y) := by
          intro v w hv hw
          subst hv
          subst hw
          have := ih (i + 1) (by omega)
          rw [← nI_1] at this
          exact hK 36 2 68 _ _ _ this
        have no : P i = false → K 68 [some (.ref 0), some (.int k), some (.int (nI (cU P i))), some (.int (oI (fsU P i))), some (.int (nI i))] [] (wX by9 tln tst ten mm fa9 fb9 rf im (nI n) ki mi se we lea mst pa fi sd ev un ma ea co ca clt Y) := by
          intro h
          refine next _ _ (by rw [cU, h]; rfl) ?_
          rw [fsU, h]
          cases fsU P i <;> rfl
        have ep : P i = (decide (bcI (nI i) = 3) && awB we lea mst mi n (nI i)) := by rw [← hP]; rfl
        refine hK 15 21 23 _ _ _ ?_
        refine ⟨fun y => absurd (by rw [shln n (by omega)] at y; exact y) (nI_ge (a := i) (b := 2 ^ n) (by omega) (by omega)), fun _ => ?_⟩
        refine ⟨_, rfl, fun y => ?_, fun y => ?_⟩
        · exact no (by rw [ep, decide_eq_false y, Bool.false_and])
        · refine ⟨_, _, _, _, _, _, _, _, _, _, _, _, _, _, _, _, _, _, n, rfl, rfl, rfl, hn, fun z => ?_, fun z => ?_⟩
          · have e1 : P i = true := by rw [ep, decide_eq_true y, awB_t z]; rfl
            refine ⟨fun q => absurd q (by decide), fun _ => ⟨fun q => ?_, fun q => ?_⟩⟩
            · refine next _ _ (by rw [cU, if_pos e1, ← nI_1]) ?_
              rw [fsU]
              cases hf : fsU P i with
              | none => rw [(fsU_cU i).mp hf] at q; exact absurd rfl q
              | some x => rfl
            · refine next _ _ (by rw [cU, if_pos e1, ← nI_1]) ?_
              have hc : cU P i = 0 := (nI_eq (b := 0) (Nat.lt_of_le_of_lt cU_le (by omega)) (by omega)).mp q
              rw [fsU, (fsU_cU i).mpr hc]
              show nI i = oI (if P i = true then some i else none)
              rw [if_pos e1]; rfl
          · refine ⟨fun _ => ?_, fun q => absurd q (by decide)⟩
            exact no (by rw [ep, awB_f z, Bool.and_false])
    exact hK 9 6 16 _ _ _ (loop (2 ^ n) 0 (by omega))
  refine hK 0 9 0 _ _ _ ?_
  refine ⟨fun z => ok (Or.inl z), fun z => ⟨fun z2 => ok (Or.inr z2), fun z2 => ?_⟩⟩
  exact ⟨_, _, _, _, _, _, _, _, _, _, _, _, _, _, _, _, _, _, _, _, _, _, _, _, _, _, _, _, rfl, rfl, hb z z2⟩
abbrev rm_X9_three : Room := { frames := 4, cells := 0, slots := 0, locals := 91 }
set_option maxRecDepth 100000 in
set_option maxHeartbeats 4000000 in
theorem ct_X9_three (l : Launch) (D : va_G) (dA : Nat → ClassId) (σ : Nat → Nat) : em_CT l D em_cl dA σ (em_F σ) y_X9_three c_X9_three 5 (Option.some ClassFile.FieldType.int) rm_X9_three (sp_X9_three ) := by
  refine em_CT_of (T := T_X9_three ) (em_F_ok σ) (by decide) (fun p e s m args below meth c A ρ Q C hFok hF hret hlk hin => ?_) (me_X9_three )
  unfold T_X9_three
  refine List.forall_mem_cons.mpr ⟨s_iload_n C (by decide +kernel : decode c_X9_three 0 = .ok (.iload_n 1, 1)) rfl rfl rfl, ?_⟩
  refine List.forall_mem_cons.mpr ⟨s_ifeq C (by decide +kernel : decode c_X9_three 1 = .ok (.ifCond .eq 15, 3)) (by decide) rfl rfl rfl, ?_⟩
  refine List.forall_mem_cons.mpr ⟨s_iload_n C (by decide +kernel : decode c_X9_three 4 = .ok (.iload_n 1, 1)) rfl rfl rfl, ?_⟩
  refine List.forall_mem_cons.mpr ⟨s_iconst C (by decide +kernel : decode c_X9_three 5 = .ok (.iconst 1, 1)) rfl rfl (by decide), ?_⟩
  refine List.forall_mem_cons.mpr ⟨s_icmpeq C (by decide +kernel : decode c_X9_three 6 = .ok (.if_icmp .eq 10, 3)) (by decide) rfl rfl rfl, ?_⟩
  refine List.forall_mem_cons.mpr ⟨s_aload_n C (by decide +kernel : decode c_X9_three 9 = .ok (.aload_n 0, 1)) rfl rfl rfl, ?_⟩
  refine List.forall_mem_cons.mpr ⟨s_bipush C (by decide +kernel : decode c_X9_three 10 = .ok (.bipush (-2), 2)) rfl rfl (by decide), ?_⟩
  refine List.forall_mem_cons.mpr ⟨s_callV C hFok hF (ct_X9_refuse l D dA σ) ⟨rfl, rfl⟩ ew200 em_cl_X9 ew197 ew199 ewp1 ew1 ⟨by decide, by decide, by decide +kernel⟩ ⟨by decide, by decide⟩ (by decide +kernel : decode c_X9_three 12 = .ok (.invokevirtual 63, 3)) rfl rfl ⟨Nat.zero_le _, Nat.zero_le _⟩, ?_⟩
  refine List.forall_mem_cons.mpr ⟨s_iret C (by decide +kernel : decode c_X9_three 15 = .ok (.ireturn, 1)) hret hlk ⟨Nat.le_refl 0, Nat.le_refl 0⟩, ?_⟩
  refine List.forall_mem_cons.mpr ⟨s_iconst C (by decide +kernel : decode c_X9_three 16 = .ok (.iconst 0, 1)) rfl rfl (by decide), ?_⟩
  refine List.forall_mem_cons.mpr ⟨s_istore_n C (by decide +kernel : decode c_X9_three 17 = .ok (.istore_n 2, 1)) rfl rfl rfl (by decide), ?_⟩
  refine List.forall_mem_cons.mpr ⟨s_iconst C (by decide +kernel : decode c_X9_three 18 = .ok (.iconst (-1), 1)) rfl rfl (by decide), ?_⟩
  refine List.forall_mem_cons.mpr ⟨s_istore_n C (by decide +kernel : decode c_X9_three 19 = .ok (.istore_n 3, 1)) rfl rfl rfl (by decide), ?_⟩
  refine List.forall_mem_cons.mpr ⟨s_iconst C (by decide +kernel : decode c_X9_three 20 = .ok (.iconst 0, 1)) rfl rfl (by decide), ?_⟩
  refine List.forall_mem_cons.mpr ⟨s_istore C (by decide +kernel : decode c_X9_three 21 = .ok (.istore 4, 2)) rfl rfl (by decide), ?_⟩
  refine List.forall_mem_cons.mpr ⟨s_iload C (by decide +kernel : decode c_X9_three 23 = .ok (.iload 4, 2)) rfl rfl, ?_⟩
  refine List.forall_mem_cons.mpr ⟨s_iconst C (by decide +kernel : decode c_X9_three 25 = .ok (.iconst 1, 1)) rfl rfl (by decide), ?_⟩
  refine List.forall_mem_cons.mpr ⟨s_aload_n C (by decide +kernel : decode c_X9_three 26 = .ok (.aload_n 0, 1)) rfl rfl rfl, ?_⟩
  refine List.forall_mem_cons.mpr ⟨s_getf C (by decide +kernel : decode c_X9_three 27 = .ok (.getfield 41, 3)) rfl rfl em_cl_X9 (by decide) ew157 rfl, ?_⟩
  refine List.forall_mem_cons.mpr ⟨s_getf C (by decide +kernel : decode c_X9_three 30 = .ok (.getfield 120, 3)) rfl rfl em_cl_X7 (by decide) ew88 rfl, ?_⟩
  refine List.forall_mem_cons.mpr ⟨s_ishl C (by decide +kernel : decode c_X9_three 33 = .ok (.ishl, 1)) rfl rfl, ?_⟩
  refine List.forall_mem_cons.mpr ⟨s_icmpge C (by decide +kernel : decode c_X9_three 34 = .ok (.if_icmp .ge 40, 3)) (by decide) rfl rfl rfl, ?_⟩
  refine List.forall_mem_cons.mpr ⟨s_iload C (by decide +kernel : decode c_X9_three 37 = .ok (.iload 4, 2)) rfl rfl, ?_⟩
  refine List.forall_mem_cons.mpr ⟨s_callS C hFok hF (ct_J6_bitCount_0f7a4 l D dA σ) ⟨rfl, rfl⟩ ew393 ew414 ew392 ew13 ⟨by decide, by decide, by decide +kernel⟩ ⟨by decide, by decide⟩ (by decide +kernel : decode c_X9_three 39 = .ok (.invokestatic 127, 3)) rfl rfl ⟨Nat.zero_le _, Nat.zero_le _⟩, ?_⟩
  refine List.forall_mem_cons.mpr ⟨s_iconst C (by decide +kernel : decode c_X9_three 42 = .ok (.iconst 3, 1)) rfl rfl (by decide), ?_⟩
  refine List.forall_mem_cons.mpr ⟨s_icmpne C (by decide +kernel : decode c_X9_three 43 = .ok (.if_icmp .ne 25, 3)) (by decide) rfl rfl rfl, ?_⟩
  refine List.forall_mem_cons.mpr ⟨s_aload_n C (by decide +kernel : decode c_X9_three 46 = .ok (.aload_n 0, 1)) rfl rfl rfl, ?_⟩
  refine List.forall_mem_cons.mpr ⟨s_getf C (by decide +kernel : decode c_X9_three 47 = .ok (.getfield 41, 3)) rfl rfl em_cl_X9 (by decide) ew157 rfl, ?_⟩
  refine List.forall_mem_cons.mpr ⟨s_iload C (by decide +kernel : decode c_X9_three 50 = .ok (.iload 4, 2)) rfl rfl, ?_⟩
  refine List.forall_mem_cons.mpr ⟨s_callPV C hFok hF (ct_X7_mayAllWed l D dA σ) ⟨rfl, rfl⟩ ew418 em_cl_X7 ew415 ew416 ew417 ew5 ⟨by decide, by decide, by decide +kernel⟩ ⟨by decide, by decide⟩ (by decide +kernel : decode c_X9_three 52 = .ok (.invokevirtual 132, 3)) rfl rfl ⟨Nat.zero_le _, Nat.zero_le _⟩ (by decide), ?_⟩
  refine List.forall_mem_cons.mpr ⟨s_ifeq C (by decide +kernel : decode c_X9_three 55 = .ok (.ifCond .eq 13, 3)) (by decide) rfl rfl rfl, ?_⟩
  refine List.forall_mem_cons.mpr ⟨s_iload_n C (by decide +kernel : decode c_X9_three 58 = .ok (.iload_n 2, 1)) rfl rfl rfl, ?_⟩
  refine List.forall_mem_cons.mpr ⟨s_ifne C (by decide +kernel : decode c_X9_three 59 = .ok (.ifCond .ne 6, 3)) (by decide) rfl rfl rfl, ?_⟩
  refine List.forall_mem_cons.mpr ⟨s_iload C (by decide +kernel : decode c_X9_three 62 = .ok (.iload 4, 2)) rfl rfl, ?_⟩
  refine List.forall_mem_cons.mpr ⟨s_istore_n C (by decide +kernel : decode c_X9_three 64 = .ok (.istore_n 3, 1)) rfl rfl rfl (by decide), ?_⟩
  refine List.forall_mem_cons.mpr ⟨s_iinc C (by decide +kernel : decode c_X9_three 65 = .ok (.iinc 2 1, 3)) rfl rfl (by decide) (by decide), ?_⟩
  refine List.forall_mem_cons.mpr ⟨s_iinc C (by decide +kernel : decode c_X9_three 68 = .ok (.iinc 4 1, 3)) rfl rfl (by decide) (by decide), ?_⟩
  refine List.forall_mem_cons.mpr ⟨s_goto C (by decide +kernel : decode c_X9_three 71 = .ok (.goto (-48), 3)) (by decide) rfl, ?_⟩
  refine List.forall_mem_cons.mpr ⟨s_iload_n C (by decide +kernel : decode c_X9_three 74 = .ok (.iload_n 1, 1)) rfl rfl rfl, ?_⟩
  refine List.forall_mem_cons.mpr ⟨s_ifne C (by decide +kernel : decode c_X9_three 75 = .ok (.ifCond .ne 7, 3)) (by decide) rfl rfl rfl, ?_⟩
  refine List.forall_mem_cons.mpr ⟨s_iload_n C (by decide +kernel : decode c_X9_three 78 = .ok (.iload_n 2, 1)) rfl rfl rfl, ?_⟩
  refine List.forall_mem_cons.mpr ⟨s_goto C (by decide +kernel : decode c_X9_three 79 = .ok (.goto 4, 3)) (by decide) rfl, ?_⟩
  refine List.forall_mem_cons.mpr ⟨s_iload_n C (by decide +kernel : decode c_X9_three 82 = .ok (.iload_n 3, 1)) rfl rfl rfl, ?_⟩
  refine List.forall_mem_cons.mpr ⟨s_iret C (by decide +kernel : decode c_X9_three 83 = .ok (.ireturn, 1)) hret hlk ⟨Nat.le_refl 0, Nat.le_refl 0⟩, ?_⟩
  exact fun _ h => absurd h List.not_mem_nil
