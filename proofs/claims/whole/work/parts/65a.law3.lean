/-! ===== the law's rows are sound ===== -/
set_option maxRecDepth 100000 in
set_option maxHeartbeats 4000000 in
theorem snd_LP {p : Program} {l : Launch} {e : Env} {s : State} {m : MethodId} {b L k : Nat} {xs : Nat → Int32} {below : List Frame} {meth : Method} {c : Code} {D : va_G} {dA : Nat → ClassId} {σ : Nat → Nat} {A : Nat → Prop} {Z : State → Prop} (C : em_Cx p s m #[Value.ref b] c D em_cl A 4 (em_tys dA) code "WedApartLaw") (hFok : em_Fok (em_F σ)) (hF : em_F σ A s s.heap) (hX : va_X b L xs s s.heap) (hbl : b < s.heap.size) (hbA : ¬ A b) (hσ : σ 11 = b) (hL : L < 2 ^ 31) (hkc : k ≤ 64) (Q : em_Q) : ∀ q ∈ T_LP L xs, em_Snd p l e room_1 s m #[Value.ref b] below meth c D em_cl dA σ A 4 cntP (fun _ => True) Z Q q.1 q.2 := by
  unfold T_LP
  refine List.forall_mem_cons.mpr ⟨s_new C (N0 := 0) (fun _ _ _ _ => trivial) em_cl_X9 ew19 ew20 ew1 (by decide +kernel) rfl (by decide +kernel : decode code 0 = .ok (.new 7, 3)) rfl rfl ⟨by decide, by decide⟩, ?_⟩
  refine List.forall_mem_cons.mpr ⟨s_dup C (by decide +kernel : decode code 3 = .ok (.dup, 1)) rfl rfl, ?_⟩
  refine List.forall_mem_cons.mpr ⟨s_callI C (N0 := 0) (fun _ _ _ _ => trivial) hFok hF (ct_X9_init l D dA σ) ⟨rfl, rfl⟩ ew23 ew21 ew22 ew1 rfl ⟨by decide, by decide, by decide +kernel⟩ ⟨by decide, by decide⟩ (by decide +kernel : decode code 4 = .ok (.invokespecial 9, 3)) rfl rfl ⟨by decide, by decide⟩, ?_⟩
  refine List.forall_mem_cons.mpr ⟨s_astore_n C (by decide +kernel : decode code 7 = .ok (.astore_n 1, 1)) rfl rfl rfl (by decide), ?_⟩
  refine List.forall_mem_cons.mpr ⟨s_new C (N0 := 0) (fun _ _ _ _ => trivial) em_cl_X10 ew681 ew682 ew6 (by decide +kernel) rfl (by decide +kernel : decode code 8 = .ok (.new 10, 3)) rfl rfl ⟨by decide, by decide⟩, ?_⟩
  refine List.forall_mem_cons.mpr ⟨s_dup C (by decide +kernel : decode code 11 = .ok (.dup, 1)) rfl rfl, ?_⟩
  refine List.forall_mem_cons.mpr ⟨s_callI C (N0 := 0) (fun _ _ _ _ => trivial) hFok hF (ct_X10_init l D dA σ) ⟨rfl, rfl⟩ ew685 ew683 ew684 ew6 rfl ⟨by decide, by decide, by decide +kernel⟩ ⟨by decide, by decide⟩ (by decide +kernel : decode code 12 = .ok (.invokespecial 12, 3)) rfl rfl ⟨by decide, by decide⟩, ?_⟩
  refine List.forall_mem_cons.mpr ⟨s_astore_n C (by decide +kernel : decode code 15 = .ok (.astore_n 2, 1)) rfl rfl rfl (by decide), ?_⟩
  refine List.forall_mem_cons.mpr ⟨s_iconst C (by decide +kernel : decode code 16 = .ok (.iconst 0, 1)) rfl rfl (by decide), ?_⟩
  refine List.forall_mem_cons.mpr ⟨s_istore_n C (by decide +kernel : decode code 17 = .ok (.istore_n 3, 1)) rfl rfl rfl (by decide), ?_⟩
  exact fun _ h => absurd h List.not_mem_nil
set_option maxRecDepth 100000 in
set_option maxHeartbeats 4000000 in
theorem snd_LH {p : Program} {l : Launch} {e : Env} {s : State} {m : MethodId} {b L k : Nat} {xs : Nat → Int32} {below : List Frame} {meth : Method} {c : Code} {D : va_G} {dA : Nat → ClassId} {σ : Nat → Nat} {A : Nat → Prop} {Z : State → Prop} (C : em_Cx p s m #[Value.ref b] c D em_cl A 4 (em_tys dA) code "WedApartLaw") (hFok : em_Fok (em_F σ)) (hF : em_F σ A s s.heap) (hX : va_X b L xs s s.heap) (hbl : b < s.heap.size) (hbA : ¬ A b) (hσ : σ 11 = b) (hL : L < 2 ^ 31) (hkc : k ≤ 64) (Q : em_Q) : ∀ q ∈ T_LH L xs, em_Snd p l e room_1 s m #[Value.ref b] below meth c D em_cl dA σ A 4 (cntL k) (fun _ => True) Z Q q.1 q.2 := by
  unfold T_LH
  refine List.forall_mem_cons.mpr ⟨s_iload_n C (by decide +kernel : decode code 18 = .ok (.iload_n 3, 1)) rfl rfl rfl, ?_⟩
  refine List.forall_mem_cons.mpr ⟨s_aloadX_n C (by decide +kernel : decode code 19 = .ok (.aload_n 0, 1)) rfl rfl rfl, ?_⟩
  refine List.forall_mem_cons.mpr ⟨s_slen C hX hbl hbA hσ (by decide +kernel : decode code 20 = .ok (.arraylength, 1)) rfl rfl, ?_⟩
  refine List.forall_mem_cons.mpr ⟨s_iconst C (by decide +kernel : decode code 21 = .ok (.iconst 5, 1)) rfl rfl (by decide), ?_⟩
  refine List.forall_mem_cons.mpr ⟨s_isub C (by decide +kernel : decode code 22 = .ok (.isub, 1)) rfl rfl, ?_⟩
  refine List.forall_mem_cons.mpr ⟨s_icmpgtW C (by decide +kernel : decode code 23 = .ok (.if_icmp .gt 1259, 3)) (by decide) rfl rfl (cntL_le (by decide)), ?_⟩
  refine List.forall_mem_cons.mpr ⟨s_aloadX_n C (by decide +kernel : decode code 26 = .ok (.aload_n 0, 1)) rfl rfl rfl, ?_⟩
  refine List.forall_mem_cons.mpr ⟨s_iload_n C (by decide +kernel : decode code 27 = .ok (.iload_n 3, 1)) rfl rfl rfl, ?_⟩
  refine List.forall_mem_cons.mpr ⟨s_sld C hX hbl hbA hσ hL (by decide +kernel : decode code 28 = .ok (.iaload, 1)) rfl rfl, ?_⟩
  refine List.forall_mem_cons.mpr ⟨s_bipush C (by decide +kernel : decode code 29 = .ok (.bipush 63, 2)) rfl rfl (by decide), ?_⟩
  refine List.forall_mem_cons.mpr ⟨s_iand C (by decide +kernel : decode code 31 = .ok (.iand, 1)) rfl rfl, ?_⟩
  refine List.forall_mem_cons.mpr ⟨s_swW C (by decide +kernel : decode code 32 = .ok (.tableswitch 1244 0 39 #[176, 209, 242, 275, 298, 331, 364, 377, 400, 413, 426, 449, 482, 515, 538, 561, 574, 607, 620, 653, 686, 709, 722, 735, 768, 821, 854, 887, 910, 933, 982, 995, 1018, 1071, 1114, 1138, 1161, 1184, 1207, 1230], 176)) (by decide) (by decide) (by decide) (fun t => cntL_le0), ?_⟩
  exact fun _ h => absurd h List.not_mem_nil
set_option maxRecDepth 100000 in
set_option maxHeartbeats 4000000 in
theorem snd_LE {p : Program} {l : Launch} {e : Env} {s : State} {m : MethodId} {b L k : Nat} {xs : Nat → Int32} {below : List Frame} {meth : Method} {c : Code} {D : va_G} {dA : Nat → ClassId} {σ : Nat → Nat} {A : Nat → Prop} (C : em_Cx p s m #[Value.ref b] c D em_cl A 4 (em_tys dA) code "WedApartLaw") (hFok : em_Fok (em_F σ)) (hF : em_F σ A s s.heap) (hX : va_X b L xs s s.heap) (hbl : b < s.heap.size) (hbA : ¬ A b) (hσ : σ 11 = b) (hL : L < 2 ^ 31) (hkc : k ≤ 64) {X : em_L → List Value → em_H → Prop} (hXk : ∀ ls st hp, X ls st hp → em_Ok p l e room_1 s m #[Value.ref b] below meth c D em_cl dA σ A 4 (cntL (k + 1)) (fun _ => True) (lw_Z below #[Value.ref b] s) 18 ls st hp) (hr : meth.sig.returnType = ret) (hlk : meth.locks = false) (hA : ∀ q, A q → s.heap.size ≤ q) (Q : em_Q) : ∀ q ∈ T_LE X L xs, em_Snd p l e room_1 s m #[Value.ref b] below meth c D em_cl dA σ A 4 (cntL k) (fun _ => True) (lw_Z below #[Value.ref b] s) Q q.1 q.2 := by
  unfold T_LE
  refine List.forall_mem_cons.mpr ⟨s_iinc C (by decide +kernel : decode code 1276 = .ok (.iinc 3 5, 3)) rfl rfl (by decide) (by decide), ?_⟩
  refine List.forall_mem_cons.mpr ⟨s_gotoX C (by decide +kernel : decode code 1279 = .ok (.goto (-1261), 3)) (by show ((1279 : Nat) : Int) + (-1261) = ((18 : Nat) : Int); decide) cntL_up hXk, ?_⟩
  refine List.forall_mem_cons.mpr ⟨s_iconst C (by decide +kernel : decode code 1282 = .ok (.iconst 1, 1)) rfl rfl (by decide), ?_⟩
  refine List.forall_mem_cons.mpr ⟨s_lawret C (by decide +kernel : decode code 1283 = .ok (.ireturn, 1)) hr hlk hA (cntL_r hkc), ?_⟩
  exact fun _ h => absurd h List.not_mem_nil
set_option maxRecDepth 100000 in
set_option maxHeartbeats 4000000 in
theorem snd_L0 {p : Program} {l : Launch} {e : Env} {s : State} {m : MethodId} {b L k : Nat} {xs : Nat → Int32} {below : List Frame} {meth : Method} {c : Code} {D : va_G} {dA : Nat → ClassId} {σ : Nat → Nat} {A : Nat → Prop} {Z : State → Prop} (C : em_Cx p s m #[Value.ref b] c D em_cl A 4 (em_tys dA) code "WedApartLaw") (hFok : em_Fok (em_F σ)) (hF : em_F σ A s s.heap) (hX : va_X b L xs s s.heap) (hbl : b < s.heap.size) (hbA : ¬ A b) (hσ : σ 11 = b) (hL : L < 2 ^ 31) (hkc : k ≤ 64) (Q : em_Q) : ∀ q ∈ T_L0 L xs, em_Snd p l e room_1 s m #[Value.ref b] below meth c D em_cl dA σ A 4 (cntL k) (fun _ => True) Z Q q.1 q.2 := by
  unfold T_L0
  refine List.forall_mem_cons.mpr ⟨s_aload_n C (by decide +kernel : decode code 208 = .ok (.aload_n 1, 1)) rfl rfl rfl, ?_⟩
  refine List.forall_mem_cons.mpr ⟨s_aloadX_n C (by decide +kernel : decode code 209 = .ok (.aload_n 0, 1)) rfl rfl rfl, ?_⟩
  refine List.forall_mem_cons.mpr ⟨s_iload_n C (by decide +kernel : decode code 210 = .ok (.iload_n 3, 1)) rfl rfl rfl, ?_⟩
  refine List.forall_mem_cons.mpr ⟨s_iconst C (by decide +kernel : decode code 211 = .ok (.iconst 1, 1)) rfl rfl (by decide), ?_⟩
  refine List.forall_mem_cons.mpr ⟨s_iadd C (by decide +kernel : decode code 212 = .ok (.iadd, 1)) rfl rfl, ?_⟩
  refine List.forall_mem_cons.mpr ⟨s_sld C hX hbl hbA hσ hL (by decide +kernel : decode code 213 = .ok (.iaload, 1)) rfl rfl, ?_⟩
  refine List.forall_mem_cons.mpr ⟨s_aloadX_n C (by decide +kernel : decode code 214 = .ok (.aload_n 0, 1)) rfl rfl rfl, ?_⟩
  refine List.forall_mem_cons.mpr ⟨s_iload_n C (by decide +kernel : decode code 215 = .ok (.iload_n 3, 1)) rfl rfl rfl, ?_⟩
  refine List.forall_mem_cons.mpr ⟨s_iconst C (by decide +kernel : decode code 216 = .ok (.iconst 2, 1)) rfl rfl (by decide), ?_⟩
  refine List.forall_mem_cons.mpr ⟨s_iadd C (by decide +kernel : decode code 217 = .ok (.iadd, 1)) rfl rfl, ?_⟩
  refine List.forall_mem_cons.mpr ⟨s_sld C hX hbl hbA hσ hL (by decide +kernel : decode code 218 = .ok (.iaload, 1)) rfl rfl, ?_⟩
  refine List.forall_mem_cons.mpr ⟨s_callV C hFok hF (ct_X9_person l D dA σ) ⟨rfl, rfl⟩ ew177 em_cl_X9 ew174 ew175 ew176 ew1 ⟨by decide, by decide, by decide +kernel⟩ ⟨by decide, by decide⟩ (by decide +kernel : decode code 219 = .ok (.invokevirtual 13, 3)) rfl rfl (cntL_0 hkc), ?_⟩
  refine List.forall_mem_cons.mpr ⟨s_aload_n C (by decide +kernel : decode code 222 = .ok (.aload_n 2, 1)) rfl rfl rfl, ?_⟩
  refine List.forall_mem_cons.mpr ⟨s_aloadX_n C (by decide +kernel : decode code 223 = .ok (.aload_n 0, 1)) rfl rfl rfl, ?_⟩
  refine List.forall_mem_cons.mpr ⟨s_iload_n C (by decide +kernel : decode code 224 = .ok (.iload_n 3, 1)) rfl rfl rfl, ?_⟩
  refine List.forall_mem_cons.mpr ⟨s_iconst C (by decide +kernel : decode code 225 = .ok (.iconst 1, 1)) rfl rfl (by decide), ?_⟩
  refine List.forall_mem_cons.mpr ⟨s_iadd C (by decide +kernel : decode code 226 = .ok (.iadd, 1)) rfl rfl, ?_⟩
  refine List.forall_mem_cons.mpr ⟨s_sld C hX hbl hbA hσ hL (by decide +kernel : decode code 227 = .ok (.iaload, 1)) rfl rfl, ?_⟩
  refine List.forall_mem_cons.mpr ⟨s_aloadX_n C (by decide +kernel : decode code 228 = .ok (.aload_n 0, 1)) rfl rfl rfl, ?_⟩
  refine List.forall_mem_cons.mpr ⟨s_iload_n C (by decide +kernel : decode code 229 = .ok (.iload_n 3, 1)) rfl rfl rfl, ?_⟩
  refine List.forall_mem_cons.mpr ⟨s_iconst C (by decide +kernel : decode code 230 = .ok (.iconst 2, 1)) rfl rfl (by decide), ?_⟩
  refine List.forall_mem_cons.mpr ⟨s_iadd C (by decide +kernel : decode code 231 = .ok (.iadd, 1)) rfl rfl, ?_⟩
  refine List.forall_mem_cons.mpr ⟨s_sld C hX hbl hbA hσ hL (by decide +kernel : decode code 232 = .ok (.iaload, 1)) rfl rfl, ?_⟩
  refine List.forall_mem_cons.mpr ⟨s_callPV C hFok hF (ct_X10_person l D dA σ) ⟨rfl, rfl⟩ ew767 em_cl_X10 ew764 ew765 ew766 ew6 ⟨by decide, by decide, by decide +kernel⟩ ⟨by decide, by decide⟩ (by decide +kernel : decode code 233 = .ok (.invokevirtual 17, 3)) rfl rfl (cntL_0 hkc) (by decide), ?_⟩
  refine List.forall_mem_cons.mpr ⟨s_icmpeqW C (by decide +kernel : decode code 236 = .ok (.if_icmp .eq 1040, 3)) (by decide) rfl rfl (cntL_le (by decide)), ?_⟩
  refine List.forall_mem_cons.mpr ⟨s_no, ?_⟩
  refine List.forall_mem_cons.mpr ⟨s_no, ?_⟩
  exact fun _ h => absurd h List.not_mem_nil
set_option maxRecDepth 100000 in
set_option maxHeartbeats 4000000 in
theorem snd_L1 {p : Program} {l : Launch} {e : Env} {s : State} {m : MethodId} {b L k : Nat} {xs : Nat → Int32} {below : List Frame} {meth : Method} {c : Code} {D : va_G} {dA : Nat → ClassId} {σ : Nat → Nat} {A : Nat → Prop} {Z : State → Prop} (C : em_Cx p s m #[Value.ref b] c D em_cl A 4 (em_tys dA) code "WedApartLaw") (hFok : em_Fok (em_F σ)) (hF : em_F σ A s s.heap) (hX : va_X b L xs s s.heap) (hbl : b < s.heap.size) (hbA : ¬ A b) (hσ : σ 11 = b) (hL : L < 2 ^ 31) (hkc : k ≤ 64) (Q : em_Q) : ∀ q ∈ T_L1 L xs, em_Snd p l e room_1 s m #[Value.ref b] below meth c D em_cl dA σ A 4 (cntL k) (fun _ => True) Z Q q.1 q.2 := by
  unfold T_L1
  refine List.forall_mem_cons.mpr ⟨s_aload_n C (by decide +kernel : decode code 241 = .ok (.aload_n 1, 1)) rfl rfl rfl, ?_⟩
  refine List.forall_mem_cons.mpr ⟨s_aloadX_n C (by decide +kernel : decode code 242 = .ok (.aload_n 0, 1)) rfl rfl rfl, ?_⟩
  refine List.forall_mem_cons.mpr ⟨s_iload_n C (by decide +kernel : decode code 243 = .ok (.iload_n 3, 1)) rfl rfl rfl, ?_⟩
  refine List.forall_mem_cons.mpr ⟨s_iconst C (by decide +kernel : decode code 244 = .ok (.iconst 1, 1)) rfl rfl (by decide), ?_⟩
  refine List.forall_mem_cons.mpr ⟨s_iadd C (by decide +kernel : decode code 245 = .ok (.iadd, 1)) rfl rfl, ?_⟩
  refine List.forall_mem_cons.mpr ⟨s_sld C hX hbl hbA hσ hL (by decide +kernel : decode code 246 = .ok (.iaload, 1)) rfl rfl, ?_⟩
  refine List.forall_mem_cons.mpr ⟨s_aloadX_n C (by decide +kernel : decode code 247 = .ok (.aload_n 0, 1)) rfl rfl rfl, ?_⟩
  refine List.forall_mem_cons.mpr ⟨s_iload_n C (by decide +kernel : decode code 248 = .ok (.iload_n 3, 1)) rfl rfl rfl, ?_⟩
  refine List.forall_mem_cons.mpr ⟨s_iconst C (by decide +kernel : decode code 249 = .ok (.iconst 2, 1)) rfl rfl (by decide), ?_⟩
  refine List.forall_mem_cons.mpr ⟨s_iadd C (by decide +kernel : decode code 250 = .ok (.iadd, 1)) rfl rfl, ?_⟩
  refine List.forall_mem_cons.mpr ⟨s_sld C hX hbl hbA hσ hL (by decide +kernel : decode code 251 = .ok (.iaload, 1)) rfl rfl, ?_⟩
  refine List.forall_mem_cons.mpr ⟨s_callV C hFok hF (ct_X9_thinks l D dA σ) ⟨rfl, rfl⟩ ew204 em_cl_X9 ew201 ew202 ew203 ew1 ⟨by decide, by decide, by decide +kernel⟩ ⟨by decide, by decide⟩ (by decide +kernel : decode code 252 = .ok (.invokevirtual 18, 3)) rfl rfl (cntL_0 hkc), ?_⟩
  refine List.forall_mem_cons.mpr ⟨s_aload_n C (by decide +kernel : decode code 255 = .ok (.aload_n 2, 1)) rfl rfl rfl, ?_⟩
  refine List.forall_mem_cons.mpr ⟨s_aloadX_n C (by decide +kernel : decode code 256 = .ok (.aload_n 0, 1)) rfl rfl rfl, ?_⟩
  refine List.forall_mem_cons.mpr ⟨s_iload_n C (by decide +kernel : decode code 257 = .ok (.iload_n 3, 1)) rfl rfl rfl, ?_⟩
  refine List.forall_mem_cons.mpr ⟨s_iconst C (by decide +kernel : decode code 258 = .ok (.iconst 1, 1)) rfl rfl (by decide), ?_⟩
  refine List.forall_mem_cons.mpr ⟨s_iadd C (by decide +kernel : decode code 259 = .ok (.iadd, 1)) rfl rfl, ?_⟩
  refine List.forall_mem_cons.mpr ⟨s_sld C hX hbl hbA hσ hL (by decide +kernel : decode code 260 = .ok (.iaload, 1)) rfl rfl, ?_⟩
  refine List.forall_mem_cons.mpr ⟨s_aloadX_n C (by decide +kernel : decode code 261 = .ok (.aload_n 0, 1)) rfl rfl rfl, ?_⟩
  refine List.forall_mem_cons.mpr ⟨s_iload_n C (by decide +kernel : decode code 262 = .ok (.iload_n 3, 1)) rfl rfl rfl, ?_⟩
  refine List.forall_mem_cons.mpr ⟨s_iconst C (by decide +kernel : decode code 263 = .ok (.iconst 2, 1)) rfl rfl (by decide), ?_⟩
  refine List.forall_mem_cons.mpr ⟨s_iadd C (by decide +kernel : decode code 264 = .ok (.iadd, 1)) rfl rfl, ?_⟩
  refine List.forall_mem_cons.mpr ⟨s_sld C hX hbl hbA hσ hL (by decide +kernel : decode code 265 = .ok (.iaload, 1)) rfl rfl, ?_⟩
  refine List.forall_mem_cons.mpr ⟨s_callPV C hFok hF (ct_X10_thinks l D dA σ) ⟨rfl, rfl⟩ ew791 em_cl_X10 ew788 ew789 ew790 ew6 ⟨by decide, by decide, by decide +kernel⟩ ⟨by decide, by decide⟩ (by decide +kernel : decode code 266 = .ok (.invokevirtual 21, 3)) rfl rfl (cntL_0 hkc) (by decide), ?_⟩
  refine List.forall_mem_cons.mpr ⟨s_icmpeqW C (by decide +kernel : decode code 269 = .ok (.if_icmp .eq 1007, 3)) (by decide) rfl rfl (cntL_le (by decide)), ?_⟩
  refine List.forall_mem_cons.mpr ⟨s_no, ?_⟩
  refine List.forall_mem_cons.mpr ⟨s_no, ?_⟩
  exact fun _ h => absurd h List.not_mem_nil
set_option maxRecDepth 100000 in
set_option maxHeartbeats 4000000 in
theorem snd_L2 {p : Program} {l : Launch} {e : Env} {s : State} {m : MethodId} {b L k : Nat} {xs : Nat → Int32} {below : List Frame} {meth : Method} {c : Code} {D : va_G} {dA : Nat → ClassId} {σ : Nat → Nat} {A : Nat → Prop} {Z : State → Prop} (C : em_Cx p s m #[Value.ref b] c D em_cl A 4 (em_tys dA) code "WedApartLaw") (hFok : em_Fok (em_F σ)) (hF : em_F σ A s s.heap) (hX : va_X b L xs s s.heap) (hbl : b < s.heap.size) (hbA : ¬ A b) (hσ : σ 11 = b) (hL : L < 2 ^ 31) (hkc : k ≤ 64) (Q : em_Q) : ∀ q ∈ T_L2 L xs, em_Snd p l e room_1 s m #[Value.ref b] below meth c D em_cl dA σ A 4 (cntL k) (fun _ => True) Z Q q.1 q.2 := by
  unfold T_L2
  refine List.forall_mem_cons.mpr ⟨s_aload_n C (by decide +kernel : decode code 274 = .ok (.aload_n 1, 1)) rfl rfl rfl, ?_⟩
  refine List.forall_mem_cons.mpr ⟨s_aloadX_n C (by decide +kernel : decode code 275 = .ok (.aload_n 0, 1)) rfl rfl rfl, ?_⟩
  refine List.forall_mem_cons.mpr ⟨s_iload_n C (by decide +kernel : decode code 276 = .ok (.iload_n 3, 1)) rfl rfl rfl, ?_⟩
  refine List.forall_mem_cons.mpr ⟨s_iconst C (by decide +kernel : decode code 277 = .ok (.iconst 1, 1)) rfl rfl (by decide), ?_⟩
  refine List.forall_mem_cons.mpr ⟨s_iadd C (by decide +kernel : decode code 278 = .ok (.iadd, 1)) rfl rfl, ?_⟩
  refine List.forall_mem_cons.mpr ⟨s_sld C hX hbl hbA hσ hL (by decide +kernel : decode code 279 = .ok (.iaload, 1)) rfl rfl, ?_⟩
  refine List.forall_mem_cons.mpr ⟨s_aloadX_n C (by decide +kernel : decode code 280 = .ok (.aload_n 0, 1)) rfl rfl rfl, ?_⟩
  refine List.forall_mem_cons.mpr ⟨s_iload_n C (by decide +kernel : decode code 281 = .ok (.iload_n 3, 1)) rfl rfl rfl, ?_⟩
  refine List.forall_mem_cons.mpr ⟨s_iconst C (by decide +kernel : decode code 282 = .ok (.iconst 2, 1)) rfl rfl (by decide), ?_⟩
  refine List.forall_mem_cons.mpr ⟨s_iadd C (by decide +kernel : decode code 283 = .ok (.iadd, 1)) rfl rfl, ?_⟩
  refine List.forall_mem_cons.mpr ⟨s_sld C hX hbl hbA hσ hL (by decide +kernel : decode code 284 = .ok (.iaload, 1)) rfl rfl, ?_⟩
  refine List.forall_mem_cons.mpr ⟨s_callV C hFok hF (ct_X9_become l D dA σ) ⟨rfl, rfl⟩ ew220 em_cl_X9 ew217 ew218 ew219 ew1 ⟨by decide, by decide, by decide +kernel⟩ ⟨by decide, by decide⟩ (by decide +kernel : decode code 285 = .ok (.invokevirtual 22, 3)) rfl rfl (cntL_0 hkc), ?_⟩
  refine List.forall_mem_cons.mpr ⟨s_aload_n C (by decide +kernel : decode code 288 = .ok (.aload_n 2, 1)) rfl rfl rfl, ?_⟩
  refine List.forall_mem_cons.mpr ⟨s_aloadX_n C (by decide +kernel : decode code 289 = .ok (.aload_n 0, 1)) rfl rfl rfl, ?_⟩
  refine List.forall_mem_cons.mpr ⟨s_iload_n C (by decide +kernel : decode code 290 = .ok (.iload_n 3, 1)) rfl rfl rfl, ?_⟩
  refine List.forall_mem_cons.mpr ⟨s_iconst C (by decide +kernel : decode code 291 = .ok (.iconst 1, 1)) rfl rfl (by decide), ?_⟩
  refine List.forall_mem_cons.mpr ⟨s_iadd C (by decide +kernel : decode code 292 = .ok (.iadd, 1)) rfl rfl, ?_⟩
  refine List.forall_mem_cons.mpr ⟨s_sld C hX hbl hbA hσ hL (by decide +kernel : decode code 293 = .ok (.iaload, 1)) rfl rfl, ?_⟩
  refine List.forall_mem_cons.mpr ⟨s_aloadX_n C (by decide +kernel : decode code 294 = .ok (.aload_n 0, 1)) rfl rfl rfl, ?_⟩
  refine List.forall_mem_cons.mpr ⟨s_iload_n C (by decide +kernel : decode code 295 = .ok (.iload_n 3, 1)) rfl rfl rfl, ?_⟩
  refine List.forall_mem_cons.mpr ⟨s_iconst C (by decide +kernel : decode code 296 = .ok (.iconst 2, 1)) rfl rfl (by decide), ?_⟩
  refine List.forall_mem_cons.mpr ⟨s_iadd C (by decide +kernel : decode code 297 = .ok (.iadd, 1)) rfl rfl, ?_⟩
  refine List.forall_mem_cons.mpr ⟨s_sld C hX hbl hbA hσ hL (by decide +kernel : decode code 298 = .ok (.iaload, 1)) rfl rfl, ?_⟩
  refine List.forall_mem_cons.mpr ⟨s_callPV C hFok hF (ct_X10_become l D dA σ) ⟨rfl, rfl⟩ ew803 em_cl_X10 ew800 ew801 ew802 ew6 ⟨by decide, by decide, by decide +kernel⟩ ⟨by decide, by decide⟩ (by decide +kernel : decode code 299 = .ok (.invokevirtual 25, 3)) rfl rfl (cntL_0 hkc) (by decide), ?_⟩
  refine List.forall_mem_cons.mpr ⟨s_icmpeqW C (by decide +kernel : decode code 302 = .ok (.if_icmp .eq 974, 3)) (by decide) rfl rfl (cntL_le (by decide)), ?_⟩
  refine List.forall_mem_cons.mpr ⟨s_no, ?_⟩
  refine List.forall_mem_cons.mpr ⟨s_no, ?_⟩
  exact fun _ h => absurd h List.not_mem_nil
set_option maxRecDepth 100000 in
set_option maxHeartbeats 4000000 in
theorem snd_L3 {p : Program} {l : Launch} {e : Env} {s : State} {m : MethodId} {b L k : Nat} {xs : Nat → Int32} {below : List Frame} {meth : Method} {c : Code} {D : va_G} {dA : Nat → ClassId} {σ : Nat → Nat} {A : Nat → Prop} {Z : State → Prop} (C : em_Cx p s m #[Value.ref b] c D em_cl A 4 (em_tys dA) code "WedApartLaw") (hFok : em_Fok (em_F σ)) (hF : em_F σ A s s.heap) (hX : va_X b L xs s s.heap) (hbl : b < s.heap.size) (hbA : ¬ A b) (hσ : σ 11 = b) (hL : L < 2 ^ 31) (hkc : k ≤ 64) (Q : em_Q) : ∀ q ∈ T_L3 L xs, em_Snd p l e room_1 s m #[Value.ref b] below meth c D em_cl dA σ A 4 (cntL k) (fun _ => True) Z Q q.1 q.2 := by
  unfold T_L3
  refine List.forall_mem_cons.mpr ⟨s_aload_n C (by decide +kernel : decode code 307 = .ok (.aload_n 1, 1)) rfl rfl rfl, ?_⟩
  refine List.forall_mem_cons.mpr ⟨s_aloadX_n C (by decide +kernel : decode code 308 = .ok (.aload_n 0, 1)) rfl rfl rfl, ?_⟩
  refine List.forall_mem_cons.mpr ⟨s_iload_n C (by decide +kernel : decode code 309 = .ok (.iload_n 3, 1)) rfl rfl rfl, ?_⟩
  refine List.forall_mem_cons.mpr ⟨s_iconst C (by decide +kernel : decode code 310 = .ok (.iconst 1, 1)) rfl rfl (by decide), ?_⟩
  refine List.forall_mem_cons.mpr ⟨s_iadd C (by decide +kernel : decode code 311 = .ok (.iadd, 1)) rfl rfl, ?_⟩
  refine List.forall_mem_cons.mpr ⟨s_sld C hX hbl hbA hσ hL (by decide +kernel : decode code 312 = .ok (.iaload, 1)) rfl rfl, ?_⟩
  refine List.forall_mem_cons.mpr ⟨s_callV C hFok hF (ct_X9_weighty l D dA σ) ⟨rfl, rfl⟩ ew230 em_cl_X9 ew227 ew228 ew229 ew1 ⟨by decide, by decide, by decide +kernel⟩ ⟨by decide, by decide⟩ (by decide +kernel : decode code 313 = .ok (.invokevirtual 26, 3)) rfl rfl (cntL_0 hkc), ?_⟩
  refine List.forall_mem_cons.mpr ⟨s_aload_n C (by decide +kernel : decode code 316 = .ok (.aload_n 2, 1)) rfl rfl rfl, ?_⟩
  refine List.forall_mem_cons.mpr ⟨s_aloadX_n C (by decide +kernel : decode code 317 = .ok (.aload_n 0, 1)) rfl rfl rfl, ?_⟩
  refine List.forall_mem_cons.mpr ⟨s_iload_n C (by decide +kernel : decode code 318 = .ok (.iload_n 3, 1)) rfl rfl rfl, ?_⟩
  refine List.forall_mem_cons.mpr ⟨s_iconst C (by decide +kernel : decode code 319 = .ok (.iconst 1, 1)) rfl rfl (by decide), ?_⟩
  refine List.forall_mem_cons.mpr ⟨s_iadd C (by decide +kernel : decode code 320 = .ok (.iadd, 1)) rfl rfl, ?_⟩
  refine List.forall_mem_cons.mpr ⟨s_sld C hX hbl hbA hσ hL (by decide +kernel : decode code 321 = .ok (.iaload, 1)) rfl rfl, ?_⟩
  refine List.forall_mem_cons.mpr ⟨s_callPV C hFok hF (ct_X10_weighty l D dA σ) ⟨rfl, rfl⟩ ew807 em_cl_X10 ew804 ew805 ew806 ew6 ⟨by decide, by decide, by decide +kernel⟩ ⟨by decide, by decide⟩ (by decide +kernel : decode code 322 = .ok (.invokevirtual 30, 3)) rfl rfl (cntL_0 hkc) (by decide), ?_⟩
  refine List.forall_mem_cons.mpr ⟨s_icmpeqW C (by decide +kernel : decode code 325 = .ok (.if_icmp .eq 951, 3)) (by decide) rfl rfl (cntL_le (by decide)), ?_⟩
  refine List.forall_mem_cons.mpr ⟨s_no, ?_⟩
  refine List.forall_mem_cons.mpr ⟨s_no, ?_⟩
  exact fun _ h => absurd h List.not_mem_nil
set_option maxRecDepth 100000 in
set_option maxHeartbeats 4000000 in
theorem snd_L4 {p : Program} {l : Launch} {e : Env} {s : State} {m : MethodId} {b L k : Nat} {xs : Nat → Int32} {below : List Frame} {meth : Method} {c : Code} {D : va_G} {dA : Nat → ClassId} {σ : Nat → Nat} {A : Nat → Prop} {Z : State → Prop} (C : em_Cx p s m #[Value.ref b] c D em_cl A 4 (em_tys dA) code "WedApartLaw") (hFok : em_Fok (em_F σ)) (hF : em_F σ A s s.heap) (hX : va_X b L xs s s.heap) (hbl : b < s.heap.size) (hbA : ¬ A b) (hσ : σ 11 = b) (hL : L < 2 ^ 31) (hkc : k ≤ 64) (Q : em_Q) : ∀ q ∈ T_L4 L xs, em_Snd p l e room_1 s m #[Value.ref b] below meth c D em_cl dA σ A 4 (cntL k) (fun _ => True) Z Q q.1 q.2 := by
  unfold T_L4
  refine List.forall_mem_cons.mpr ⟨s_aload_n C (by decide +kernel : decode code 330 = .ok (.aload_n 1, 1)) rfl rfl rfl, ?_⟩
  refine List.forall_mem_cons.mpr ⟨s_aloadX_n C (by decide +kernel : decode code 331 = .ok (.aload_n 0, 1)) rfl rfl rfl, ?_⟩
  refine List.forall_mem_cons.mpr ⟨s_iload_n C (by decide +kernel : decode code 332 = .ok (.iload_n 3, 1)) rfl rfl rfl, ?_⟩
  refine List.forall_mem_cons.mpr ⟨s_iconst C (by decide +kernel : decode code 333 = .ok (.iconst 1, 1)) rfl rfl (by decide), ?_⟩
  refine List.forall_mem_cons.mpr ⟨s_iadd C (by decide +kernel : decode code 334 = .ok (.iadd, 1)) rfl rfl, ?_⟩
  refine List.forall_mem_cons.mpr ⟨s_sld C hX hbl hbA hσ hL (by decide +kernel : decode code 335 = .ok (.iaload, 1)) rfl rfl, ?_⟩
  refine List.forall_mem_cons.mpr ⟨s_aloadX_n C (by decide +kernel : decode code 336 = .ok (.aload_n 0, 1)) rfl rfl rfl, ?_⟩
  refine List.forall_mem_cons.mpr ⟨s_iload_n C (by decide +kernel : decode code 337 = .ok (.iload_n 3, 1)) rfl rfl rfl, ?_⟩
  refine List.forall_mem_cons.mpr ⟨s_iconst C (by decide +kernel : decode code 338 = .ok (.iconst 2, 1)) rfl rfl (by decide), ?_⟩
  refine List.forall_mem_cons.mpr ⟨s_iadd C (by decide +kernel : decode code 339 = .ok (.iadd, 1)) rfl rfl, ?_⟩
  refine List.forall_mem_cons.mpr ⟨s_sld C hX hbl hbA hσ hL (by decide +kernel : decode code 340 = .ok (.iaload, 1)) rfl rfl, ?_⟩
  refine List.forall_mem_cons.mpr ⟨s_callV C hFok hF (ct_X9_licence l D dA σ) ⟨rfl, rfl⟩ ew238 em_cl_X9 ew235 ew236 ew237 ew1 ⟨by decide, by decide, by decide +kernel⟩ ⟨by decide, by decide⟩ (by decide +kernel : decode code 341 = .ok (.invokevirtual 31, 3)) rfl rfl (cntL_0 hkc), ?_⟩
  refine List.forall_mem_cons.mpr ⟨s_aload_n C (by decide +kernel : decode code 344 = .ok (.aload_n 2, 1)) rfl rfl rfl, ?_⟩
  refine List.forall_mem_cons.mpr ⟨s_aloadX_n C (by decide +kernel : decode code 345 = .ok (.aload_n 0, 1)) rfl rfl rfl, ?_⟩
  refine List.forall_mem_cons.mpr ⟨s_iload_n C (by decide +kernel : decode code 346 = .ok (.iload_n 3, 1)) rfl rfl rfl, ?_⟩
  refine List.forall_mem_cons.mpr ⟨s_iconst C (by decide +kernel : decode code 347 = .ok (.iconst 1, 1)) rfl rfl (by decide), ?_⟩
  refine List.forall_mem_cons.mpr ⟨s_iadd C (by decide +kernel : decode code 348 = .ok (.iadd, 1)) rfl rfl, ?_⟩
  refine List.forall_mem_cons.mpr ⟨s_sld C hX hbl hbA hσ hL (by decide +kernel : decode code 349 = .ok (.iaload, 1)) rfl rfl, ?_⟩
  refine List.forall_mem_cons.mpr ⟨s_aloadX_n C (by decide +kernel : decode code 350 = .ok (.aload_n 0, 1)) rfl rfl rfl, ?_⟩
  refine List.forall_mem_cons.mpr ⟨s_iload_n C (by decide +kernel : decode code 351 = .ok (.iload_n 3, 1)) rfl rfl rfl, ?_⟩
  refine List.forall_mem_cons.mpr ⟨s_iconst C (by decide +kernel : decode code 352 = .ok (.iconst 2, 1)) rfl rfl (by decide), ?_⟩
  refine List.forall_mem_cons.mpr ⟨s_iadd C (by decide +kernel : decode code 353 = .ok (.iadd, 1)) rfl rfl, ?_⟩
  refine List.forall_mem_cons.mpr ⟨s_sld C hX hbl hbA hσ hL (by decide +kernel : decode code 354 = .ok (.iaload, 1)) rfl rfl, ?_⟩
  refine List.forall_mem_cons.mpr ⟨s_callPV C hFok hF (ct_X10_licence l D dA σ) ⟨rfl, rfl⟩ ew811 em_cl_X10 ew808 ew809 ew810 ew6 ⟨by decide, by decide, by decide +kernel⟩ ⟨by decide, by decide⟩ (by decide +kernel : decode code 355 = .ok (.invokevirtual 34, 3)) rfl rfl (cntL_0 hkc) (by decide), ?_⟩
  refine List.forall_mem_cons.mpr ⟨s_icmpeqW C (by decide +kernel : decode code 358 = .ok (.if_icmp .eq 918, 3)) (by decide) rfl rfl (cntL_le (by decide)), ?_⟩
  refine List.forall_mem_cons.mpr ⟨s_no, ?_⟩
  refine List.forall_mem_cons.mpr ⟨s_no, ?_⟩
  exact fun _ h => absurd h List.not_mem_nil
set_option maxRecDepth 100000 in
set_option maxHeartbeats 4000000 in
theorem snd_L5 {p : Program} {l : Launch} {e : Env} {s : State} {m : MethodId} {b L k : Nat} {xs : Nat → Int32} {below : List Frame} {meth : Method} {c : Code} {D : va_G} {dA : Nat → ClassId} {σ : Nat → Nat} {A : Nat → Prop} {Z : State → Prop} (C : em_Cx p s m #[Value.ref b] c D em_cl A 4 (em_tys dA) code "WedApartLaw") (hFok : em_Fok (em_F σ)) (hF : em_F σ A s s.heap) (hX : va_X b L xs s s.heap) (hbl : b < s.heap.size) (hbA : ¬ A b) (hσ : σ 11 = b) (hL : L < 2 ^ 31) (hkc : k ≤ 64) (Q : em_Q) : ∀ q ∈ T_L5 L xs, em_Snd p l e room_1 s m #[Value.ref b] below meth c D em_cl dA σ A 4 (cntL k) (fun _ => True) Z Q q.1 q.2 := by
  unfold T_L5
  refine List.forall_mem_cons.mpr ⟨s_aload_n C (by decide +kernel : decode code 363 = .ok (.aload_n 1, 1)) rfl rfl rfl, ?_⟩
  refine List.forall_mem_cons.mpr ⟨s_aloadX_n C (by decide +kernel : decode code 364 = .ok (.aload_n 0, 1)) rfl rfl rfl, ?_⟩
  refine List.forall_mem_cons.mpr ⟨s_iload_n C (by decide +kernel : decode code 365 = .ok (.iload_n 3, 1)) rfl rfl rfl, ?_⟩
  refine List.forall_mem_cons.mpr ⟨s_iconst C (by decide +kernel : decode code 366 = .ok (.iconst 1, 1)) rfl rfl (by decide), ?_⟩
  refine List.forall_mem_cons.mpr ⟨s_iadd C (by decide +kernel : decode code 367 = .ok (.iadd, 1)) rfl rfl, ?_⟩
  refine List.forall_mem_cons.mpr ⟨s_sld C hX hbl hbA hσ hL (by decide +kernel : decode code 368 = .ok (.iaload, 1)) rfl rfl, ?_⟩
  refine List.forall_mem_cons.mpr ⟨s_aloadX_n C (by decide +kernel : decode code 369 = .ok (.aload_n 0, 1)) rfl rfl rfl, ?_⟩
  refine List.forall_mem_cons.mpr ⟨s_iload_n C (by decide +kernel : decode code 370 = .ok (.iload_n 3, 1)) rfl rfl rfl, ?_⟩
  refine List.forall_mem_cons.mpr ⟨s_iconst C (by decide +kernel : decode code 371 = .ok (.iconst 2, 1)) rfl rfl (by decide), ?_⟩
  refine List.forall_mem_cons.mpr ⟨s_iadd C (by decide +kernel : decode code 372 = .ok (.iadd, 1)) rfl rfl, ?_⟩
  refine List.forall_mem_cons.mpr ⟨s_sld C hX hbl hbA hσ hL (by decide +kernel : decode code 373 = .ok (.iaload, 1)) rfl rfl, ?_⟩
  refine List.forall_mem_cons.mpr ⟨s_callV C hFok hF (ct_X9_talk l D dA σ) ⟨rfl, rfl⟩ ew246 em_cl_X9 ew243 ew244 ew245 ew1 ⟨by decide, by decide, by decide +kernel⟩ ⟨by decide, by decide⟩ (by decide +kernel : decode code 374 = .ok (.invokevirtual 35, 3)) rfl rfl (cntL_0 hkc), ?_⟩
  refine List.forall_mem_cons.mpr ⟨s_aload_n C (by decide +kernel : decode code 377 = .ok (.aload_n 2, 1)) rfl rfl rfl, ?_⟩
  refine List.forall_mem_cons.mpr ⟨s_aloadX_n C (by decide +kernel : decode code 378 = .ok (.aload_n 0, 1)) rfl rfl rfl, ?_⟩
  refine List.forall_mem_cons.mpr ⟨s_iload_n C (by decide +kernel : decode code 379 = .ok (.iload_n 3, 1)) rfl rfl rfl, ?_⟩
  refine List.forall_mem_cons.mpr ⟨s_iconst C (by decide +kernel : decode code 380 = .ok (.iconst 1, 1)) rfl rfl (by decide), ?_⟩
  refine List.forall_mem_cons.mpr ⟨s_iadd C (by decide +kernel : decode code 381 = .ok (.iadd, 1)) rfl rfl, ?_⟩
  refine List.forall_mem_cons.mpr ⟨s_sld C hX hbl hbA hσ hL (by decide +kernel : decode code 382 = .ok (.iaload, 1)) rfl rfl, ?_⟩
  refine List.forall_mem_cons.mpr ⟨s_aloadX_n C (by decide +kernel : decode code 383 = .ok (.aload_n 0, 1)) rfl rfl rfl, ?_⟩
  refine List.forall_mem_cons.mpr ⟨s_iload_n C (by decide +kernel : decode code 384 = .ok (.iload_n 3, 1)) rfl rfl rfl, ?_⟩
  refine List.forall_mem_cons.mpr ⟨s_iconst C (by decide +kernel : decode code 385 = .ok (.iconst 2, 1)) rfl rfl (by decide), ?_⟩
  refine List.forall_mem_cons.mpr ⟨s_iadd C (by decide +kernel : decode code 386 = .ok (.iadd, 1)) rfl rfl, ?_⟩
  refine List.forall_mem_cons.mpr ⟨s_sld C hX hbl hbA hσ hL (by decide +kernel : decode code 387 = .ok (.iaload, 1)) rfl rfl, ?_⟩
  refine List.forall_mem_cons.mpr ⟨s_callPV C hFok hF (ct_X10_talk l D dA σ) ⟨rfl, rfl⟩ ew816 em_cl_X10 ew813 ew814 ew815 ew6 ⟨by decide, by decide, by decide +kernel⟩ ⟨by decide, by decide⟩ (by decide +kernel : decode code 388 = .ok (.invokevirtual 38, 3)) rfl rfl (cntL_0 hkc) (by decide), ?_⟩
  refine List.forall_mem_cons.mpr ⟨s_icmpeqW C (by decide +kernel : decode code 391 = .ok (.if_icmp .eq 885, 3)) (by decide) rfl rfl (cntL_le (by decide)), ?_⟩
  refine List.forall_mem_cons.mpr ⟨s_no, ?_⟩
  refine List.forall_mem_cons.mpr ⟨s_no, ?_⟩
  exact fun _ h => absurd h List.not_mem_nil
set_option maxRecDepth 100000 in
set_option maxHeartbeats 4000000 in
theorem snd_L6 {p : Program} {l : Launch} {e : Env} {s : State} {m : MethodId} {b L k : Nat} {xs : Nat → Int32} {below : List Frame} {meth : Method} {c : Code} {D : va_G} {dA : Nat → ClassId} {σ : Nat → Nat} {A : Nat → Prop} {Z : State → Prop} (C : em_Cx p s m #[Value.ref b] c D em_cl A 4 (em_tys dA) code "WedApartLaw") (hFok : em_Fok (em_F σ)) (hF : em_F σ A s s.heap) (hX : va_X b L xs s s.heap) (hbl : b < s.heap.size) (hbA : ¬ A b) (hσ : σ 11 = b) (hL : L < 2 ^ 31) (hkc : k ≤ 64) (Q : em_Q) : ∀ q ∈ T_L6 L xs, em_Snd p l e room_1 s m #[Value.ref b] below meth c D em_cl dA σ A 4 (cntL k) (fun _ => True) Z Q q.1 q.2 := by
  unfold T_L6
  refine List.forall_mem_cons.mpr ⟨s_aload_n C (by decide +kernel : decode code 396 = .ok (.aload_n 1, 1)) rfl rfl rfl, ?_⟩
  refine List.forall_mem_cons.mpr ⟨s_callV C hFok hF (ct_X9_clean l D dA σ) ⟨rfl, rfl⟩ ew258 em_cl_X9 ew255 ew256 ew257 ew1 ⟨by decide, by decide, by decide +kernel⟩ ⟨by decide, by decide⟩ (by decide +kernel : decode code 397 = .ok (.invokevirtual 39, 3)) rfl rfl (cntL_0 hkc), ?_⟩
  refine List.forall_mem_cons.mpr ⟨s_aload_n C (by decide +kernel : decode code 400 = .ok (.aload_n 2, 1)) rfl rfl rfl, ?_⟩
  refine List.forall_mem_cons.mpr ⟨s_callPV C hFok hF (ct_X10_clean l D dA σ) ⟨rfl, rfl⟩ ew824 em_cl_X10 ew821 ew822 ew823 ew6 ⟨by decide, by decide, by decide +kernel⟩ ⟨by decide, by decide⟩ (by decide +kernel : decode code 401 = .ok (.invokevirtual 43, 3)) rfl rfl (cntL_0 hkc) (by decide), ?_⟩
  refine List.forall_mem_cons.mpr ⟨s_icmpeqW C (by decide +kernel : decode code 404 = .ok (.if_icmp .eq 872, 3)) (by decide) rfl rfl (cntL_le (by decide)), ?_⟩
  refine List.forall_mem_cons.mpr ⟨s_no, ?_⟩
  refine List.forall_mem_cons.mpr ⟨s_no, ?_⟩
  exact fun _ h => absurd h List.not_mem_nil
set_option maxRecDepth 100000 in
set_option maxHeartbeats 4000000 in
theorem snd_L7 {p : Program} {l : Launch} {e : Env} {s : State} {m : MethodId} {b L k : Nat} {xs : Nat → Int32} {below : List Frame} {meth : Method} {c : Code} {D : va_G} {dA : Nat → ClassId} {σ : Nat → Nat} {A : Nat → Prop} {Z : State → Prop} (C : em_Cx p s m #[Value.ref b] c D em_cl A 4 (em_tys dA) code "WedApartLaw") (hFok : em_Fok (em_F σ)) (hF : em_F σ A s s.heap) (hX : va_X b L xs s s.heap) (hbl : b < s.heap.size) (hbA : ¬ A b) (hσ : σ 11 = b) (hL : L < 2 ^ 31) (hkc : k ≤ 64) (Q : em_Q) : ∀ q ∈ T_L7 L xs, em_Snd p l e room_1 s m #[Value.ref b] below meth c D em_cl dA σ A 4 (cntL k) (fun _ => True) Z Q q.1 q.2 := by
  unfold T_L7
  refine List.forall_mem_cons.mpr ⟨s_aload_n C (by decide +kernel : decode code 409 = .ok (.aload_n 1, 1)) rfl rfl rfl, ?_⟩
  refine List.forall_mem_cons.mpr ⟨s_aloadX_n C (by decide +kernel : decode code 410 = .ok (.aload_n 0, 1)) rfl rfl rfl, ?_⟩
  refine List.forall_mem_cons.mpr ⟨s_iload_n C (by decide +kernel : decode code 411 = .ok (.iload_n 3, 1)) rfl rfl rfl, ?_⟩
  refine List.forall_mem_cons.mpr ⟨s_iconst C (by decide +kernel : decode code 412 = .ok (.iconst 1, 1)) rfl rfl (by decide), ?_⟩
  refine List.forall_mem_cons.mpr ⟨s_iadd C (by decide +kernel : decode code 413 = .ok (.iadd, 1)) rfl rfl, ?_⟩
  refine List.forall_mem_cons.mpr ⟨s_sld C hX hbl hbA hσ hL (by decide +kernel : decode code 414 = .ok (.iaload, 1)) rfl rfl, ?_⟩
  refine List.forall_mem_cons.mpr ⟨s_callV C hFok hF (ct_X9_type l D dA σ) ⟨rfl, rfl⟩ ew262 em_cl_X9 ew259 ew260 ew261 ew1 ⟨by decide, by decide, by decide +kernel⟩ ⟨by decide, by decide⟩ (by decide +kernel : decode code 415 = .ok (.invokevirtual 44, 3)) rfl rfl (cntL_0 hkc), ?_⟩
  refine List.forall_mem_cons.mpr ⟨s_aload_n C (by decide +kernel : decode code 418 = .ok (.aload_n 2, 1)) rfl rfl rfl, ?_⟩
  refine List.forall_mem_cons.mpr ⟨s_aloadX_n C (by decide +kernel : decode code 419 = .ok (.aload_n 0, 1)) rfl rfl rfl, ?_⟩
  refine List.forall_mem_cons.mpr ⟨s_iload_n C (by decide +kernel : decode code 420 = .ok (.iload_n 3, 1)) rfl rfl rfl, ?_⟩
  refine List.forall_mem_cons.mpr ⟨s_iconst C (by decide +kernel : decode code 421 = .ok (.iconst 1, 1)) rfl rfl (by decide), ?_⟩
  refine List.forall_mem_cons.mpr ⟨s_iadd C (by decide +kernel : decode code 422 = .ok (.iadd, 1)) rfl rfl, ?_⟩
  refine List.forall_mem_cons.mpr ⟨s_sld C hX hbl hbA hσ hL (by decide +kernel : decode code 423 = .ok (.iaload, 1)) rfl rfl, ?_⟩
  refine List.forall_mem_cons.mpr ⟨s_callPV C hFok hF (ct_X10_type l D dA σ) ⟨rfl, rfl⟩ ew828 em_cl_X10 ew825 ew826 ew827 ew6 ⟨by decide, by decide, by decide +kernel⟩ ⟨by decide, by decide⟩ (by decide +kernel : decode code 424 = .ok (.invokevirtual 47, 3)) rfl rfl (cntL_0 hkc) (by decide), ?_⟩
  refine List.forall_mem_cons.mpr ⟨s_icmpeqW C (by decide +kernel : decode code 427 = .ok (.if_icmp .eq 849, 3)) (by decide) rfl rfl (cntL_le (by decide)), ?_⟩
  refine List.forall_mem_cons.mpr ⟨s_no, ?_⟩
  refine List.forall_mem_cons.mpr ⟨s_no, ?_⟩
  exact fun _ h => absurd h List.not_mem_nil
set_option maxRecDepth 100000 in
set_option maxHeartbeats 4000000 in
theorem snd_L8 {p : Program} {l : Launch} {e : Env} {s : State} {m : MethodId} {b L k : Nat} {xs : Nat → Int32} {below : List Frame} {meth : Method} {c : Code} {D : va_G} {dA : Nat → ClassId} {σ : Nat → Nat} {A : Nat → Prop} {Z : State → Prop} (C : em_Cx p s m #[Value.ref b] c D em_cl A 4 (em_tys dA) code "WedApartLaw") (hFok : em_Fok (em_F σ)) (hF : em_F σ A s s.heap) (hX : va_X b L xs s s.heap) (hbl : b < s.heap.size) (hbA : ¬ A b) (hσ : σ 11 = b) (hL : L < 2 ^ 31) (hkc : k ≤ 64) (Q : em_Q) : ∀ q ∈ T_L8 L xs, em_Snd p l e room_1 s m #[Value.ref b] below meth c D em_cl dA σ A 4 (cntL k) (fun _ => True) Z Q q.1 q.2 := by
  unfold T_L8
  refine List.forall_mem_cons.mpr ⟨s_aload_n C (by decide +kernel : decode code 432 = .ok (.aload_n 1, 1)) rfl rfl rfl, ?_⟩
  refine List.forall_mem_cons.mpr ⟨s_callV C hFok hF (ct_X9_clear l D dA σ) ⟨rfl, rfl⟩ ew270 em_cl_X9 ew267 ew268 ew269 ew1 ⟨by decide, by decide, by decide +kernel⟩ ⟨by decide, by decide⟩ (by decide +kernel : decode code 433 = .ok (.invokevirtual 48, 3)) rfl rfl (cntL_0 hkc), ?_⟩
  refine List.forall_mem_cons.mpr ⟨s_aload_n C (by decide +kernel : decode code 436 = .ok (.aload_n 2, 1)) rfl rfl rfl, ?_⟩
  refine List.forall_mem_cons.mpr ⟨s_callPV C hFok hF (ct_X10_clear l D dA σ) ⟨rfl, rfl⟩ ew833 em_cl_X10 ew830 ew831 ew832 ew6 ⟨by decide, by decide, by decide +kernel⟩ ⟨by decide, by decide⟩ (by decide +kernel : decode code 437 = .ok (.invokevirtual 51, 3)) rfl rfl (cntL_0 hkc) (by decide), ?_⟩
  refine List.forall_mem_cons.mpr ⟨s_icmpeqW C (by decide +kernel : decode code 440 = .ok (.if_icmp .eq 836, 3)) (by decide) rfl rfl (cntL_le (by decide)), ?_⟩
  refine List.forall_mem_cons.mpr ⟨s_no, ?_⟩
  refine List.forall_mem_cons.mpr ⟨s_no, ?_⟩
  exact fun _ h => absurd h List.not_mem_nil
set_option maxRecDepth 100000 in
set_option maxHeartbeats 4000000 in
theorem snd_L9 {p : Program} {l : Launch} {e : Env} {s : State} {m : MethodId} {b L k : Nat} {xs : Nat → Int32} {below : List Frame} {meth : Method} {c : Code} {D : va_G} {dA : Nat → ClassId} {σ : Nat → Nat} {A : Nat → Prop} {Z : State → Prop} (C : em_Cx p s m #[Value.ref b] c D em_cl A 4 (em_tys dA) code "WedApartLaw") (hFok : em_Fok (em_F σ)) (hF : em_F σ A s s.heap) (hX : va_X b L xs s s.heap) (hbl : b < s.heap.size) (hbA : ¬ A b) (hσ : σ 11 = b) (hL : L < 2 ^ 31) (hkc : k ≤ 64) (Q : em_Q) : ∀ q ∈ T_L9 L xs, em_Snd p l e room_1 s m #[Value.ref b] below meth c D em_cl dA σ A 4 (cntL k) (fun _ => True) Z Q q.1 q.2 := by
  unfold T_L9
  refine List.forall_mem_cons.mpr ⟨s_aload_n C (by decide +kernel : decode code 445 = .ok (.aload_n 1, 1)) rfl rfl rfl, ?_⟩
  refine List.forall_mem_cons.mpr ⟨s_callV C hFok hF (ct_X9_read l D dA σ) ⟨rfl, rfl⟩ ew274 em_cl_X9 ew271 ew272 ew273 ew1 ⟨by decide, by decide, by decide +kernel⟩ ⟨by decide, by decide⟩ (by decide +kernel : decode code 446 = .ok (.invokevirtual 52, 3)) rfl rfl (cntL_0 hkc), ?_⟩
  refine List.forall_mem_cons.mpr ⟨s_aload_n C (by decide +kernel : decode code 449 = .ok (.aload_n 2, 1)) rfl rfl rfl, ?_⟩
  refine List.forall_mem_cons.mpr ⟨s_callPV C hFok hF (ct_X10_read l D dA σ) ⟨rfl, rfl⟩ ew837 em_cl_X10 ew834 ew835 ew836 ew6 ⟨by decide, by decide, by decide +kernel⟩ ⟨by decide, by decide⟩ (by decide +kernel : decode code 450 = .ok (.invokevirtual 55, 3)) rfl rfl (cntL_0 hkc) (by decide), ?_⟩
  refine List.forall_mem_cons.mpr ⟨s_icmpeqW C (by decide +kernel : decode code 453 = .ok (.if_icmp .eq 823, 3)) (by decide) rfl rfl (cntL_le (by decide)), ?_⟩
  refine List.forall_mem_cons.mpr ⟨s_no, ?_⟩
  refine List.forall_mem_cons.mpr ⟨s_no, ?_⟩
  exact fun _ h => absurd h List.not_mem_nil
