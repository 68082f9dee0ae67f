/-! ===== the law's rows are sound (4) ===== -/
set_option maxRecDepth 100000 in
set_option maxHeartbeats 4000000 in
theorem snd_L30 {p : Program} {l : Launch} {e : Env} {s : State} {m : MethodId} {b L k : Nat} {xs : Nat → Int32} {below : List Frame} {meth : Method} {c : Code} {D : va_G} {dA : Nat → ClassId} {σ : Nat → Nat} {A : Nat → Prop} {Z : State → Prop} (C : em_Cx p s m #[Value.ref b] c D em_cl A 4 (em_tys dA) code "WedApartLaw") (hFok : em_Fok (em_F σ)) (hF : em_F σ A s s.heap) (hX : va_X b L xs s s.heap) (hbl : b < s.heap.size) (hbA : ¬ A b) (hσ : σ 11 = b) (hL : L < 2 ^ 31) (hkc : k ≤ 64) (Q : em_Q) : ∀ q ∈ T_L30 L xs, em_Snd p l e room_1 s m #[Value.ref b] below meth c D em_cl dA σ A 4 (cntL k) (fun _ => True) Z Q q.1 q.2 := by
  unfold T_L30
  refine List.forall_mem_cons.mpr ⟨s_aload_n C (by decide +kernel : decode code 1014 = .ok (.aload_n 1, 1)) rfl rfl rfl, ?_⟩
  refine List.forall_mem_cons.mpr ⟨s_callV C hFok hF (ct_X9_burn l D dA σ) ⟨rfl, rfl⟩ ew615 em_cl_X9 ew612 ew613 ew614 ew1 ⟨by decide, by decide, by decide +kernel⟩ ⟨by decide, by decide⟩ (by decide +kernel : decode code 1015 = .ok (.invokevirtual 138, 3)) rfl rfl (cntL_0 hkc), ?_⟩
  refine List.forall_mem_cons.mpr ⟨s_aload_n C (by decide +kernel : decode code 1018 = .ok (.aload_n 2, 1)) rfl rfl rfl, ?_⟩
  refine List.forall_mem_cons.mpr ⟨s_callPV C hFok hF (ct_X10_burn l D dA σ) ⟨rfl, rfl⟩ ew1024 em_cl_X10 ew1021 ew1022 ew1023 ew6 ⟨by decide, by decide, by decide +kernel⟩ ⟨by decide, by decide⟩ (by decide +kernel : decode code 1019 = .ok (.invokevirtual 141, 3)) rfl rfl (cntL_0 hkc) (by decide), ?_⟩
  refine List.forall_mem_cons.mpr ⟨s_icmpeqW C (by decide +kernel : decode code 1022 = .ok (.if_icmp .eq 254, 3)) (by decide) rfl rfl (cntL_le (by decide)), ?_⟩
  refine List.forall_mem_cons.mpr ⟨s_no, ?_⟩
  refine List.forall_mem_cons.mpr ⟨s_no, ?_⟩
  exact fun _ h => absurd h List.not_mem_nil
set_option maxRecDepth 100000 in
set_option maxHeartbeats 4000000 in
theorem snd_L31 {p : Program} {l : Launch} {e : Env} {s : State} {m : MethodId} {b L k : Nat} {xs : Nat → Int32} {below : List Frame} {meth : Method} {c : Code} {D : va_G} {dA : Nat → ClassId} {σ : Nat → Nat} {A : Nat → Prop} {Z : State → Prop} (C : em_Cx p s m #[Value.ref b] c D em_cl A 4 (em_tys dA) code "WedApartLaw") (hFok : em_Fok (em_F σ)) (hF : em_F σ A s s.heap) (hX : va_X b L xs s s.heap) (hbl : b < s.heap.size) (hbA : ¬ A b) (hσ : σ 11 = b) (hL : L < 2 ^ 31) (hkc : k ≤ 64) (Q : em_Q) : ∀ q ∈ T_L31 L xs, em_Snd p l e room_1 s m #[Value.ref b] below meth c D em_cl dA σ A 4 (cntL k) (fun _ => True) Z Q q.1 q.2 := by
  unfold T_L31
  refine List.forall_mem_cons.mpr ⟨s_aload_n C (by decide +kernel : decode code 1027 = .ok (.aload_n 1, 1)) rfl rfl rfl, ?_⟩
  refine List.forall_mem_cons.mpr ⟨s_aloadX_n C (by decide +kernel : decode code 1028 = .ok (.aload_n 0, 1)) rfl rfl rfl, ?_⟩
  refine List.forall_mem_cons.mpr ⟨s_iload_n C (by decide +kernel : decode code 1029 = .ok (.iload_n 3, 1)) rfl rfl rfl, ?_⟩
  refine List.forall_mem_cons.mpr ⟨s_iconst C (by decide +kernel : decode code 1030 = .ok (.iconst 1, 1)) rfl rfl (by decide), ?_⟩
  refine List.forall_mem_cons.mpr ⟨s_iadd C (by decide +kernel : decode code 1031 = .ok (.iadd, 1)) rfl rfl, ?_⟩
  refine List.forall_mem_cons.mpr ⟨s_sld C hX hbl hbA hσ hL (by decide +kernel : decode code 1032 = .ok (.iaload, 1)) rfl rfl, ?_⟩
  refine List.forall_mem_cons.mpr ⟨s_callV C hFok hF (ct_X9_law l D dA σ) ⟨rfl, rfl⟩ ew619 em_cl_X9 ew616 ew617 ew618 ew1 ⟨by decide, by decide, by decide +kernel⟩ ⟨by decide, by decide⟩ (by decide +kernel : decode code 1033 = .ok (.invokevirtual 142, 3)) rfl rfl (cntL_0 hkc), ?_⟩
  refine List.forall_mem_cons.mpr ⟨s_aload_n C (by decide +kernel : decode code 1036 = .ok (.aload_n 2, 1)) rfl rfl rfl, ?_⟩
  refine List.forall_mem_cons.mpr ⟨s_aloadX_n C (by decide +kernel : decode code 1037 = .ok (.aload_n 0, 1)) rfl rfl rfl, ?_⟩
  refine List.forall_mem_cons.mpr ⟨s_iload_n C (by decide +kernel : decode code 1038 = .ok (.iload_n 3, 1)) rfl rfl rfl, ?_⟩
  refine List.forall_mem_cons.mpr ⟨s_iconst C (by decide +kernel : decode code 1039 = .ok (.iconst 1, 1)) rfl rfl (by decide), ?_⟩
  refine List.forall_mem_cons.mpr ⟨s_iadd C (by decide +kernel : decode code 1040 = .ok (.iadd, 1)) rfl rfl, ?_⟩
  refine List.forall_mem_cons.mpr ⟨s_sld C hX hbl hbA hσ hL (by decide +kernel : decode code 1041 = .ok (.iaload, 1)) rfl rfl, ?_⟩
  refine List.forall_mem_cons.mpr ⟨s_callPV C hFok hF (ct_X10_law l D dA σ) ⟨rfl, rfl⟩ ew1028 em_cl_X10 ew1025 ew1026 ew1027 ew6 ⟨by decide, by decide, by decide +kernel⟩ ⟨by decide, by decide⟩ (by decide +kernel : decode code 1042 = .ok (.invokevirtual 145, 3)) rfl rfl (cntL_0 hkc) (by decide), ?_⟩
  refine List.forall_mem_cons.mpr ⟨s_icmpeqW C (by decide +kernel : decode code 1045 = .ok (.if_icmp .eq 231, 3)) (by decide) rfl rfl (cntL_le (by decide)), ?_⟩
  refine List.forall_mem_cons.mpr ⟨s_no, ?_⟩
  refine List.forall_mem_cons.mpr ⟨s_no, ?_⟩
  exact fun _ h => absurd h List.not_mem_nil
set_option maxRecDepth 100000 in
set_option maxHeartbeats 4000000 in
theorem snd_L32 {p : Program} {l : Launch} {e : Env} {s : State} {m : MethodId} {b L k : Nat} {xs : Nat → Int32} {below : List Frame} {meth : Method} {c : Code} {D : va_G} {dA : Nat → ClassId} {σ : Nat → Nat} {A : Nat → Prop} {Z : State → Prop} (C : em_Cx p s m #[Value.ref b] c D em_cl A 4 (em_tys dA) code "WedApartLaw") (hFok : em_Fok (em_F σ)) (hF : em_F σ A s s.heap) (hX : va_X b L xs s s.heap) (hbl : b < s.heap.size) (hbA : ¬ A b) (hσ : σ 11 = b) (hL : L < 2 ^ 31) (hkc : k ≤ 64) (Q : em_Q) : ∀ q ∈ T_L32 L xs, em_Snd p l e room_1 s m #[Value.ref b] below meth c D em_cl dA σ A 4 (cntL k) (fun _ => True) Z Q q.1 q.2 := by
  unfold T_L32
  refine List.forall_mem_cons.mpr ⟨s_aload_n C (by decide +kernel : decode code 1050 = .ok (.aload_n 1, 1)) rfl rfl rfl, ?_⟩
  refine List.forall_mem_cons.mpr ⟨s_aloadX_n C (by decide +kernel : decode code 1051 = .ok (.aload_n 0, 1)) rfl rfl rfl, ?_⟩
  refine List.forall_mem_cons.mpr ⟨s_iload_n C (by decide +kernel : decode code 1052 = .ok (.iload_n 3, 1)) rfl rfl rfl, ?_⟩
  refine List.forall_mem_cons.mpr ⟨s_iconst C (by decide +kernel : decode code 1053 = .ok (.iconst 1, 1)) rfl rfl (by decide), ?_⟩
  refine List.forall_mem_cons.mpr ⟨s_iadd C (by decide +kernel : decode code 1054 = .ok (.iadd, 1)) rfl rfl, ?_⟩
  refine List.forall_mem_cons.mpr ⟨s_sld C hX hbl hbA hσ hL (by decide +kernel : decode code 1055 = .ok (.iaload, 1)) rfl rfl, ?_⟩
  refine List.forall_mem_cons.mpr ⟨s_aloadX_n C (by decide +kernel : decode code 1056 = .ok (.aload_n 0, 1)) rfl rfl rfl, ?_⟩
  refine List.forall_mem_cons.mpr ⟨s_iload_n C (by decide +kernel : decode code 1057 = .ok (.iload_n 3, 1)) rfl rfl rfl, ?_⟩
  refine List.forall_mem_cons.mpr ⟨s_iconst C (by decide +kernel : decode code 1058 = .ok (.iconst 2, 1)) rfl rfl (by decide), ?_⟩
  refine List.forall_mem_cons.mpr ⟨s_iadd C (by decide +kernel : decode code 1059 = .ok (.iadd, 1)) rfl rfl, ?_⟩
  refine List.forall_mem_cons.mpr ⟨s_sld C hX hbl hbA hσ hL (by decide +kernel : decode code 1060 = .ok (.iaload, 1)) rfl rfl, ?_⟩
  refine List.forall_mem_cons.mpr ⟨s_aloadX_n C (by decide +kernel : decode code 1061 = .ok (.aload_n 0, 1)) rfl rfl rfl, ?_⟩
  refine List.forall_mem_cons.mpr ⟨s_iload_n C (by decide +kernel : decode code 1062 = .ok (.iload_n 3, 1)) rfl rfl rfl, ?_⟩
  refine List.forall_mem_cons.mpr ⟨s_iconst C (by decide +kernel : decode code 1063 = .ok (.iconst 3, 1)) rfl rfl (by decide), ?_⟩
  refine List.forall_mem_cons.mpr ⟨s_iadd C (by decide +kernel : decode code 1064 = .ok (.iadd, 1)) rfl rfl, ?_⟩
  refine List.forall_mem_cons.mpr ⟨s_sld C hX hbl hbA hσ hL (by decide +kernel : decode code 1065 = .ok (.iaload, 1)) rfl rfl, ?_⟩
  refine List.forall_mem_cons.mpr ⟨s_aloadX_n C (by decide +kernel : decode code 1066 = .ok (.aload_n 0, 1)) rfl rfl rfl, ?_⟩
  refine List.forall_mem_cons.mpr ⟨s_iload_n C (by decide +kernel : decode code 1067 = .ok (.iload_n 3, 1)) rfl rfl rfl, ?_⟩
  refine List.forall_mem_cons.mpr ⟨s_iconst C (by decide +kernel : decode code 1068 = .ok (.iconst 4, 1)) rfl rfl (by decide), ?_⟩
  refine List.forall_mem_cons.mpr ⟨s_iadd C (by decide +kernel : decode code 1069 = .ok (.iadd, 1)) rfl rfl, ?_⟩
  refine List.forall_mem_cons.mpr ⟨s_sld C hX hbl hbA hσ hL (by decide +kernel : decode code 1070 = .ok (.iaload, 1)) rfl rfl, ?_⟩
  refine List.forall_mem_cons.mpr ⟨s_callV C hFok hF (ct_X9_child l D dA σ) ⟨rfl, rfl⟩ ew627 em_cl_X9 ew624 ew625 ew626 ew1 ⟨by decide, by decide, by decide +kernel⟩ ⟨by decide, by decide⟩ (by decide +kernel : decode code 1071 = .ok (.invokevirtual 146, 3)) rfl rfl (cntL_0 hkc), ?_⟩
  refine List.forall_mem_cons.mpr ⟨s_aload_n C (by decide +kernel : decode code 1074 = .ok (.aload_n 2, 1)) rfl rfl rfl, ?_⟩
  refine List.forall_mem_cons.mpr ⟨s_aloadX_n C (by decide +kernel : decode code 1075 = .ok (.aload_n 0, 1)) rfl rfl rfl, ?_⟩
  refine List.forall_mem_cons.mpr ⟨s_iload_n C (by decide +kernel : decode code 1076 = .ok (.iload_n 3, 1)) rfl rfl rfl, ?_⟩
  refine List.forall_mem_cons.mpr ⟨s_iconst C (by decide +kernel : decode code 1077 = .ok (.iconst 1, 1)) rfl rfl (by decide), ?_⟩
  refine List.forall_mem_cons.mpr ⟨s_iadd C (by decide +kernel : decode code 1078 = .ok (.iadd, 1)) rfl rfl, ?_⟩
  refine List.forall_mem_cons.mpr ⟨s_sld C hX hbl hbA hσ hL (by decide +kernel : decode code 1079 = .ok (.iaload, 1)) rfl rfl, ?_⟩
  refine List.forall_mem_cons.mpr ⟨s_aloadX_n C (by decide +kernel : decode code 1080 = .ok (.aload_n 0, 1)) rfl rfl rfl, ?_⟩
  refine List.forall_mem_cons.mpr ⟨s_iload_n C (by decide +kernel : decode code 1081 = .ok (.iload_n 3, 1)) rfl rfl rfl, ?_⟩
  refine List.forall_mem_cons.mpr ⟨s_iconst C (by decide +kernel : decode code 1082 = .ok (.iconst 2, 1)) rfl rfl (by decide), ?_⟩
  refine List.forall_mem_cons.mpr ⟨s_iadd C (by decide +kernel : decode code 1083 = .ok (.iadd, 1)) rfl rfl, ?_⟩
  refine List.forall_mem_cons.mpr ⟨s_sld C hX hbl hbA hσ hL (by decide +kernel : decode code 1084 = .ok (.iaload, 1)) rfl rfl, ?_⟩
  refine List.forall_mem_cons.mpr ⟨s_aloadX_n C (by decide +kernel : decode code 1085 = .ok (.aload_n 0, 1)) rfl rfl rfl, ?_⟩
  refine List.forall_mem_cons.mpr ⟨s_iload_n C (by decide +kernel : decode code 1086 = .ok (.iload_n 3, 1)) rfl rfl rfl, ?_⟩
  refine List.forall_mem_cons.mpr ⟨s_iconst C (by decide +kernel : decode code 1087 = .ok (.iconst 3, 1)) rfl rfl (by decide), ?_⟩
  refine List.forall_mem_cons.mpr ⟨s_iadd C (by decide +kernel : decode code 1088 = .ok (.iadd, 1)) rfl rfl, ?_⟩
  refine List.forall_mem_cons.mpr ⟨s_sld C hX hbl hbA hσ hL (by decide +kernel : decode code 1089 = .ok (.iaload, 1)) rfl rfl, ?_⟩
  refine List.forall_mem_cons.mpr ⟨s_aloadX_n C (by decide +kernel : decode code 1090 = .ok (.aload_n 0, 1)) rfl rfl rfl, ?_⟩
  refine List.forall_mem_cons.mpr ⟨s_iload_n C (by decide +kernel : decode code 1091 = .ok (.iload_n 3, 1)) rfl rfl rfl, ?_⟩
  refine List.forall_mem_cons.mpr ⟨s_iconst C (by decide +kernel : decode code 1092 = .ok (.iconst 4, 1)) rfl rfl (by decide), ?_⟩
  refine List.forall_mem_cons.mpr ⟨s_iadd C (by decide +kernel : decode code 1093 = .ok (.iadd, 1)) rfl rfl, ?_⟩
  refine List.forall_mem_cons.mpr ⟨s_sld C hX hbl hbA hσ hL (by decide +kernel : decode code 1094 = .ok (.iaload, 1)) rfl rfl, ?_⟩
  refine List.forall_mem_cons.mpr ⟨s_callPV C hFok hF (ct_X10_child l D dA σ) ⟨rfl, rfl⟩ ew1032 em_cl_X10 ew1029 ew1030 ew1031 ew6 ⟨by decide, by decide, by decide +kernel⟩ ⟨by decide, by decide⟩ (by decide +kernel : decode code 1095 = .ok (.invokevirtual 149, 3)) rfl rfl (cntL_0 hkc) (by decide), ?_⟩
  refine List.forall_mem_cons.mpr ⟨s_icmpeqW C (by decide +kernel : decode code 1098 = .ok (.if_icmp .eq 178, 3)) (by decide) rfl rfl (cntL_le (by decide)), ?_⟩
  refine List.forall_mem_cons.mpr ⟨s_no, ?_⟩
  refine List.forall_mem_cons.mpr ⟨s_no, ?_⟩
  exact fun _ h => absurd h List.not_mem_nil
set_option maxRecDepth 100000 in
set_option maxHeartbeats 4000000 in
theorem snd_L33 {p : Program} {l : Launch} {e : Env} {s : State} {m : MethodId} {b L k : Nat} {xs : Nat → Int32} {below : List Frame} {meth : Method} {c : Code} {D : va_G} {dA : Nat → ClassId} {σ : Nat → Nat} {A : Nat → Prop} {Z : State → Prop} (C : em_Cx p s m #[Value.ref b] c D em_cl A 4 (em_tys dA) code "WedApartLaw") (hFok : em_Fok (em_F σ)) (hF : em_F σ A s s.heap) (hX : va_X b L xs s s.heap) (hbl : b < s.heap.size) (hbA : ¬ A b) (hσ : σ 11 = b) (hL : L < 2 ^ 31) (hkc : k ≤ 64) (Q : em_Q) : ∀ q ∈ T_L33 L xs, em_Snd p l e room_1 s m #[Value.ref b] below meth c D em_cl dA σ A 4 (cntL k) (fun _ => True) Z Q q.1 q.2 := by
  unfold T_L33
  refine List.forall_mem_cons.mpr ⟨s_aload_n C (by decide +kernel : decode code 1103 = .ok (.aload_n 1, 1)) rfl rfl rfl, ?_⟩
  refine List.forall_mem_cons.mpr ⟨s_aloadX_n C (by decide +kernel : decode code 1104 = .ok (.aload_n 0, 1)) rfl rfl rfl, ?_⟩
  refine List.forall_mem_cons.mpr ⟨s_iload_n C (by decide +kernel : decode code 1105 = .ok (.iload_n 3, 1)) rfl rfl rfl, ?_⟩
  refine List.forall_mem_cons.mpr ⟨s_iconst C (by decide +kernel : decode code 1106 = .ok (.iconst 1, 1)) rfl rfl (by decide), ?_⟩
  refine List.forall_mem_cons.mpr ⟨s_iadd C (by decide +kernel : decode code 1107 = .ok (.iadd, 1)) rfl rfl, ?_⟩
  refine List.forall_mem_cons.mpr ⟨s_sld C hX hbl hbA hσ hL (by decide +kernel : decode code 1108 = .ok (.iaload, 1)) rfl rfl, ?_⟩
  refine List.forall_mem_cons.mpr ⟨s_aloadX_n C (by decide +kernel : decode code 1109 = .ok (.aload_n 0, 1)) rfl rfl rfl, ?_⟩
  refine List.forall_mem_cons.mpr ⟨s_iload_n C (by decide +kernel : decode code 1110 = .ok (.iload_n 3, 1)) rfl rfl rfl, ?_⟩
  refine List.forall_mem_cons.mpr ⟨s_iconst C (by decide +kernel : decode code 1111 = .ok (.iconst 2, 1)) rfl rfl (by decide), ?_⟩
  refine List.forall_mem_cons.mpr ⟨s_iadd C (by decide +kernel : decode code 1112 = .ok (.iadd, 1)) rfl rfl, ?_⟩
  refine List.forall_mem_cons.mpr ⟨s_sld C hX hbl hbA hσ hL (by decide +kernel : decode code 1113 = .ok (.iaload, 1)) rfl rfl, ?_⟩
  refine List.forall_mem_cons.mpr ⟨s_aloadX_n C (by decide +kernel : decode code 1114 = .ok (.aload_n 0, 1)) rfl rfl rfl, ?_⟩
  refine List.forall_mem_cons.mpr ⟨s_iload_n C (by decide +kernel : decode code 1115 = .ok (.iload_n 3, 1)) rfl rfl rfl, ?_⟩
  refine List.forall_mem_cons.mpr ⟨s_iconst C (by decide +kernel : decode code 1116 = .ok (.iconst 3, 1)) rfl rfl (by decide), ?_⟩
  refine List.forall_mem_cons.mpr ⟨s_iadd C (by decide +kernel : decode code 1117 = .ok (.iadd, 1)) rfl rfl, ?_⟩
  refine List.forall_mem_cons.mpr ⟨s_sld C hX hbl hbA hσ hL (by decide +kernel : decode code 1118 = .ok (.iaload, 1)) rfl rfl, ?_⟩
  refine List.forall_mem_cons.mpr ⟨s_callV C hFok hF (ct_X9_born l D dA σ) ⟨rfl, rfl⟩ ew635 em_cl_X9 ew632 ew633 ew634 ew1 ⟨by decide, by decide, by decide +kernel⟩ ⟨by decide, by decide⟩ (by decide +kernel : decode code 1119 = .ok (.invokevirtual 150, 3)) rfl rfl (cntL_0 hkc), ?_⟩
  refine List.forall_mem_cons.mpr ⟨s_aload_n C (by decide +kernel : decode code 1122 = .ok (.aload_n 2, 1)) rfl rfl rfl, ?_⟩
  refine List.forall_mem_cons.mpr ⟨s_aloadX_n C (by decide +kernel : decode code 1123 = .ok (.aload_n 0, 1)) rfl rfl rfl, ?_⟩
  refine List.forall_mem_cons.mpr ⟨s_iload_n C (by decide +kernel : decode code 1124 = .ok (.iload_n 3, 1)) rfl rfl rfl, ?_⟩
  refine List.forall_mem_cons.mpr ⟨s_iconst C (by decide +kernel : decode code 1125 = .ok (.iconst 1, 1)) rfl rfl (by decide), ?_⟩
  refine List.forall_mem_cons.mpr ⟨s_iadd C (by decide +kernel : decode code 1126 = .ok (.iadd, 1)) rfl rfl, ?_⟩
  refine List.forall_mem_cons.mpr ⟨s_sld C hX hbl hbA hσ hL (by decide +kernel : decode code 1127 = .ok (.iaload, 1)) rfl rfl, ?_⟩
  refine List.forall_mem_cons.mpr ⟨s_aloadX_n C (by decide +kernel : decode code 1128 = .ok (.aload_n 0, 1)) rfl rfl rfl, ?_⟩
  refine List.forall_mem_cons.mpr ⟨s_iload_n C (by decide +kernel : decode code 1129 = .ok (.iload_n 3, 1)) rfl rfl rfl, ?_⟩
  refine List.forall_mem_cons.mpr ⟨s_iconst C (by decide +kernel : decode code 1130 = .ok (.iconst 2, 1)) rfl rfl (by decide), ?_⟩
  refine List.forall_mem_cons.mpr ⟨s_iadd C (by decide +kernel : decode code 1131 = .ok (.iadd, 1)) rfl rfl, ?_⟩
  refine List.forall_mem_cons.mpr ⟨s_sld C hX hbl hbA hσ hL (by decide +kernel : decode code 1132 = .ok (.iaload, 1)) rfl rfl, ?_⟩
  refine List.forall_mem_cons.mpr ⟨s_aloadX_n C (by decide +kernel : decode code 1133 = .ok (.aload_n 0, 1)) rfl rfl rfl, ?_⟩
  refine List.forall_mem_cons.mpr ⟨s_iload_n C (by decide +kernel : decode code 1134 = .ok (.iload_n 3, 1)) rfl rfl rfl, ?_⟩
  refine List.forall_mem_cons.mpr ⟨s_iconst C (by decide +kernel : decode code 1135 = .ok (.iconst 3, 1)) rfl rfl (by decide), ?_⟩
  refine List.forall_mem_cons.mpr ⟨s_iadd C (by decide +kernel : decode code 1136 = .ok (.iadd, 1)) rfl rfl, ?_⟩
  refine List.forall_mem_cons.mpr ⟨s_sld C hX hbl hbA hσ hL (by decide +kernel : decode code 1137 = .ok (.iaload, 1)) rfl rfl, ?_⟩
  refine List.forall_mem_cons.mpr ⟨s_callPV C hFok hF (ct_X10_born l D dA σ) ⟨rfl, rfl⟩ ew1039 em_cl_X10 ew1036 ew1037 ew1038 ew6 ⟨by decide, by decide, by decide +kernel⟩ ⟨by decide, by decide⟩ (by decide +kernel : decode code 1138 = .ok (.invokevirtual 154, 3)) rfl rfl (cntL_0 hkc) (by decide), ?_⟩
  refine List.forall_mem_cons.mpr ⟨s_icmpeqW C (by decide +kernel : decode code 1141 = .ok (.if_icmp .eq 135, 3)) (by decide) rfl rfl (cntL_le (by decide)), ?_⟩
  refine List.forall_mem_cons.mpr ⟨s_no, ?_⟩
  refine List.forall_mem_cons.mpr ⟨s_no, ?_⟩
  exact fun _ h => absurd h List.not_mem_nil
set_option maxRecDepth 100000 in
set_option maxHeartbeats 4000000 in
theorem snd_L34 {p : Program} {l : Launch} {e : Env} {s : State} {m : MethodId} {b L k : Nat} {xs : Nat → Int32} {below : List Frame} {meth : Method} {c : Code} {D : va_G} {dA : Nat → ClassId} {σ : Nat → Nat} {A : Nat → Prop} {Z : State → Prop} (C : em_Cx p s m #[Value.ref b] c D em_cl A 4 (em_tys dA) code "WedApartLaw") (hFok : em_Fok (em_F σ)) (hF : em_F σ A s s.heap) (hX : va_X b L xs s s.heap) (hbl : b < s.heap.size) (hbA : ¬ A b) (hσ : σ 11 = b) (hL : L < 2 ^ 31) (hkc : k ≤ 64) (Q : em_Q) : ∀ q ∈ T_L34 L xs, em_Snd p l e room_1 s m #[Value.ref b] below meth c D em_cl dA σ A 4 (cntL k) (fun _ => True) Z Q q.1 q.2 := by
  unfold T_L34
  refine List.forall_mem_cons.mpr ⟨s_aload_n C (by decide +kernel : decode code 1146 = .ok (.aload_n 1, 1)) rfl rfl rfl, ?_⟩
  refine List.forall_mem_cons.mpr ⟨s_aloadX_n C (by decide +kernel : decode code 1147 = .ok (.aload_n 0, 1)) rfl rfl rfl, ?_⟩
  refine List.forall_mem_cons.mpr ⟨s_iload_n C (by decide +kernel : decode code 1148 = .ok (.iload_n 3, 1)) rfl rfl rfl, ?_⟩
  refine List.forall_mem_cons.mpr ⟨s_iconst C (by decide +kernel : decode code 1149 = .ok (.iconst 1, 1)) rfl rfl (by decide), ?_⟩
  refine List.forall_mem_cons.mpr ⟨s_iadd C (by decide +kernel : decode code 1150 = .ok (.iadd, 1)) rfl rfl, ?_⟩
  refine List.forall_mem_cons.mpr ⟨s_sld C hX hbl hbA hσ hL (by decide +kernel : decode code 1151 = .ok (.iaload, 1)) rfl rfl, ?_⟩
  refine List.forall_mem_cons.mpr ⟨s_callV C hFok hF (ct_X9_part l D dA σ) ⟨rfl, rfl⟩ ew645 em_cl_X9 ew642 ew643 ew644 ew1 ⟨by decide, by decide, by decide +kernel⟩ ⟨by decide, by decide⟩ (by decide +kernel : decode code 1152 = .ok (.invokevirtual 155, 3)) rfl rfl (cntL_0 hkc), ?_⟩
  refine List.forall_mem_cons.mpr ⟨s_aload_n C (by decide +kernel : decode code 1155 = .ok (.aload_n 2, 1)) rfl rfl rfl, ?_⟩
  refine List.forall_mem_cons.mpr ⟨s_aloadX_n C (by decide +kernel : decode code 1156 = .ok (.aload_n 0, 1)) rfl rfl rfl, ?_⟩
  refine List.forall_mem_cons.mpr ⟨s_iload_n C (by decide +kernel : decode code 1157 = .ok (.iload_n 3, 1)) rfl rfl rfl, ?_⟩
  refine List.forall_mem_cons.mpr ⟨s_iconst C (by decide +kernel : decode code 1158 = .ok (.iconst 1, 1)) rfl rfl (by decide), ?_⟩
  refine List.forall_mem_cons.mpr ⟨s_iadd C (by decide +kernel : decode code 1159 = .ok (.iadd, 1)) rfl rfl, ?_⟩
  refine List.forall_mem_cons.mpr ⟨s_sld C hX hbl hbA hσ hL (by decide +kernel : decode code 1160 = .ok (.iaload, 1)) rfl rfl, ?_⟩
  refine List.forall_mem_cons.mpr ⟨s_callPV C hFok hF (ct_X10_part l D dA σ) ⟨rfl, rfl⟩ ew1049 em_cl_X10 ew1046 ew1047 ew1048 ew6 ⟨by decide, by decide, by decide +kernel⟩ ⟨by decide, by decide⟩ (by decide +kernel : decode code 1161 = .ok (.invokevirtual 159, 3)) rfl rfl (cntL_0 hkc) (by decide), ?_⟩
  refine List.forall_mem_cons.mpr ⟨s_lcmp C (by decide +kernel : decode code 1164 = .ok (.lcmp, 1)) rfl rfl, ?_⟩
  refine List.forall_mem_cons.mpr ⟨s_ifeqW C (by decide +kernel : decode code 1165 = .ok (.ifCond .eq 111, 3)) (by decide) rfl rfl (cntL_le (by decide)), ?_⟩
  refine List.forall_mem_cons.mpr ⟨s_no, ?_⟩
  refine List.forall_mem_cons.mpr ⟨s_no, ?_⟩
  exact fun _ h => absurd h List.not_mem_nil
set_option maxRecDepth 100000 in
set_option maxHeartbeats 4000000 in
theorem snd_L35 {p : Program} {l : Launch} {e : Env} {s : State} {m : MethodId} {b L k : Nat} {xs : Nat → Int32} {below : List Frame} {meth : Method} {c : Code} {D : va_G} {dA : Nat → ClassId} {σ : Nat → Nat} {A : Nat → Prop} {Z : State → Prop} (C : em_Cx p s m #[Value.ref b] c D em_cl A 4 (em_tys dA) code "WedApartLaw") (hFok : em_Fok (em_F σ)) (hF : em_F σ A s s.heap) (hX : va_X b L xs s s.heap) (hbl : b < s.heap.size) (hbA : ¬ A b) (hσ : σ 11 = b) (hL : L < 2 ^ 31) (hkc : k ≤ 64) (Q : em_Q) : ∀ q ∈ T_L35 L xs, em_Snd p l e room_1 s m #[Value.ref b] below meth c D em_cl dA σ A 4 (cntL k) (fun _ => True) Z Q q.1 q.2 := by
  unfold T_L35
  refine List.forall_mem_cons.mpr ⟨s_aload_n C (by decide +kernel : decode code 1170 = .ok (.aload_n 1, 1)) rfl rfl rfl, ?_⟩
  refine List.forall_mem_cons.mpr ⟨s_aloadX_n C (by decide +kernel : decode code 1171 = .ok (.aload_n 0, 1)) rfl rfl rfl, ?_⟩
  refine List.forall_mem_cons.mpr ⟨s_iload_n C (by decide +kernel : decode code 1172 = .ok (.iload_n 3, 1)) rfl rfl rfl, ?_⟩
  refine List.forall_mem_cons.mpr ⟨s_iconst C (by decide +kernel : decode code 1173 = .ok (.iconst 1, 1)) rfl rfl (by decide), ?_⟩
  refine List.forall_mem_cons.mpr ⟨s_iadd C (by decide +kernel : decode code 1174 = .ok (.iadd, 1)) rfl rfl, ?_⟩
  refine List.forall_mem_cons.mpr ⟨s_sld C hX hbl hbA hσ hL (by decide +kernel : decode code 1175 = .ok (.iaload, 1)) rfl rfl, ?_⟩
  refine List.forall_mem_cons.mpr ⟨s_callVA C (N0 := 0) (N1 := 39) (fun _ _ _ _ => trivial) hFok hF (ct_X9_image l D dA σ) ⟨rfl, rfl⟩ ew649 em_cl_X9 ew646 ew647 ew648 ew1 ⟨by decide, by decide, by decide +kernel⟩ ⟨by decide, by decide⟩ (by decide +kernel : decode code 1176 = .ok (.invokevirtual 160, 3)) rfl rfl (cntL_8 hkc), ?_⟩
  refine List.forall_mem_cons.mpr ⟨s_aload_n C (by decide +kernel : decode code 1179 = .ok (.aload_n 2, 1)) rfl rfl rfl, ?_⟩
  refine List.forall_mem_cons.mpr ⟨s_aloadX_n C (by decide +kernel : decode code 1180 = .ok (.aload_n 0, 1)) rfl rfl rfl, ?_⟩
  refine List.forall_mem_cons.mpr ⟨s_iload_n C (by decide +kernel : decode code 1181 = .ok (.iload_n 3, 1)) rfl rfl rfl, ?_⟩
  refine List.forall_mem_cons.mpr ⟨s_iconst C (by decide +kernel : decode code 1182 = .ok (.iconst 1, 1)) rfl rfl (by decide), ?_⟩
  refine List.forall_mem_cons.mpr ⟨s_iadd C (by decide +kernel : decode code 1183 = .ok (.iadd, 1)) rfl rfl, ?_⟩
  refine List.forall_mem_cons.mpr ⟨s_sld C hX hbl hbA hσ hL (by decide +kernel : decode code 1184 = .ok (.iaload, 1)) rfl rfl, ?_⟩
  refine List.forall_mem_cons.mpr ⟨s_callPV C hFok hF (ct_X10_image l D dA σ) ⟨rfl, rfl⟩ ew1053 em_cl_X10 ew1050 ew1051 ew1052 ew6 ⟨by decide, by decide, by decide +kernel⟩ ⟨by decide, by decide⟩ (by decide +kernel : decode code 1185 = .ok (.invokevirtual 163, 3)) rfl rfl (cntL_0 hkc) (by decide), ?_⟩
  refine List.forall_mem_cons.mpr ⟨s_icmpeqW C (by decide +kernel : decode code 1188 = .ok (.if_icmp .eq 88, 3)) (by decide) rfl rfl (cntL_le (by decide)), ?_⟩
  refine List.forall_mem_cons.mpr ⟨s_no, ?_⟩
  refine List.forall_mem_cons.mpr ⟨s_no, ?_⟩
  exact fun _ h => absurd h List.not_mem_nil
set_option maxRecDepth 100000 in
set_option maxHeartbeats 4000000 in
theorem snd_L36 {p : Program} {l : Launch} {e : Env} {s : State} {m : MethodId} {b L k : Nat} {xs : Nat → Int32} {below : List Frame} {meth : Method} {c : Code} {D : va_G} {dA : Nat → ClassId} {σ : Nat → Nat} {A : Nat → Prop} {Z : State → Prop} (C : em_Cx p s m #[Value.ref b] c D em_cl A 4 (em_tys dA) code "WedApartLaw") (hFok : em_Fok (em_F σ)) (hF : em_F σ A s s.heap) (hX : va_X b L xs s s.heap) (hbl : b < s.heap.size) (hbA : ¬ A b) (hσ : σ 11 = b) (hL : L < 2 ^ 31) (hkc : k ≤ 64) (Q : em_Q) : ∀ q ∈ T_L36 L xs, em_Snd p l e room_1 s m #[Value.ref b] below meth c D em_cl dA σ A 4 (cntL k) (fun _ => True) Z Q q.1 q.2 := by
  unfold T_L36
  refine List.forall_mem_cons.mpr ⟨s_aload_n C (by decide +kernel : decode code 1193 = .ok (.aload_n 1, 1)) rfl rfl rfl, ?_⟩
  refine List.forall_mem_cons.mpr ⟨s_aloadX_n C (by decide +kernel : decode code 1194 = .ok (.aload_n 0, 1)) rfl rfl rfl, ?_⟩
  refine List.forall_mem_cons.mpr ⟨s_iload_n C (by decide +kernel : decode code 1195 = .ok (.iload_n 3, 1)) rfl rfl rfl, ?_⟩
  refine List.forall_mem_cons.mpr ⟨s_iconst C (by decide +kernel : decode code 1196 = .ok (.iconst 1, 1)) rfl rfl (by decide), ?_⟩
  refine List.forall_mem_cons.mpr ⟨s_iadd C (by decide +kernel : decode code 1197 = .ok (.iadd, 1)) rfl rfl, ?_⟩
  refine List.forall_mem_cons.mpr ⟨s_sld C hX hbl hbA hσ hL (by decide +kernel : decode code 1198 = .ok (.iaload, 1)) rfl rfl, ?_⟩
  refine List.forall_mem_cons.mpr ⟨s_callV C hFok hF (ct_X9_from l D dA σ) ⟨rfl, rfl⟩ ew657 em_cl_X9 ew654 ew655 ew656 ew1 ⟨by decide, by decide, by decide +kernel⟩ ⟨by decide, by decide⟩ (by decide +kernel : decode code 1199 = .ok (.invokevirtual 164, 3)) rfl rfl (cntL_0 hkc), ?_⟩
  refine List.forall_mem_cons.mpr ⟨s_aload_n C (by decide +kernel : decode code 1202 = .ok (.aload_n 2, 1)) rfl rfl rfl, ?_⟩
  refine List.forall_mem_cons.mpr ⟨s_aloadX_n C (by decide +kernel : decode code 1203 = .ok (.aload_n 0, 1)) rfl rfl rfl, ?_⟩
  refine List.forall_mem_cons.mpr ⟨s_iload_n C (by decide +kernel : decode code 1204 = .ok (.iload_n 3, 1)) rfl rfl rfl, ?_⟩
  refine List.forall_mem_cons.mpr ⟨s_iconst C (by decide +kernel : decode code 1205 = .ok (.iconst 1, 1)) rfl rfl (by decide), ?_⟩
  refine List.forall_mem_cons.mpr ⟨s_iadd C (by decide +kernel : decode code 1206 = .ok (.iadd, 1)) rfl rfl, ?_⟩
  refine List.forall_mem_cons.mpr ⟨s_sld C hX hbl hbA hσ hL (by decide +kernel : decode code 1207 = .ok (.iaload, 1)) rfl rfl, ?_⟩
  refine List.forall_mem_cons.mpr ⟨s_callPV C hFok hF (ct_X10_from l D dA σ) ⟨rfl, rfl⟩ ew1057 em_cl_X10 ew1054 ew1055 ew1056 ew6 ⟨by decide, by decide, by decide +kernel⟩ ⟨by decide, by decide⟩ (by decide +kernel : decode code 1208 = .ok (.invokevirtual 167, 3)) rfl rfl (cntL_0 hkc) (by decide), ?_⟩
  refine List.forall_mem_cons.mpr ⟨s_icmpeqW C (by decide +kernel : decode code 1211 = .ok (.if_icmp .eq 65, 3)) (by decide) rfl rfl (cntL_le (by decide)), ?_⟩
  refine List.forall_mem_cons.mpr ⟨s_no, ?_⟩
  refine List.forall_mem_cons.mpr ⟨s_no, ?_⟩
  exact fun _ h => absurd h List.not_mem_nil
set_option maxRecDepth 100000 in
set_option maxHeartbeats 4000000 in
theorem snd_L37 {p : Program} {l : Launch} {e : Env} {s : State} {m : MethodId} {b L k : Nat} {xs : Nat → Int32} {below : List Frame} {meth : Method} {c : Code} {D : va_G} {dA : Nat → ClassId} {σ : Nat → Nat} {A : Nat → Prop} {Z : State → Prop} (C : em_Cx p s m #[Value.ref b] c D em_cl A 4 (em_tys dA) code "WedApartLaw") (hFok : em_Fok (em_F σ)) (hF : em_F σ A s s.heap) (hX : va_X b L xs s s.heap) (hbl : b < s.heap.size) (hbA : ¬ A b) (hσ : σ 11 = b) (hL : L < 2 ^ 31) (hkc : k ≤ 64) (Q : em_Q) : ∀ q ∈ T_L37 L xs, em_Snd p l e room_1 s m #[Value.ref b] below meth c D em_cl dA σ A 4 (cntL k) (fun _ => True) Z Q q.1 q.2 := by
  unfold T_L37
  refine List.forall_mem_cons.mpr ⟨s_aload_n C (by decide +kernel : decode code 1216 = .ok (.aload_n 1, 1)) rfl rfl rfl, ?_⟩
  refine List.forall_mem_cons.mpr ⟨s_aloadX_n C (by decide +kernel : decode code 1217 = .ok (.aload_n 0, 1)) rfl rfl rfl, ?_⟩
  refine List.forall_mem_cons.mpr ⟨s_iload_n C (by decide +kernel : decode code 1218 = .ok (.iload_n 3, 1)) rfl rfl rfl, ?_⟩
  refine List.forall_mem_cons.mpr ⟨s_iconst C (by decide +kernel : decode code 1219 = .ok (.iconst 1, 1)) rfl rfl (by decide), ?_⟩
  refine List.forall_mem_cons.mpr ⟨s_iadd C (by decide +kernel : decode code 1220 = .ok (.iadd, 1)) rfl rfl, ?_⟩
  refine List.forall_mem_cons.mpr ⟨s_sld C hX hbl hbA hσ hL (by decide +kernel : decode code 1221 = .ok (.iaload, 1)) rfl rfl, ?_⟩
  refine List.forall_mem_cons.mpr ⟨s_callV C hFok hF (ct_X9_status l D dA σ) ⟨rfl, rfl⟩ ew661 em_cl_X9 ew658 ew659 ew660 ew1 ⟨by decide, by decide, by decide +kernel⟩ ⟨by decide, by decide⟩ (by decide +kernel : decode code 1222 = .ok (.invokevirtual 168, 3)) rfl rfl (cntL_0 hkc), ?_⟩
  refine List.forall_mem_cons.mpr ⟨s_aload_n C (by decide +kernel : decode code 1225 = .ok (.aload_n 2, 1)) rfl rfl rfl, ?_⟩
  refine List.forall_mem_cons.mpr ⟨s_aloadX_n C (by decide +kernel : decode code 1226 = .ok (.aload_n 0, 1)) rfl rfl rfl, ?_⟩
  refine List.forall_mem_cons.mpr ⟨s_iload_n C (by decide +kernel : decode code 1227 = .ok (.iload_n 3, 1)) rfl rfl rfl, ?_⟩
  refine List.forall_mem_cons.mpr ⟨s_iconst C (by decide +kernel : decode code 1228 = .ok (.iconst 1, 1)) rfl rfl (by decide), ?_⟩
  refine List.forall_mem_cons.mpr ⟨s_iadd C (by decide +kernel : decode code 1229 = .ok (.iadd, 1)) rfl rfl, ?_⟩
  refine List.forall_mem_cons.mpr ⟨s_sld C hX hbl hbA hσ hL (by decide +kernel : decode code 1230 = .ok (.iaload, 1)) rfl rfl, ?_⟩
  refine List.forall_mem_cons.mpr ⟨s_callPV C hFok hF (ct_X10_status l D dA σ) ⟨rfl, rfl⟩ ew1061 em_cl_X10 ew1058 ew1059 ew1060 ew6 ⟨by decide, by decide, by decide +kernel⟩ ⟨by decide, by decide⟩ (by decide +kernel : decode code 1231 = .ok (.invokevirtual 171, 3)) rfl rfl (cntL_0 hkc) (by decide), ?_⟩
  refine List.forall_mem_cons.mpr ⟨s_icmpeqW C (by decide +kernel : decode code 1234 = .ok (.if_icmp .eq 42, 3)) (by decide) rfl rfl (cntL_le (by decide)), ?_⟩
  refine List.forall_mem_cons.mpr ⟨s_no, ?_⟩
  refine List.forall_mem_cons.mpr ⟨s_no, ?_⟩
  exact fun _ h => absurd h List.not_mem_nil
set_option maxRecDepth 100000 in
set_option maxHeartbeats 4000000 in
theorem snd_L38 {p : Program} {l : Launch} {e : Env} {s : State} {m : MethodId} {b L k : Nat} {xs : Nat → Int32} {below : List Frame} {meth : Method} {c : Code} {D : va_G} {dA : Nat → ClassId} {σ : Nat → Nat} {A : Nat → Prop} {Z : State → Prop} (C : em_Cx p s m #[Value.ref b] c D em_cl A 4 (em_tys dA) code "WedApartLaw") (hFok : em_Fok (em_F σ)) (hF : em_F σ A s s.heap) (hX : va_X b L xs s s.heap) (hbl : b < s.heap.size) (hbA : ¬ A b) (hσ : σ 11 = b) (hL : L < 2 ^ 31) (hkc : k ≤ 64) (Q : em_Q) : ∀ q ∈ T_L38 L xs, em_Snd p l e room_1 s m #[Value.ref b] below meth c D em_cl dA σ A 4 (cntL k) (fun _ => True) Z Q q.1 q.2 := by
  unfold T_L38
  refine List.forall_mem_cons.mpr ⟨s_aload_n C (by decide +kernel : decode code 1239 = .ok (.aload_n 1, 1)) rfl rfl rfl, ?_⟩
  refine List.forall_mem_cons.mpr ⟨s_aloadX_n C (by decide +kernel : decode code 1240 = .ok (.aload_n 0, 1)) rfl rfl rfl, ?_⟩
  refine List.forall_mem_cons.mpr ⟨s_iload_n C (by decide +kernel : decode code 1241 = .ok (.iload_n 3, 1)) rfl rfl rfl, ?_⟩
  refine List.forall_mem_cons.mpr ⟨s_iconst C (by decide +kernel : decode code 1242 = .ok (.iconst 1, 1)) rfl rfl (by decide), ?_⟩
  refine List.forall_mem_cons.mpr ⟨s_iadd C (by decide +kernel : decode code 1243 = .ok (.iadd, 1)) rfl rfl, ?_⟩
  refine List.forall_mem_cons.mpr ⟨s_sld C hX hbl hbA hσ hL (by decide +kernel : decode code 1244 = .ok (.iaload, 1)) rfl rfl, ?_⟩
  refine List.forall_mem_cons.mpr ⟨s_callV C hFok hF (ct_X9_count l D dA σ) ⟨rfl, rfl⟩ ew665 em_cl_X9 ew662 ew663 ew664 ew1 ⟨by decide, by decide, by decide +kernel⟩ ⟨by decide, by decide⟩ (by decide +kernel : decode code 1245 = .ok (.invokevirtual 172, 3)) rfl rfl (cntL_0 hkc), ?_⟩
  refine List.forall_mem_cons.mpr ⟨s_aload_n C (by decide +kernel : decode code 1248 = .ok (.aload_n 2, 1)) rfl rfl rfl, ?_⟩
  refine List.forall_mem_cons.mpr ⟨s_aloadX_n C (by decide +kernel : decode code 1249 = .ok (.aload_n 0, 1)) rfl rfl rfl, ?_⟩
  refine List.forall_mem_cons.mpr ⟨s_iload_n C (by decide +kernel : decode code 1250 = .ok (.iload_n 3, 1)) rfl rfl rfl, ?_⟩
  refine List.forall_mem_cons.mpr ⟨s_iconst C (by decide +kernel : decode code 1251 = .ok (.iconst 1, 1)) rfl rfl (by decide), ?_⟩
  refine List.forall_mem_cons.mpr ⟨s_iadd C (by decide +kernel : decode code 1252 = .ok (.iadd, 1)) rfl rfl, ?_⟩
  refine List.forall_mem_cons.mpr ⟨s_sld C hX hbl hbA hσ hL (by decide +kernel : decode code 1253 = .ok (.iaload, 1)) rfl rfl, ?_⟩
  refine List.forall_mem_cons.mpr ⟨s_callPV C hFok hF (ct_X10_count l D dA σ) ⟨rfl, rfl⟩ ew1065 em_cl_X10 ew1062 ew1063 ew1064 ew6 ⟨by decide, by decide, by decide +kernel⟩ ⟨by decide, by decide⟩ (by decide +kernel : decode code 1254 = .ok (.invokevirtual 175, 3)) rfl rfl (cntL_0 hkc) (by decide), ?_⟩
  refine List.forall_mem_cons.mpr ⟨s_icmpeqW C (by decide +kernel : decode code 1257 = .ok (.if_icmp .eq 19, 3)) (by decide) rfl rfl (cntL_le (by decide)), ?_⟩
  refine List.forall_mem_cons.mpr ⟨s_no, ?_⟩
  refine List.forall_mem_cons.mpr ⟨s_no, ?_⟩
  exact fun _ h => absurd h List.not_mem_nil
set_option maxRecDepth 100000 in
set_option maxHeartbeats 4000000 in
theorem snd_L39 {p : Program} {l : Launch} {e : Env} {s : State} {m : MethodId} {b L k : Nat} {xs : Nat → Int32} {below : List Frame} {meth : Method} {c : Code} {D : va_G} {dA : Nat → ClassId} {σ : Nat → Nat} {A : Nat → Prop} {Z : State → Prop} (C : em_Cx p s m #[Value.ref b] c D em_cl A 4 (em_tys dA) code "WedApartLaw") (hFok : em_Fok (em_F σ)) (hF : em_F σ A s s.heap) (hX : va_X b L xs s s.heap) (hbl : b < s.heap.size) (hbA : ¬ A b) (hσ : σ 11 = b) (hL : L < 2 ^ 31) (hkc : k ≤ 64) (Q : em_Q) : ∀ q ∈ T_L39 L xs, em_Snd p l e room_1 s m #[Value.ref b] below meth c D em_cl dA σ A 4 (cntL k) (fun _ => True) Z Q q.1 q.2 := by
  unfold T_L39
  refine List.forall_mem_cons.mpr ⟨s_aload_n C (by decide +kernel : decode code 1262 = .ok (.aload_n 1, 1)) rfl rfl rfl, ?_⟩
  refine List.forall_mem_cons.mpr ⟨s_callV C hFok hF (ct_X9_digest l D dA σ) ⟨rfl, rfl⟩ ew673 em_cl_X9 ew670 ew671 ew672 ew1 ⟨by decide, by decide, by decide +kernel⟩ ⟨by decide, by decide⟩ (by decide +kernel : decode code 1263 = .ok (.invokevirtual 176, 3)) rfl rfl (cntL_0 hkc), ?_⟩
  refine List.forall_mem_cons.mpr ⟨s_aload_n C (by decide +kernel : decode code 1266 = .ok (.aload_n 2, 1)) rfl rfl rfl, ?_⟩
  refine List.forall_mem_cons.mpr ⟨s_callPV C hFok hF (ct_X10_digest l D dA σ) ⟨rfl, rfl⟩ ew1073 em_cl_X10 ew1070 ew1071 ew1072 ew6 ⟨by decide, by decide, by decide +kernel⟩ ⟨by decide, by decide⟩ (by decide +kernel : decode code 1267 = .ok (.invokevirtual 180, 3)) rfl rfl (cntL_0 hkc) (by decide), ?_⟩
  refine List.forall_mem_cons.mpr ⟨s_lcmp C (by decide +kernel : decode code 1270 = .ok (.lcmp, 1)) rfl rfl, ?_⟩
  refine List.forall_mem_cons.mpr ⟨s_ifeqW C (by decide +kernel : decode code 1271 = .ok (.ifCond .eq 5, 3)) (by decide) rfl rfl (cntL_le (by decide)), ?_⟩
  refine List.forall_mem_cons.mpr ⟨s_no, ?_⟩
  refine List.forall_mem_cons.mpr ⟨s_no, ?_⟩
  exact fun _ h => absurd h List.not_mem_nil
